/-! answers depend on those alone who are there -/
theorem q_simR_T0 {th : Int} {h f a h' f' a' : Int → Int} (s : q_simR th h f a h' f' a') : q_sim th (q_T0 h f a) (q_T0 h' f' a') := ⟨s, fun _ _ _ => ⟨rfl, rfl⟩, rfl, rfl, rfl⟩
theorem q_NI_sim {th ke n pt : Int} {pad h f a h' f' a' : Int → Int} (s : q_simR th h f a h' f' a') : (q_NI th ke pad n pt h f a).1 = (q_NI th ke pad n pt h' f' a').1 ∧ (q_NI th ke pad n pt h f a).2.1 = (q_NI th ke pad n pt h' f' a').2.1 ∧ q_sim th (q_NI th ke pad n pt h f a).2.2 (q_NI th ke pad n pt h' f' a').2.2 :=
  q_run_sim (ke := ke) (pad := pad) (n := n) (pt := pt) q_hrT_ok q_hrT_ok 61 0 _ _ (q_simR_T0 s)
theorem q_simR_sy {th : Int} {h f a h' f' a' : Int → Int} (s : q_simR th h f a h' f' a') : q_simR th h' f' a' h f a := fun x hx => ⟨(s x hx).1.symm, (s x hx).2.1.symm, (s x hx).2.2.symm⟩
theorem S_state_sim {th g w : Int} {h f a h' f' a' : Int → Int} (s : q_simR th h f a h' f' a') : S_state h f a th g w = S_state h' f' a' th g w := by
  unfold S_state
  by_cases hg : q_has th g = true
  · rw [if_pos hg, if_pos hg, (s g hg).1, (s g hg).2.2, q_shn_sim s hg]
  · rw [if_neg hg, if_neg hg]
theorem S_judge_sim {th ke n pt FL w : Int} {pad h f a h' f' a' : Int → Int} (s : q_simR th h f a h' f' a') : S_judge FL w (q_NI th ke pad n pt h f a) = S_judge FL w (q_NI th ke pad n pt h' f' a') := by
  have e := q_NI_sim (ke := ke) (n := n) (pt := pt) (pad := pad) s
  unfold S_judge
  rw [e.1, e.2.1]
theorem S_bar_sim {th ke n pt FL : Int} {pad h f a h' f' a' : Int → Int} (s : q_simR th h f a h' f' a') : S_bar FL (q_NI th ke pad n pt h f a) ↔ S_bar FL (q_NI th ke pad n pt h' f' a') := by
  have e := q_NI_sim (ke := ke) (n := n) (pt := pt) (pad := pad) s
  unfold S_bar
  rw [e.1]
theorem S_done_sim {th ke n pt FL : Int} {pad h f a h' f' a' : Int → Int} (s : q_simR th h f a h' f' a') : S_done FL (q_NI th ke pad n pt h f a) = S_done FL (q_NI th ke pad n pt h' f' a') := by
  have e := q_NI_sim (ke := ke) (n := n) (pt := pt) (pad := pad) s
  unfold S_done
  rw [e.1, e.2.2.2.2.2.1]
theorem S_behind_sim {th ke n pt FL g w : Int} {pad h f a h' f' a' : Int → Int} (s : q_simR th h f a h' f' a') : S_behind th g w FL (q_NI th ke pad n pt h f a) = S_behind th g w FL (q_NI th ke pad n pt h' f' a') := by
  have e := q_NI_sim (ke := ke) (n := n) (pt := pt) (pad := pad) s
  unfold S_behind
  by_cases hg : q_has th g = true
  · have hi := q_has_in hg
    rw [if_pos hg, if_pos hg, e.1, (e.2.2.1 g hg).1, (e.2.2.1 g hg).2.2, (e.2.2.2.1 g hi.1 hi.2).1, (e.2.2.2.1 g hi.1 hi.2).2]
  · rw [if_neg hg, if_neg hg]
theorem S_star_sim {th : Int} {s s' : q_T} (e : q_sim th s s') : S_star th (qt_h s) = S_star th (qt_h s') := q_set_congr (fun x _ _ => by
  cases hx : q_has th x
  · simp
  · rw [(e.1 x hx).1])
theorem S_waste_sim {th ke n pt FL w : Int} {pad h f a h' f' a' : Int → Int} (s : q_simR th h f a h' f' a') : S_waste th w FL (q_NI th ke pad n pt h f a) = S_waste th w FL (q_NI th ke pad n pt h' f' a') := by
  have e := q_NI_sim (ke := ke) (n := n) (pt := pt) (pad := pad) s
  unfold S_waste
  rw [e.1, e.2.2.2.2.1, e.2.2.2.2.2.2, S_star_sim e.2.2]
theorem S_served_sim {th ke pl p : Int} {h f a h' f' a' : Int → Int} (s : q_simR th h f a h' f' a') : S_served h f a th ke pl p = S_served h' f' a' th ke pl p := by
  unfold S_served
  rw [q_set_congr (fun x _ _ => q_tk_sim (ke := ke) (pl := pl) (p := p) s x)]
theorem S_feign_sim {th ke g p : Int} {h f a h' f' a' : Int → Int} (s : q_simR th h f a h' f' a') : S_feign h f a th ke g p = S_feign h' f' a' th ke g p := by
  unfold S_feign
  by_cases hg : q_has th g = true
  · rw [if_pos hg, if_pos hg, q_first_congr 10 0 (fun x _ _ => q_fgP_sim (ke := ke) (p := p) s hg)]
  · rw [if_neg hg, if_neg hg]
theorem q_ins_S {th pl : Int} {h f a h' f' a' : Int → Int} (s : q_simR th h f a h' f' a') : q_set (q_ins a th pl) = q_set (q_ins a' th pl) := q_set_congr (fun x _ _ => q_ins_sim s x)
theorem q_ins_th {th pl x : Int} {a : Int → Int} (h : q_has (q_set (q_ins a th pl)) x = true) : q_has th x = true := by
  have hi := q_has_in h
  rw [q_has_set hi.1 hi.2] at h
  unfold q_ins at h
  simp only [Bool.and_eq_true] at h
  exact h.2
theorem S_rests_sim {th ke pl p i : Int} {h f a h' f' a' : Int → Int} (s : q_simR th h f a h' f' a') : S_rests h f a th ke pl p i = S_rests h' f' a' th ke pl p i := by
  unfold S_rests
  rw [← q_ins_S s]
  have e : q_R3 h f a th ke (q_set (q_ins a th pl)) pl p i = q_R3 h' f' a' th ke (q_set (q_ins a th pl)) pl p i := by
    have W : ∀ r x, q_has (q_set (q_ins a th pl)) x = true → q_W3 h f a th ke (q_set (q_ins a th pl)) pl p r x = q_W3 h' f' a' th ke (q_set (q_ins a th pl)) pl p r x := fun r x hx => by
      have ht := q_ins_th hx
      have sF : q_simR th h (q_F3 (q_set (q_ins a th pl)) f r) a h' (q_F3 (q_set (q_ins a th pl)) f' r) a' := fun y hy => ⟨(s y hy).1, by unfold q_F3; rw [(s y hy).2.1], (s y hy).2.2⟩
      unfold q_W3 q_wth q_left
      rw [q_set_congr (fun y _ _ => q_tk_sim (ke := ke) (pl := pl) (p := p) sF y), (sF x ht).1, (sF x ht).2.1]
    unfold q_R3
    refine q_rsl_congr _ _ _ (fun r _ _ => ⟨?_, rfl⟩)
    unfold q_P3 q_rst
    refine q_all6_congr (fun g _ _ => ?_)
    unfold q_rstG
    cases hg : q_has (q_set (q_ins a th pl)) g
    · rfl
    · congr 1
      exact q_all3_congr (fun c _ _ => by rw [W _ g hg, W r g hg])
  rw [e]
theorem q_bsN_congr {v v' f : Int → Int} {b : Int} : ∀ n : Nat, (∀ x : Int, 0 ≤ x → x < n → v x = v' x) → q_bsN v f b n = q_bsN v' f b n
  | 0, _ => rfl
  | n + 1, h => by
    rw [q_bsN_s, q_bsN_s, q_bsN_congr n (fun x a b => h x a (by omega)), h n (by omega) (by omega)]
theorem S_round_sim {th ke g m d w : Int} {h f a h' f' a' : Int → Int} (s : q_simR th h f a h' f' a') : S_round h f a th ke g m d w = S_round h' f' a' th ke g m d w := by
  unfold S_round
  by_cases hg : q_has th g = true
  · rw [if_pos hg, if_pos hg]
    have e : q_rnd h f a th ke g m d 21 = q_rnd h' f' a' th ke g m d 21 := by
      unfold q_rnd
      exact q_bsN_congr _ (fun y _ _ => ((q_wk_sim (ke := ke) (d := d) (g := g) (st := fun x => y / q_pw 3 (m - 1 - x).toNat % 3) q_hrT_ok q_hrT_ok m.toNat (fun _ _ => rfl) (q_simR_T0 s)).1 g hg).1)
    rw [e]
  · rw [if_neg hg, if_neg hg]
theorem S_rules_sim {th ke pl p ru w : Int} {h f a h' f' a' : Int → Int} (s : q_simR th h f a h' f' a') : S_rules h f a th ke pl p ru w = S_rules h' f' a' th ke pl p ru w := by
  unfold S_rules
  rw [← q_ins_S s, q_set_congr (fun x _ _ => q_ru_sim (ke := ke) (ru := ru) (pl := pl) (p := p) s x)]
  have e : ∀ x, 0 ≤ x → x < 6 → (if q_has (q_set (q_ins a th pl)) x = true then q_left h (q_set (q_ru h' f' a' th ke ru pl p)) x else 0) = if q_has (q_set (q_ins a th pl)) x = true then q_left h' (q_set (q_ru h' f' a' th ke ru pl p)) x else 0 := fun x _ _ => by
    by_cases hx : q_has (q_set (q_ins a th pl)) x = true
    · rw [if_pos hx, if_pos hx]
      unfold q_left
      rw [(s x (q_ins_th hx)).1]
    · rw [if_neg hx, if_neg hx]
  rw [q_s6_congr e, q_m6_congr e]
theorem q_fit_ds {d s d' s' tk tk' : Int → Int} : ∀ n : Nat, (∀ i : Int, 0 ≤ i → i < n → d i = d' i ∧ s i = s' i) → (∀ p, tk p = tk' p) → q_fit d s tk n = q_fit d' s' tk' n
  | 0, _, _ => rfl
  | n + 1, h, ht => by
    rw [q_fit_s, q_fit_s, q_fit_ds n (fun i a b => h i a (by omega)) ht, (h n (by omega) (by omega)).1, (h n (by omega) (by omega)).2, ht]
theorem q_T6_sim {th ke S r p : Int} {h f a h' f' a' : Int → Int} (s : q_simR th h f a h' f' a') : q_T6 h f a th ke S r p = q_T6 h' f' a' th ke S r p :=
  q_set_congr (fun y _ _ => q_tk_sim (fun z hz => ⟨by unfold q_H6; rw [(s z hz).1], (s z hz).2⟩) y)
def q_dsR (n : Int) (d s d' s' : Int → Int) : Prop := ∀ i, 0 ≤ i → i < n → d i = d' i ∧ s i = s' i
theorem q_fitR_sim {th ke S n r : Int} {d s d' s' h f a h' f' a' : Int → Int} (m : q_simR th h f a h' f' a') (e : q_dsR n d s d' s') (hn : 0 ≤ n) : q_fitR h f a th ke S d s n r = q_fitR h' f' a' th ke S d' s' n r := by
  unfold q_fitR
  exact q_fit_ds _ (fun i a b => e i a (by omega)) (fun p => q_T6_sim m)
theorem q_W_sim {th ke n : Int} {d s d' s' h f a h' f' a' : Int → Int} (m : q_simR th h f a h' f' a') (e : q_dsR n d s d' s') (hn : 0 ≤ n) :
    q_Wc h f a th ke d s n = q_Wc h' f' a' th ke d' s' n ∧ q_Wm h f a th ke d s n = q_Wm h' f' a' th ke d' s' n ∧ ∀ g, q_has th g = true → q_Wl h f a th ke d s n g = q_Wl h' f' a' th ke d' s' n g ∧ q_Wg h f a th ke d s n g = q_Wg h' f' a' th ke d' s' n g := by
  have eS := q_ins_S (pl := 0) m
  have eW : q_Wf h f a th ke d s n = q_Wf h' f' a' th ke d' s' n := by
    funext r
    unfold q_Wf
    rw [eS]
    exact q_fitR_sim m e hn
  have eN : q_WN a th = q_WN a' th := by
    unfold q_WN
    rw [eS]
  refine ⟨?_, ?_, fun g hg => ⟨?_, ?_⟩⟩
  · unfold q_Wc
    rw [eW, eN]
  · funext p
    unfold q_Wm
    have : q_Wt h f a th ke d s n p = q_Wt h' f' a' th ke d' s' n p := by
      funext q
      unfold q_Wt
      rw [eW, eN, eS]
      exact q_ctN_congr _ (fun r _ _ => by rw [q_T6_sim m])
    rw [this]
  · unfold q_Wl
    rw [eW, eN, eS]
    exact q_mnN_congr _ (fun r _ _ => ⟨rfl, by unfold q_H6; rw [(m g hg).1]⟩)
  · unfold q_Wg
    rw [eW, eN, eS]
    exact q_mxP_congr _ (fun r _ _ => ⟨rfl, by unfold q_H6; rw [(m g hg).1]⟩)
theorem S_worlds_sim {th ke n g w : Int} {d s d' s' h f a h' f' a' : Int → Int} (m : q_simR th h f a h' f' a') (e : q_dsR n d s d' s') (hn : 0 ≤ n) : S_worlds h f a th ke d s n g w = S_worlds h' f' a' th ke d' s' n g w := by
  have W := q_W_sim (ke := ke) m e hn
  have eS := q_ins_S (pl := 0) m
  unfold S_worlds
  rw [eS, q_ins_sim m g, W.1]
  by_cases h1 : g = -1 ∨ q_ins a' th 0 g = true
  · rw [if_pos h1, if_pos h1]
    by_cases h4 : g = -1
    · rw [if_pos h4, if_pos h4]
    · have hg : q_has th g = true := by
        have := h1.resolve_left h4
        unfold q_ins at this
        simp only [Bool.and_eq_true] at this
        exact this.2
      rw [(W.2.2 g hg).1, (W.2.2 g hg).2]
  · rw [if_neg h1, if_neg h1]
theorem S_tells_sim {th ke n w : Int} {d s d' s' h f a h' f' a' : Int → Int} (m : q_simR th h f a h' f' a') (e : q_dsR n d s d' s') (hn : 0 ≤ n) : S_tells h f a th ke d s n w = S_tells h' f' a' th ke d' s' n w := by
  have W := q_W_sim (ke := ke) m e hn
  have eS := q_ins_S (pl := 0) m
  unfold S_tells
  rw [eS, W.1, W.2.1]
theorem S_portions_sim {th n w : Int} {h f a h' f' a' : Int → Int} (s : q_simR th h f a h' f' a') : S_portions h a th n w = S_portions h' a' th n w := by
  unfold S_portions
  rw [q_S_gain_sim s]
theorem q_vd_congr {F F' : Int → Int} (e : ∀ x, 0 ≤ x → x < 6 → F x = F' x) : ∀ (n : Nat) (S fo c : Int), q_vd F n S fo c = q_vd F' n S fo c
  | 0, _, _, _ => rfl
  | n + 1, S, fo, c => by
    rw [q_vd_s, q_vd_s, e _ (by omega) (by omega), q_vd_congr e n]
theorem q_least {V : Int → Bool} : ∀ (n : Nat), (∃ c : Int, 0 ≤ c ∧ c < n ∧ V c = true) → ∃ c : Int, 0 ≤ c ∧ c < n ∧ V c = true ∧ ∀ x, 0 ≤ x → x < c → V x = false
  | 0, h => by
    obtain ⟨c, a, b, _⟩ := h
    omega
  | n + 1, h => by
    by_cases hn : ∃ c : Int, 0 ≤ c ∧ c < n ∧ V c = true
    · obtain ⟨c, a, b, d⟩ := q_least n hn
      exact ⟨c, a, by omega, d⟩
    · obtain ⟨c, a, b, d⟩ := h
      refine ⟨c, a, b, d, fun x x0 x1 => ?_⟩
      cases hv : V x
      · rfl
      · exact absurd ⟨x, x0, by omega, hv⟩ hn
theorem S_seats_sim {th pl i : Int} {F F' h f a h' f' a' : Int → Int} (s : q_simR th h f a h' f' a') (hF : q_fm F) (hF' : q_fm F') (e : ∀ x, 0 ≤ x → x < 6 → F x = F' x) : S_seats F a th pl i = S_seats F' a' th pl i := by
  have hvR := q_set_R (q_ins a th pl)
  have hm := q_cnt_R (q_has (q_set (q_ins a th pl)))
  have hr : ∀ G, q_fm G → q_rows G (q_set (q_ins a th pl)) = q_ctN (q_vd G (q_cnt (q_has (q_set (q_ins a th pl)))).toNat (q_set (q_ins a th pl)) 0) (q_pw 6 (q_cnt (q_has (q_set (q_ins a th pl)))).toNat).toNat := fun G hG => by
    rw [q_vd_cnt hG _ _ 0 hvR (by omega) (by omega)]
    unfold q_rows
    have hz := q_cnt_0s hvR
    by_cases h0 : q_set (q_ins a th pl) = 0
    · rw [if_pos h0, if_pos (by have := hz.mpr h0; omega)]
    · rw [if_neg h0, if_neg (fun q => h0 (hz.mp (by omega)))]
  have eV : q_vd F (q_cnt (q_has (q_set (q_ins a th pl)))).toNat (q_set (q_ins a th pl)) 0 = q_vd F' (q_cnt (q_has (q_set (q_ins a th pl)))).toNat (q_set (q_ins a th pl)) 0 := funext (fun c => q_vd_congr e _ _ _ c)
  have er : q_rows F (q_set (q_ins a th pl)) = q_rows F' (q_set (q_ins a th pl)) := by rw [hr F hF, hr F' hF', eV]
  unfold S_seats
  rw [← q_ins_S s, er]
  by_cases h1 : 0 ≤ pl ∧ pl ≤ 2
  · rw [if_pos h1, if_pos h1]
    by_cases h2 : i = -1
    · rw [if_pos h2, if_pos h2]
    · rw [if_neg h2, if_neg h2]
      by_cases h3 : 0 ≤ i ∧ i < q_cnt (q_has (q_set (q_ins a th pl))) ∧ ¬ q_rows F' (q_set (q_ins a th pl)) = 0
      · rw [if_pos h3, if_pos h3]
        have hpos := q_ctN_R (q_vd F' (q_cnt (q_has (q_set (q_ins a th pl)))).toNat (q_set (q_ins a th pl)) 0) (q_pw 6 (q_cnt (q_has (q_set (q_ins a th pl)))).toNat).toNat
        rw [← hr F' hF'] at hpos
        have hex := q_ctN_pos (P := q_vd F' (q_cnt (q_has (q_set (q_ins a th pl)))).toNat (q_set (q_ins a th pl)) 0) (q_pw 6 (q_cnt (q_has (q_set (q_ins a th pl)))).toNat).toNat (by rw [← hr F' hF']; omega)
        obtain ⟨c0, a0, a1, a2, a3⟩ := q_least _ hex
        rw [q_pwN] at a1
        have k1 := q_vd_first hF' _ _ 0 (-6) c0 i.toNat hvR (by omega) (by omega) a0 a1 a2 a3 (by omega)
        rw [← eV] at a2 a3
        have k2 := q_vd_first hF _ _ 0 (-6) c0 i.toNat hvR (by omega) (by omega) a0 a1 a2 a3 (by omega)
        rw [q_sit_it, q_sit_it, k1, k2]
      · rw [if_neg h3, if_neg h3]
  · rw [if_neg h1, if_neg h1]
theorem S_belch_sim {th g p t w : Int} {h f a h' f' a' : Int → Int} (s : q_simR th h f a h' f' a') : S_belch h f a th g p t w = S_belch h' f' a' th g p t w := by
  unfold S_belch
  by_cases hg : q_has th g = true
  · rw [if_pos hg, if_pos hg, (s g hg).2.2]
    have eF : q_set (fun x => q_ins a th (a' g) x && decide (0 < f x)) = q_set (fun x => q_ins a' th (a' g) x && decide (0 < f' x)) := q_set_congr (fun x _ _ => by
      rw [q_ins_sim s x]
      cases hx : q_has th x
      · simp [q_ins, hx]
      · rw [(s x hx).2.1])
    have eH : q_set (q_hun h a th (a' g)) = q_set (q_hun h' a' th (a' g)) := q_set_congr (fun x _ _ => q_hun_sim s x)
    have e1 : q_ch h f a th (a' g) g p t = q_ch h' f' a' th (a' g) g p t := by
      unfold q_ch
      rw [q_hun_sim s g, eF, eH]
      have : q_smN (q_chT h f (q_set (fun x => q_ins a' th (a' g) x && decide (0 < f' x))) (q_set (q_hun h' a' th (a' g))) g p t) 64 = q_smN (q_chT h' f' (q_set (fun x => q_ins a' th (a' g) x && decide (0 < f' x))) (q_set (q_hun h' a' th (a' g))) g p t) 64 := q_smN_congr 64 (fun c _ _ => by
        have sh : ∀ x, q_has th x = true → q_shA h f c x = q_shA h' f' c x := fun x hx => by
          unfold q_shA
          rw [(s x hx).1, q_shn_sim s hx]
        have pl : q_place (q_shA h f c) (q_set (q_hun h' a' th (a' g))) g = q_place (q_shA h' f' c) (q_set (q_hun h' a' th (a' g))) g := by
          unfold q_place
          refine q_cnt_congr (fun x x0 x1 => ?_)
          rw [q_has_set x0 x1]
          cases hx : q_hun h' a' th (a' g) x
          · rfl
          · rw [sh x (q_hun_th hx), sh g hg]
        unfold q_chT
        rw [pl])
      rw [this]
    have e2 : q_blo f a th (a' g) = q_blo f' a' th (a' g) := by
      unfold q_blo
      rw [eF]
    rw [e1, e2]
  · rw [if_neg hg, if_neg hg]
theorem S_host_sim {th ke n FL : Int} {pad h f a h' f' a' : Int → Int} (s : q_simR th h f a h' f' a') : S_host th FL (fun v => q_NI th ke pad n v h f a) = S_host th FL (fun v => q_NI th ke pad n v h' f' a') := by
  have eP : q_hsP (fun v => q_NI th ke pad n v h f a) th = q_hsP (fun v => q_NI th ke pad n v h' f' a') th := by
    funext v
    unfold q_hsP
    show decide (q_and (S_star th (qt_h (q_NI th ke pad n v h f a).2.2)) (q_xor (S_star th (qt_h (q_NI th ke pad n 0 h f a).2.2)) (-1)) = 0) = _
    rw [S_star_sim (q_NI_sim s).2.2, S_star_sim (q_NI_sim (pt := 0) s).2.2]
  unfold S_host
  show (if FL = -6 ∧ (q_NI th ke pad n 0 h f a).1 = -6 then _ else _) = _
  rw [eP, (q_NI_sim (pt := 0) s).1]
theorem S_year_sim {th ke seed m w : Int} {h f a h' f' a' : Int → Int} (s : q_simR th h f a h' f' a') : S_year h f a th ke seed m w = S_year h' f' a' th ke seed m w := by
  have e := q_yr_sim (ke := ke) q_hrT_ok q_hrT_ok m.toNat (x := seed) (q_simR_T0 s)
  unfold S_year
  rw [q_s6_congr (fun x x0 x1 => (e.2.2.1 x x0 x1).1), e.2.2.2.1]
  have e3 : q_s6 (fun x => if q_has th x = true then qt_h (q_yr (q_hrT th) th ke m.toNat (seed, q_T0 h f a)).2 x else 0) = q_s6 (fun x => if q_has th x = true then qt_h (q_yr (q_hrT th) th ke m.toNat (seed, q_T0 h' f' a')).2 x else 0) := q_s6_congr (fun x _ _ => by
    by_cases hx : q_has th x = true
    · rw [if_pos hx, if_pos hx, (e.2.1 x hx).1]
    · rw [if_neg hx, if_neg hx])
  rw [e3]
theorem S_fds_sim {F F' : Int → Int} (e : ∀ x, 0 ≤ x → x < 6 → F x = F' x) : S_fds F = S_fds F' := by
  unfold S_fds
  rw [q_s6_congr (fun x x0 x1 => by rw [e x x0 x1])]
theorem S_told_sim {th ke n sz w : Int} {F F' h f a h' f' a' : Int → Int} (s : q_simR th h f a h' f' a') (e : ∀ x, 0 ≤ x → x < 6 → F x = F' x) : S_told f F th ke n sz w = S_told f' F' th ke n sz w := by
  unfold S_told
  rw [S_fds_sim e]
  by_cases hw : (0 ≤ w ∧ w ≤ 15) ∧ q_has th (w - 10) = true
  · rw [if_pos hw, if_pos hw, (s _ hw.2).2.1]
  · rw [if_neg hw, if_neg hw]
