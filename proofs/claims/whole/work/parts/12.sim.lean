/-! nights: what stays, ranges, and that only those who are there matter -/
def q_keep (M M' : q_M) (t : Nat) : Prop := (∀ j, (j < t ∨ t + 8 < j) → M' j = M j) ∧ M' (t + 8) = M (t + 8) ∧ M' (t + 1) = M (t + 1) ∧ M' t 5 = M t 5 ∧ M' t 7 = M t 7 ∧ M' t 8 = M t 8
theorem q_keep_rf {M : q_M} {t : Nat} : q_keep M M t := ⟨fun _ _ => rfl, rfl, rfl, rfl, rfl, rfl⟩
theorem q_keep_tr {M M1 M2 : q_M} {t : Nat} (h : q_keep M M1 t) (k : q_keep M1 M2 t) : q_keep M M2 t :=
  ⟨fun j hj => (k.1 j hj).trans (h.1 j hj), k.2.1.trans h.2.1, k.2.2.1.trans h.2.2.1, k.2.2.2.1.trans h.2.2.2.1, k.2.2.2.2.1.trans h.2.2.2.2.1, k.2.2.2.2.2.trans h.2.2.2.2.2⟩
theorem q_keep_up {M : q_M} {t k : Nat} {i v : Int} (hk : t ≤ k ∧ k ≤ t + 7 ∧ k ≠ t + 1) (hi : k = t → i ≠ 5 ∧ i ≠ 7 ∧ i ≠ 8) : q_keep M (q_up M k i v) t := by
  have e : ∀ j : Int, (j = 5 ∨ j = 7 ∨ j = 8) → q_up M k i v t j = M t j := by
    intro j hj
    by_cases h : t = k
    · subst h
      rw [q_up_at, if_neg]
      have := hi rfl
      omega
    · rw [q_up_ne h]
  exact ⟨fun j hj => q_up_ne (by omega), q_up_ne (by omega), q_up_ne (by omega), e 5 (by omega), e 7 (by omega), e 8 (by omega)⟩
theorem q_keep_fr {M M' : q_M} {t k : Nat} (h : q_fr k M M') (hk : t < k ∧ k ≤ t + 7 ∧ k ≠ t + 1) : q_keep M M' t :=
  ⟨fun j hj => h j (by omega), h _ (by omega), h _ (by omega), by rw [h t (by omega)], by rw [h t (by omega)], by rw [h t (by omega)]⟩
/-- ranges -/
def q_Tv (s : q_T) : Prop := q_hv (qt_h s) ∧ q_fvv (qt_f s) ∧ q_av (qt_a s)
def q_Tb (s : q_T) (K : Int) : Prop := (∀ x, 0 ≤ x → x < 6 → (0 ≤ qt_p s x ∧ qt_p s x ≤ K) ∧ (0 ≤ qt_c s x ∧ qt_c s x ≤ K)) ∧ (-(9 * K) ≤ qt_l s ∧ qt_l s ≤ 9 * K)
theorem q_cv_of {M : q_M} {t : Nat} (h4 : 0 ≤ M (t + 1) 4 ∧ M (t + 1) 4 ≤ 63) (h5 : 0 ≤ M (t + 1) 5 ∧ M (t + 1) 5 ≤ 9) (h : q_Tv (q_tv M t)) : q_cv M (t + 1) := ⟨h4, h5, h.1, h.2.1, h.2.2⟩
theorem q_Tv_of {M : q_M} {t : Nat} (h : q_cv M (t + 1)) : q_Tv (q_tv M t) := ⟨h.2.2.1, h.2.2.2.1, h.2.2.2.2⟩
theorem q_left_v {h : Int → Int} {s : Int} (hh : q_hv h) : q_hv (q_left h s) := fun g h0 h1 => q_left_R hh h0 h1
theorem q_row_hv {h : Int → Int} {g v : Int} (hh : q_hv h) (hv : 0 ≤ v ∧ v ≤ 20) : q_hv (q_row h g v) := fun x h0 h1 => by
  unfold q_row
  split
  · exact hv
  · exact hh x h0 h1
theorem q_row_fv {h : Int → Int} {g v : Int} (hh : q_fvv h) (hv : 0 ≤ v ∧ v ≤ 9) : q_fvv (q_row h g v) := fun x h0 h1 => by
  unfold q_row
  split
  · exact hv
  · exact hh x h0 h1
theorem q_row_av {h : Int → Int} {g v : Int} (hh : q_av h) (hv : 0 ≤ v ∧ v ≤ 2) : q_av (q_row h g v) := fun x h0 h1 => by
  unfold q_row
  split
  · exact hv
  · exact hh x h0 h1
theorem q_dish_v {th ke pl p : Int} {s : q_T} (h : q_Tv s) : q_Tv (q_dish th ke s pl p) := ⟨q_left_v h.1, h.2.1, h.2.2⟩
theorem q_dish_b {th ke pl p K : Int} {s : q_T} (h : q_Tb s K) (hp : 0 ≤ p ∧ p ≤ 9) : q_Tb (q_dish th ke s pl p) (K + 1) := by
  refine ⟨fun x h0 h1 => ?_, ?_⟩
  · have h2 := h.1 x h0 h1
    have h3 := q_bB (q_has (q_TK th ke s pl p) x)
    have h4 := q_bB (q_has (q_FO th ke s pl) x)
    show (0 ≤ qt_p s x + q_b (q_has (q_TK th ke s pl p) x) ∧ qt_p s x + q_b (q_has (q_TK th ke s pl p) x) ≤ K + 1) ∧ (0 ≤ qt_c s x + q_b (q_has (q_FO th ke s pl) x) ∧ qt_c s x + q_b (q_has (q_FO th ke s pl) x) ≤ K + 1)
    omega
  · have h2 := h.2
    have h3 := q_cnt_R (q_has (q_TK th ke s pl p))
    show -(9 * (K + 1)) ≤ qt_l s + (p - q_cnt (q_has (q_TK th ke s pl p))) ∧ qt_l s + (p - q_cnt (q_has (q_TK th ke s pl p))) ≤ 9 * (K + 1)
    omega
theorem q_goT_v {g a : Int} {s : q_T} (h : q_Tv s) (hg : 0 ≤ g ∧ g < 6) (ha : 0 ≤ a ∧ a ≤ 2) : q_Tv (q_goT s g a) := by
  have := h.1 g hg.1 hg.2
  exact ⟨q_row_hv h.1 (by omega), h.2.1, q_row_av h.2.2 ha⟩
theorem q_feT_v {g v : Int} {s : q_T} (h : q_Tv s) (hv : 0 ≤ v ∧ v ≤ 9) : q_Tv (q_feT s g v) := ⟨h.1, q_row_fv h.2.1 hv, h.2.2⟩
theorem q_hrA_v {h : Int → Int} (hh : q_hv h) : q_hv (q_hrA h) := fun x h0 h1 => by
  have := hh x h0 h1
  unfold q_hrA
  split <;> omega
theorem q_hrT_v {th : Int} {h : Int → Int} (hh : q_hv h) : q_hv (q_hrT th h) := fun x h0 h1 => by
  have := hh x h0 h1
  unfold q_hrT
  split <;> omega
/-- signs of a night without fault -/
def q_okS (sg nx : Int) : Prop := sg = 46 ∨ (97 ≤ sg ∧ sg < 100 ∧ 49 ≤ nx ∧ nx ≤ 57) ∨ (65 ≤ sg ∧ sg < 71 ∧ ((97 ≤ nx ∧ nx < 100) ∨ (48 ≤ nx ∧ nx ≤ 57)))
theorem q_Tb_mono {s : q_T} {K K' : Int} (h : q_Tb s K) (hk : K ≤ K') : q_Tb s K' :=
  ⟨fun x h0 h1 => by have := h.1 x h0 h1; omega, by have := h.2; omega⟩
theorem q_act_vb {hr : (Int → Int) → Int → Int} {th ke sg nx pt K : Int} {s : q_T} (hhr : ∀ h, q_hv h → q_hv (hr h)) (hs : q_okS sg nx) (hp : 0 ≤ pt ∧ pt ≤ 9) (h : q_Tv s) (hb : q_Tb s K) (hK : 0 ≤ K) : q_Tv (q_act hr th ke s sg nx pt).2 ∧ q_Tb (q_act hr th ke s sg nx pt).2 (K + 1) := by
  have hb1 : q_Tb s (K + 1) := q_Tb_mono hb (by omega)
  unfold q_act
  by_cases h1 : sg = 46
  · rw [if_pos h1]
    exact ⟨⟨hhr _ h.1, h.2.1, h.2.2⟩, hb1⟩
  · rw [if_neg h1]
    by_cases h2 : 97 ≤ sg ∧ sg < 100
    · rw [if_pos h2]
      split
      · exact ⟨h, hb1⟩
      · exact ⟨q_dish_v h, q_dish_b hb (by unfold q_okS at hs; omega)⟩
    · rw [if_neg h2]
      have hs2 : 65 ≤ sg ∧ sg < 71 ∧ ((97 ≤ nx ∧ nx < 100) ∨ (48 ≤ nx ∧ nx ≤ 57)) := by unfold q_okS at hs; omega
      by_cases h3 : 97 ≤ nx ∧ nx < 100
      · rw [if_pos h3]
        split
        · exact ⟨q_goT_v h (by omega) (by omega), hb1⟩
        · exact ⟨h, hb1⟩
      · rw [if_neg h3]
        split
        · exact ⟨q_feT_v h (by omega), hb1⟩
        · exact ⟨h, hb1⟩
/-- the two agree on who is there -/
def q_sim (th : Int) (s s' : q_T) : Prop := (∀ x, q_has th x = true → qt_h s x = qt_h s' x ∧ qt_f s x = qt_f s' x ∧ qt_a s x = qt_a s' x) ∧ (∀ x, 0 ≤ x → x < 6 → qt_p s x = qt_p s' x ∧ qt_c s x = qt_c s' x) ∧ qt_l s = qt_l s' ∧ qt_k s = qt_k s' ∧ qt_u s = qt_u s'
def q_simR (th : Int) (h f a h' f' a' : Int → Int) : Prop := ∀ x, q_has th x = true → h x = h' x ∧ f x = f' x ∧ a x = a' x
theorem q_ins_sim {th pl : Int} {h f a h' f' a' : Int → Int} (s : q_simR th h f a h' f' a') (x : Int) : q_ins a th pl x = q_ins a' th pl x := by
  unfold q_ins
  cases hx : q_has th x
  · simp
  · rw [(s x hx).2.2]
theorem q_hun_sim {th pl : Int} {h f a h' f' a' : Int → Int} (s : q_simR th h f a h' f' a') (x : Int) : q_hun h a th pl x = q_hun h' a' th pl x := by
  unfold q_hun
  rw [q_ins_sim s x]
  cases hx : q_has th x
  · simp [q_ins, hx]
  · rw [(s x hx).1]
theorem q_shn_sim {th : Int} {h f a h' f' a' : Int → Int} (s : q_simR th h f a h' f' a') {x : Int} (hx : q_has th x = true) : q_shn h f x = q_shn h' f' x := by
  unfold q_shn
  rw [(s x hx).1, (s x hx).2.1]
theorem q_hun_th {th pl : Int} {h a : Int → Int} {x : Int} (hx : q_hun h a th pl x = true) : q_has th x = true := by
  unfold q_hun q_ins at hx
  simp only [Bool.and_eq_true] at hx
  exact hx.1.2
theorem q_el_sim {th ke pl : Int} {h f a h' f' a' : Int → Int} (s : q_simR th h f a h' f' a') (x : Int) : q_el h f a th ke pl x = q_el h' f' a' th ke pl x := by
  unfold q_el
  rw [q_hun_sim s x]
  cases hx : q_hun h' a' th pl x
  · rfl
  · have ht := q_hun_th hx
    unfold q_fo
    rw [q_shn_sim s ht, (s x ht).1]
theorem q_el_th {th ke pl : Int} {h f a : Int → Int} {x : Int} (hx : q_el h f a th ke pl x = true) : q_has th x = true := by
  unfold q_el at hx
  simp only [Bool.and_eq_true] at hx
  exact q_hun_th hx.1
theorem q_tk_sim {th ke pl p : Int} {h f a h' f' a' : Int → Int} (s : q_simR th h f a h' f' a') (x : Int) : q_tk h f a th ke pl p x = q_tk h' f' a' th ke pl p x := by
  unfold q_tk
  rw [q_el_sim s x]
  cases hx : q_el h' f' a' th ke pl x
  · rfl
  · have ht := q_el_th hx
    have : q_rk (q_shn h f) (q_el h f a th ke pl) x = q_rk (q_shn h' f') (q_el h' f' a' th ke pl) x := by
      unfold q_rk
      refine q_cnt_congr (fun y _ _ => ?_)
      rw [q_el_sim s y, q_shn_sim s ht]
      cases hy : q_el h' f' a' th ke pl y
      · rfl
      · rw [q_shn_sim s (q_el_th hy)]
    rw [this]
theorem q_sim_R {th : Int} {s s' : q_T} (h : q_sim th s s') : q_simR th (qt_h s) (qt_f s) (qt_a s) (qt_h s') (qt_f s') (qt_a s') := h.1
theorem q_TK_sim {th ke pl p : Int} {s s' : q_T} (h : q_sim th s s') : q_TK th ke s pl p = q_TK th ke s' pl p := q_set_congr (fun x _ _ => q_tk_sim (q_sim_R h) x)
theorem q_FO_sim {th ke pl : Int} {s s' : q_T} (h : q_sim th s s') : q_FO th ke s pl = q_FO th ke s' pl := by
  unfold q_FO
  have e : q_set (q_hun (qt_h s) (qt_a s) th pl) = q_set (q_hun (qt_h s') (qt_a s') th pl) := q_set_congr (fun x _ _ => q_hun_sim (q_sim_R h) x)
  rw [e]
  refine q_set_congr (fun x x0 x1 => ?_)
  rw [q_has_set x0 x1]
  cases hx : q_hun (qt_h s') (qt_a s') th pl x
  · simp
  · have ht := q_hun_th hx
    unfold q_fo
    rw [q_shn_sim (q_sim_R h) ht, (h.1 x ht).1]
theorem q_dish_sim {th ke pl p : Int} {s s' : q_T} (h : q_sim th s s') : q_sim th (q_dish th ke s pl p) (q_dish th ke s' pl p) := by
  refine ⟨fun x hx => ⟨?_, (h.1 x hx).2.1, (h.1 x hx).2.2⟩, fun x x0 x1 => ⟨?_, ?_⟩, ?_, h.2.2.2.1, ?_⟩
  · show q_left (qt_h s) (q_TK th ke s pl p) x = q_left (qt_h s') (q_TK th ke s' pl p) x
    unfold q_left
    rw [q_TK_sim h, (h.1 x hx).1]
  · show qt_p s x + q_b (q_has (q_TK th ke s pl p) x) = qt_p s' x + q_b (q_has (q_TK th ke s' pl p) x)
    rw [q_TK_sim h, (h.2.1 x x0 x1).1]
  · show qt_c s x + q_b (q_has (q_FO th ke s pl) x) = qt_c s' x + q_b (q_has (q_FO th ke s' pl) x)
    rw [q_FO_sim h, (h.2.1 x x0 x1).2]
  · show qt_l s + (p - q_cnt (q_has (q_TK th ke s pl p))) = qt_l s' + (p - q_cnt (q_has (q_TK th ke s' pl p)))
    rw [q_TK_sim h, h.2.2.1]
  · show (if q_TK th ke s pl p = 0 ∧ qt_u s = -6 then qt_k s else qt_u s) = if q_TK th ke s' pl p = 0 ∧ qt_u s' = -6 then qt_k s' else qt_u s'
    rw [q_TK_sim h, h.2.2.2.1, h.2.2.2.2]
theorem q_row_eq {f f' : Int → Int} {g v x : Int} (h : f x = f' x) : q_row f g v x = q_row f' g v x := by
  unfold q_row
  rw [h]
theorem q_goT_sim {th g a : Int} {s s' : q_T} (h : q_sim th s s') (hg : q_has th g = true) : q_sim th (q_goT s g a) (q_goT s' g a) := by
  refine ⟨fun x hx => ⟨?_, (h.1 x hx).2.1, q_row_eq (h.1 x hx).2.2⟩, h.2⟩
  show q_row (qt_h s) g (min 20 (qt_h s g + 1)) x = q_row (qt_h s') g (min 20 (qt_h s' g + 1)) x
  rw [(h.1 g hg).1]
  exact q_row_eq (h.1 x hx).1
theorem q_feT_sim {th g v : Int} {s s' : q_T} (h : q_sim th s s') : q_sim th (q_feT s g v) (q_feT s' g v) := ⟨fun x hx => ⟨(h.1 x hx).1, q_row_eq (h.1 x hx).2.1, (h.1 x hx).2.2⟩, h.2⟩
def q_hrok (hr : (Int → Int) → Int → Int) (th : Int) : Prop := ∀ h x, q_has th x = true → hr h x = min 20 (h x + 1)
theorem q_hrA_ok {th : Int} : q_hrok q_hrA th := fun h x hx => by
  unfold q_hrA
  rw [if_pos (q_has_in hx)]
theorem q_hrT_ok {th : Int} : q_hrok (q_hrT th) th := fun h x hx => by
  unfold q_hrT
  rw [if_pos hx]
theorem q_hoT_sim {th : Int} {hr hr' : (Int → Int) → Int → Int} (o : q_hrok hr th) (o' : q_hrok hr' th) {s s' : q_T} (h : q_sim th s s') : q_sim th (q_hoT hr s) (q_hoT hr' s') := by
  refine ⟨fun x hx => ⟨?_, (h.1 x hx).2.1, (h.1 x hx).2.2⟩, h.2⟩
  show hr (qt_h s) x = hr' (qt_h s') x
  rw [o _ x hx, o' _ x hx, (h.1 x hx).1]
theorem q_goW_sim {th g a : Int} {s s' : q_T} (h : q_sim th s s') : q_goW th s g a = q_goW th s' g a := by
  unfold q_goW
  by_cases hg : q_has th g = true
  · rw [if_pos hg, if_pos hg, (h.1 g hg).2.2]
  · rw [if_neg hg, if_neg hg]
theorem q_act_sim {th ke sg nx pt : Int} {hr hr' : (Int → Int) → Int → Int} (o : q_hrok hr th) (o' : q_hrok hr' th) {s s' : q_T} (h : q_sim th s s') : (q_act hr th ke s sg nx pt).1 = (q_act hr' th ke s' sg nx pt).1 ∧ q_sim th (q_act hr th ke s sg nx pt).2 (q_act hr' th ke s' sg nx pt).2 := by
  unfold q_act
  by_cases h1 : sg = 46
  · rw [if_pos h1, if_pos h1]
    exact ⟨rfl, q_hoT_sim o o' h⟩
  · rw [if_neg h1, if_neg h1]
    by_cases h2 : 97 ≤ sg ∧ sg < 100
    · rw [if_pos h2, if_pos h2]
      have e : q_set (q_ins (qt_a s) th (sg - 97)) = q_set (q_ins (qt_a s') th (sg - 97)) := q_set_congr (fun x _ _ => q_ins_sim (q_sim_R h) x)
      rw [e]
      split
      · exact ⟨rfl, h⟩
      · exact ⟨rfl, q_dish_sim h⟩
    · rw [if_neg h2, if_neg h2]
      by_cases h3 : 97 ≤ nx ∧ nx < 100
      · rw [if_pos h3, if_pos h3, q_goW_sim h]
        by_cases h4 : q_goW th s' (sg - 65) (nx - 97) = 0
        · rw [if_pos h4, if_pos h4]
          refine ⟨rfl, q_goT_sim h ?_⟩
          unfold q_goW at h4
          by_cases h5 : q_has th (sg - 65) = true
          · exact h5
          · rw [if_neg h5] at h4
            omega
        · rw [if_neg h4, if_neg h4]
          exact ⟨rfl, h⟩
      · rw [if_neg h3, if_neg h3]
        split
        · exact ⟨rfl, q_feT_sim h⟩
        · exact ⟨rfl, h⟩
theorem q_tick_sim {th : Int} {s s' : q_T} (h : q_sim th s s') : q_sim th (q_tick s) (q_tick s') := ⟨h.1, h.2.1, h.2.2.1, by show qt_k s + 1 = qt_k s' + 1; rw [h.2.2.2.1], h.2.2.2.2⟩
theorem q_run_u (hr : (Int → Int) → Int → Int) (th ke : Int) (pad : Int → Int) (n pt : Int) (m : Nat) (i : Int) (s : q_T) : q_run hr th ke pad n pt (m + 1) i s = if n ≤ i then (-6, -6, s)
    else if (q_act hr th ke s (pad i) (pad (i + 1)) pt).1 = 0 then q_run hr th ke pad n pt m (if pad i = 46 then i + 1 else i + 2) (q_tick (q_act hr th ke s (pad i) (pad (i + 1)) pt).2)
    else (qt_k s, (q_act hr th ke s (pad i) (pad (i + 1)) pt).1, (q_act hr th ke s (pad i) (pad (i + 1)) pt).2) := rfl
theorem q_run_sim {th ke : Int} {pad : Int → Int} {n pt : Int} {hr hr' : (Int → Int) → Int → Int} (o : q_hrok hr th) (o' : q_hrok hr' th) : ∀ (m : Nat) (i : Int) (s s' : q_T), q_sim th s s' → (q_run hr th ke pad n pt m i s).1 = (q_run hr' th ke pad n pt m i s').1 ∧ (q_run hr th ke pad n pt m i s).2.1 = (q_run hr' th ke pad n pt m i s').2.1 ∧ q_sim th (q_run hr th ke pad n pt m i s).2.2 (q_run hr' th ke pad n pt m i s').2.2
  | 0, _, _, _, h => ⟨rfl, rfl, h⟩
  | m + 1, i, s, s', h => by
    rw [q_run_u, q_run_u]
    by_cases h1 : n ≤ i
    · rw [if_pos h1, if_pos h1]
      exact ⟨rfl, rfl, h⟩
    · rw [if_neg h1, if_neg h1]
      have ha := q_act_sim (ke := ke) (sg := pad i) (nx := pad (i + 1)) (pt := pt) o o' h
      rw [ha.1]
      by_cases h2 : (q_act hr' th ke s' (pad i) (pad (i + 1)) pt).1 = 0
      · rw [if_pos h2, if_pos h2]
        exact q_run_sim o o' m _ _ _ (q_tick_sim ha.2)
      · rw [if_neg h2, if_neg h2]
        exact ⟨h.2.2.2.1, rfl, ha.2⟩
def q_T0 (h f a : Int → Int) : q_T := (h, f, a, fun _ => 0, fun _ => 0, 0, 0, -6)
theorem q_sim_tr {th : Int} {s1 s2 s3 : q_T} (h : q_sim th s1 s2) (k : q_sim th s2 s3) : q_sim th s1 s3 :=
  ⟨fun x hx => ⟨(h.1 x hx).1.trans (k.1 x hx).1, (h.1 x hx).2.1.trans (k.1 x hx).2.1, (h.1 x hx).2.2.trans (k.1 x hx).2.2⟩, fun x x0 x1 => ⟨(h.2.1 x x0 x1).1.trans (k.2.1 x x0 x1).1, (h.2.1 x x0 x1).2.trans (k.2.1 x x0 x1).2⟩, h.2.2.1.trans k.2.2.1, h.2.2.2.1.trans k.2.2.2.1, h.2.2.2.2.trans k.2.2.2.2⟩
/-- at a sign of a night without fault -/
theorem q_flt_ok {pad : Int → Int} {n : Int} {m : Nat} {i : Int} (h : q_flt pad n (m + 1) i = -6) (h0 : 0 ≤ i) (hi : i < n) : q_okS (pad i) (pad (i + 1)) ∧ (¬ pad i = 46 → i + 1 < n) ∧ q_flt pad n m (if pad i = 46 then i + 1 else i + 2) = -6 := by
  rw [q_flt_u, if_neg (by omega)] at h
  by_cases h1 : pad i = 46
  · rw [if_pos h1] at h
    rw [if_pos h1]
    exact ⟨Or.inl h1, fun q => absurd h1 q, h⟩
  · rw [if_neg h1] at h
    rw [if_neg h1]
    by_cases h2 : q_house (pad i) = false ∧ q_guest (pad i) = false
    · rw [if_pos h2] at h
      omega
    · rw [if_neg h2] at h
      by_cases h3 : i + 1 < n ∧ q_foll (pad i) (pad (i + 1)) = true
      · rw [if_pos h3] at h
        refine ⟨?_, fun _ => h3.1, h⟩
        have h4 := h3.2
        unfold q_foll q_house at h4
        unfold q_house q_guest at h2
        unfold q_okS
        by_cases h5 : 97 ≤ pad i ∧ pad i < 100
        · simp [h5] at h4
          omega
        · simp [h5] at h4 h2
          omega
      · rw [if_neg h3] at h
        omega
