/-! the reference's rounds, rows at rest, rules -/
theorem q_ru_sim {th ke ru pl p : Int} {h f a h' f' a' : Int → Int} (s : q_simR th h f a h' f' a') (x : Int) : q_ru h f a th ke ru pl p x = q_ru h' f' a' th ke ru pl p x := by
  unfold q_ru
  by_cases hr : ru = 0
  · rw [if_pos hr, if_pos hr]
    exact q_tk_sim s x
  · rw [if_neg hr, if_neg hr, q_hun_sim s x]
    cases hx : q_hun h' a' th pl x
    · rfl
    · have ht := q_hun_th hx
      have : q_rk (q_rum h ru) (q_hun h a th pl) x = q_rk (q_rum h' ru) (q_hun h' a' th pl) x := by
        unfold q_rk
        refine q_cnt_congr (fun y _ _ => ?_)
        rw [q_hun_sim s y]
        cases hy : q_hun h' a' th pl y
        · rfl
        · unfold q_rum
          rw [(s x ht).1, (s y (q_hun_th hy)).1]
      rw [this]
theorem q_ab_m1 {s : Int} (h0 : 0 ≤ s) (h1 : s ≤ 63) : (q_ab s (-1) : Int) = q_cnt (q_has s) := q_dec64 (p := fun s => (q_ab s (-1) : Int) = q_cnt (q_has s)) (by decide +kernel) h0 h1
def q_all0 (P : Int → Bool) : Nat → Bool
  | 0 => true
  | n + 1 => q_all0 P n && P n
theorem q_all0_6 (P : Int → Bool) : q_all0 P 6 = q_all6 P := rfl
theorem q_all0_3 (P : Int → Bool) : q_all0 P 3 = q_all3 P := rfl
theorem q_all0_s (P : Int → Bool) (n : Nat) : q_all0 P (n + 1) = (q_all0 P n && P n) := rfl
theorem q_num_s (S : Int) (F : Int → Int) (n : Nat) : q_num S F (n + 1) = if q_has S n = true then q_num S F n * 10 + F n else q_num S F n := rfl
theorem q_ab_ne {S x y : Int} (h0 : 0 ≤ S) (h1 : S ≤ 63) (hx : q_has S x = true) (hy : q_has S y = true) (h : ¬ x = y) : ¬ q_ab S x = q_ab S y := by
  have hi := q_has_in hx
  have hj := q_has_in hy
  have hab : ∀ u v : Nat, u < 6 → v < 6 → ∀ n : Nat, n < 64 → (!(q_has (n : Int) (u : Int) && q_has (n : Int) (v : Int) && (q_ab (n : Int) (u : Int) == q_ab (n : Int) (v : Int))) || (u == v)) = true := by
    intro u v hu hv
    rcases (show u = 0 ∨ u = 1 ∨ u = 2 ∨ u = 3 ∨ u = 4 ∨ u = 5 by omega) with rfl | rfl | rfl | rfl | rfl | rfl <;> rcases (show v = 0 ∨ v = 1 ∨ v = 2 ∨ v = 3 ∨ v = 4 ∨ v = 5 by omega) with rfl | rfl | rfl | rfl | rfl | rfl <;> decide +kernel
  have := hab x.toNat y.toNat (by omega) (by omega) S.toNat (by omega)
  rw [Int.toNat_of_nonneg hi.1, Int.toNat_of_nonneg hj.1, Int.toNat_of_nonneg h0, hx, hy] at this
  intro he
  rw [he] at this
  simp at this
  omega
theorem q_ab_lt {S g : Int} (h0 : 0 ≤ S) (h1 : S ≤ 63) (hg : q_has S g = true) : (q_ab S g : Int) < q_cnt (q_has S) := by
  have hi := q_has_in hg
  have := q_dec64 (p := fun S => q_has S g = true → (q_ab S g : Int) < q_cnt (q_has S)) (q_dec6 (p := fun g => ∀ n : Nat, n < 64 → q_has (n : Int) g = true → (q_ab (n : Int) g : Int) < q_cnt (q_has (n : Int))) (by decide +kernel) hi.1 hi.2) h0 h1
  exact this hg
theorem q_dig_rep {S r g c x : Int} (h0 : 0 ≤ S) (h1 : S ≤ 63) (hn : q_cnt (q_has S) ≤ 4) (hg : q_has S g = true) (hx : q_has S x = true) (r0 : 0 ≤ r) (hc : 0 ≤ c ∧ c ≤ 2) : q_dig S (q_rep S r g c) 3 x = if x = g then c else q_dig S r 3 x := by
  have hab := q_ab_lt h0 h1 hg
  have hax := q_ab_lt h0 h1 hx
  have hne : ¬ x = g → ¬ q_ab S x = q_ab S g := fun h => q_ab_ne h0 h1 hx hg h
  unfold q_dig q_rep
  by_cases hxg : x = g
  · rw [if_pos hxg, hxg]
    generalize q_ab S g = j at *
    rcases (show j = 0 ∨ j = 1 ∨ j = 2 ∨ j = 3 by omega) with rfl | rfl | rfl | rfl <;> (simp [q_pw] <;> omega)
  · rw [if_neg hxg]
    have hne2 := hne hxg
    generalize q_ab S g = j at *
    generalize q_ab S x = i at *
    rcases (show j = 0 ∨ j = 1 ∨ j = 2 ∨ j = 3 by omega) with rfl | rfl | rfl | rfl <;> rcases (show i = 0 ∨ i = 1 ∨ i = 2 ∨ i = 3 by omega) with rfl | rfl | rfl | rfl <;> first | (exfalso; omega) | (simp [q_pw] <;> omega)
theorem q_F3_rep {S r g c : Int} {f : Int → Int} (h0 : 0 ≤ S) (h1 : S ≤ 63) (hn : q_cnt (q_has S) ≤ 4) (hg : q_has S g = true) (r0 : 0 ≤ r) (hc : 0 ≤ c ∧ c ≤ 2) : q_F3 S f (q_rep S r g c) = q_row (q_F3 S f r) g (c * 3) := by
  funext x
  show (if q_has S x = true then q_dig S (q_rep S r g c) 3 x * 3 else f x) = if x = g then c * 3 else (if q_has S x = true then q_dig S r 3 x * 3 else f x)
  by_cases hx : q_has S x = true
  · rw [if_pos hx, q_dig_rep h0 h1 hn hg hx r0 hc, if_pos hx]
    by_cases hxg : x = g
    · rw [if_pos hxg, if_pos hxg]
    · rw [if_neg hxg, if_neg hxg]
  · rw [if_neg hx, if_neg hx]
    by_cases hxg : x = g
    · rw [hxg] at hx
      exact absurd hg hx
    · rw [if_neg hxg]
/-- guests as they are, of a round or a year -/
def q_swp (s s' : q_T) : q_T := (qt_h s', qt_f s', qt_a s', qt_p s, qt_c s, qt_l s, qt_k s, qt_u s)
def q_sR (th : Int) (s s' : q_T) : Prop := q_simR th (qt_h s) (qt_f s) (qt_a s) (qt_h s') (qt_f s') (qt_a s')
theorem q_sR_swp {th : Int} {s s' : q_T} (h : q_sR th s s') : q_sim th s (q_swp s s') := ⟨h, fun _ _ _ => ⟨rfl, rfl⟩, rfl, rfl, rfl⟩
theorem q_sR_dish {th ke pl p : Int} {s s' : q_T} (h : q_sR th s s') : q_sR th (q_dish th ke s pl p) (q_dish th ke s' pl p) := (q_dish_sim (ke := ke) (pl := pl) (p := p) (q_sR_swp h)).1
theorem q_sR_go {th g a : Int} {s s' : q_T} (h : q_sR th s s') (hg : q_has th g = true) : q_sR th (q_goT s g a) (q_goT s' g a) := (q_goT_sim (a := a) (q_sR_swp h) hg).1
theorem q_sR_fe {th g v : Int} {s s' : q_T} (h : q_sR th s s') : q_sR th (q_feT s g v) (q_feT s' g v) := (q_feT_sim (g := g) (v := v) (q_sR_swp h)).1
theorem q_sR_ho {th : Int} {s s' : q_T} (h : q_sR th s s') : q_sR th (q_hoT (q_hrT th) s) (q_hoT (q_hrT th) s') := (q_hoT_sim q_hrT_ok q_hrT_ok (q_sR_swp h)).1
theorem q_sR_TK {th ke pl p : Int} {s s' : q_T} (h : q_sR th s s') : q_TK th ke s pl p = q_TK th ke s' pl p := by
  have := q_TK_sim (ke := ke) (pl := pl) (p := p) (q_sR_swp h)
  exact this
theorem q_sR_W {th g a : Int} {s s' : q_T} (h : q_sR th s s') : q_goW th s g a = q_goW th s' g a := by
  have := q_goW_sim (g := g) (a := a) (q_sR_swp h)
  exact this
theorem q_sR_ins {th pl : Int} {s s' : q_T} (h : q_sR th s s') : q_set (q_ins (qt_a s) th pl) = q_set (q_ins (qt_a s') th pl) := q_set_congr (fun x _ _ => q_ins_sim h x)
theorem q_sR_sul {th u l : Int} {s s' : q_T} (h : q_sR th s s') : q_sR th (q_sul s u l) s' := h
theorem q_sR_bia {th ke pl p : Int} {s s' : q_T} (h : q_sR th s s') : q_sR th (q_bia th ke s pl p) (q_bia th ke s' pl p) := by
  unfold q_bia
  rw [q_sR_ins h]
  split
  · exact q_sR_dish h
  · exact h
def q_dpo (d b : Int) : Int := if b = 0 then d / 100 else if b = 1 then d / 10 % 10 else d % 10
def q_b3 (th ke d : Int) (s : q_T) : Nat → q_T
  | 0 => s
  | n + 1 => q_bia th ke (q_b3 th ke d s n) n (q_dpo d n)
theorem q_b3_s (th ke d : Int) (s : q_T) (n : Nat) : q_b3 th ke d s (n + 1) = q_bia th ke (q_b3 th ke d s n) n (q_dpo d n) := rfl
theorem q_wk_s (hr : (Int → Int) → Int → Int) (th ke d g : Int) (st : Int → Int) (n : Nat) (s : q_T) : q_wk hr th ke d g st (n + 1) s = q_hoT hr (q_b3 th ke d (q_wg th (q_wk hr th ke d g st n s) g (st n)) 3) := rfl
theorem q_sR_bia1 {th ke pl p : Int} {s s' : q_T} (h : q_sR th s s') (hp : 0 < p) (hi : ¬ q_set (q_ins (qt_a s) th pl) = 0) : q_sR th (q_dish th ke s pl p) (q_bia th ke s' pl p) := by
  unfold q_bia
  rw [if_pos ⟨hp, by rw [← q_sR_ins h]; exact hi⟩]
  exact q_sR_dish h
theorem q_sR_bia0 {th ke pl p : Int} {s s' : q_T} (h : q_sR th s s') (hp : ¬ (0 < p ∧ ¬ q_set (q_ins (qt_a s) th pl) = 0)) : q_sR th s (q_bia th ke s' pl p) := by
  unfold q_bia
  rw [if_neg (by rw [← q_sR_ins h]; exact hp)]
  exact h
theorem q_pc_dish {M N : q_M} {th ke pl p u l K : Int} (h : q_pc M K) (e : q_v9 N = q_sul (q_dish th ke (q_v9 M) pl p) u l) : q_pc N (K + 1) := fun x h0 h1 => by
  have e10 : N 10 x = M 10 x + q_b (q_has (q_TK th ke (q_v9 M) pl p) x) := congrFun (congrArg qt_p e) x
  have e11 : N 11 x = M 11 x + q_b (q_has (q_FO th ke (q_v9 M) pl) x) := congrFun (congrArg qt_c e) x
  have h2 := h x h0 h1
  have h3 := q_bB (q_has (q_TK th ke (q_v9 M) pl p) x)
  have h4 := q_bB (q_has (q_FO th ke (q_v9 M) pl) x)
  omega
theorem q_zv_dish {M N : q_M} {th ke pl p u l : Int} (h : q_zv M) (k : q_kz M N) (e : q_v9 N = q_sul (q_dish th ke (q_v9 M) pl p) u l) : q_zv N := by
  have : q_Tv (q_v9 N) := by rw [e]; exact q_dish_v (s := q_v9 M) h.2
  exact ⟨q_z0_kz h.1 k, this⟩
theorem q_zv_T {M N : q_M} {s : q_T} (h : q_zv M) (k : q_kz M N) (e : q_v9 N = s) (hs : q_Tv s) : q_zv N := by
  have : q_Tv (q_v9 N) := by rw [e]; exact hs
  exact ⟨q_z0_kz h.1 k, this⟩
theorem q_bsN_b0 {v f : Int → Int} {a b : Int} : ∀ n : Nat, (∀ x : Int, 0 ≤ x → x < (n + 1 : Nat) → v x < a ∧ v x < b) → q_bsN v f a (n + 1) = q_bsN v f b (n + 1)
  | 0, h => by
    have := h 0 (by omega) (by omega)
    rw [q_bsN_s, q_bsN_s]
    show (if v 0 < a then _ else _) = (if v 0 < b then _ else _)
    rw [if_pos this.1, if_pos this.2]
  | n + 1, h => by
    rw [q_bsN_s, q_bsN_s v f b, q_bsN_b0 n (fun x h0 h1 => h x h0 (by omega))]
theorem q_pw3_m {m : Int} (h0 : 0 ≤ m) (h1 : m ≤ 6) : 1 ≤ q_pw 3 m.toNat ∧ q_pw 3 m.toNat ≤ 729 := by
  rcases (show m = 0 ∨ m = 1 ∨ m = 2 ∨ m = 3 ∨ m = 4 ∨ m = 5 ∨ m = 6 by omega) with rfl | rfl | rfl | rfl | rfl | rfl | rfl <;> decide
theorem q_pw_s (b : Int) (n : Nat) : q_pw b (n + 1) = q_pw b n * b := rfl
theorem q_pw_d {b : Int} (hb : 0 < b) (n : Nat) : q_pw b (n + 1) / b = q_pw b n := by
  rw [q_pw_s]
  exact Int.mul_ediv_cancel _ (by omega)
theorem q_wk_v {th ke d g : Int} {st : Int → Int} {s : q_T} (hs : q_Tv s) (hg : 0 ≤ g ∧ g < 6) (hst : ∀ i : Nat, 0 ≤ st i ∧ st i ≤ 2) : ∀ n : Nat, q_Tv (q_wk (q_hrT th) th ke d g st n s)
  | 0 => hs
  | n + 1 => by
    have h := q_wk_v (th := th) (ke := ke) (d := d) hs hg hst n
    have bia : ∀ (s : q_T) (pl p : Int), q_Tv s → q_Tv (q_bia th ke s pl p) := fun s pl p hs => by
      unfold q_bia
      split
      · exact q_dish_v hs
      · exact hs
    have wg : q_Tv (q_wg th (q_wk (q_hrT th) th ke d g st n s) g (st n)) := by
      unfold q_wg
      split
      · exact q_goT_v h hg (hst n)
      · exact h
    have h3 := bia _ 2 (d % 10) (bia _ 1 (d / 10 % 10) (bia _ 0 (d / 100) wg))
    exact ⟨q_hrT_v h3.1, h3.2⟩
theorem q_ab_le {S x : Int} : (q_ab S x : Int) ≤ q_cnt (q_has S) := by
  have h : q_cnt (fun y => q_has S y && decide (x < y)) ≤ q_cnt (q_has S) := q_s6_le (fun y _ _ => by
    show q_b (q_has S y && decide (x < y)) ≤ q_b (q_has S y)
    cases q_has S y <;> cases decide (x < y) <;> decide)
  have := q_cnt_R (fun y => q_has S y && decide (x < y))
  unfold q_ab
  omega
theorem q_pw3_81 {n : Nat} (h : n ≤ 4) : 1 ≤ q_pw 3 n ∧ q_pw 3 n ≤ 81 := by
  rcases (show n = 0 ∨ n = 1 ∨ n = 2 ∨ n = 3 ∨ n = 4 by omega) with rfl | rfl | rfl | rfl | rfl <;> decide
theorem q_S_rests {M N : q_M} {pl p i v : Int} (h : q_an M N) (hv : v = q_set (q_ins (N 9) (N 0 0) pl)) (d1 : 0 ≤ pl ∧ pl ≤ 2) (d2 : 1 ≤ p ∧ p ≤ 9) (hn : q_cnt (q_has v) ≤ 4) : S_rests (M 1) (M 2) (M 3) (M 0 0) (M 0 4) pl p i = q_rsl (q_P3 (N 7) (N 8) (N 9) (N 0 0) (N 0 4) v pl p) (q_D3 v) i (q_pw 3 (q_cnt (q_has v)).toNat).toNat 0 0 := by
  have e : q_set (q_ins (M 3) (M 0 0) pl) = v := by
    rw [hv, h.1 0 (by omega)]
    exact q_set_congr (fun x _ _ => (q_ins_sim (q_agR_sim (q_an_ag h)) x).symm)
  unfold S_rests
  rw [if_pos d1, if_pos d2, e, if_neg (by omega)]
  have ag : q_agR (M 1) (M 2) (M 3) (N 7) (N 8) (N 9) := fun x h0 h1 => by
    have := q_an_ag h x h0 h1
    exact ⟨this.1.symm, this.2.1.symm, this.2.2.symm⟩
  rw [q_R3_ag ag, h.1 0 (by omega)]
  rfl
theorem q_P3_eq {h f a : Int → Int} {th ke S pl p r : Int} : q_P3 h f a th ke S pl p r = q_all6 (q_rstG S (q_W3 h f a th ke S pl p) r) := rfl
theorem q_an_sR {M M1 N : q_M} (kz : q_kz M M1) (h : q_an M1 N) : q_sR (M 0 0) (q_v9 N) (q_T0 (M 1) (M 2) (M 3)) := fun x hx => by
  have hi := q_has_in hx
  have := (h.2 x hi.1 hi.2).1
  rw [kz.1 1 (by omega), kz.1 2 (by omega), kz.1 3 (by omega)] at this
  exact this
theorem q_an_pc {M N : q_M} (h : q_an M N) : q_pc N 0 := fun x h0 h1 => by
  rw [(h.2 x h0 h1).2.1, (h.2 x h0 h1).2.2]
  omega
theorem q_dg3 {y n : Int} (hy : 0 ≤ y) (hn : 1 ≤ n) : 0 ≤ y / n ∧ y / n ≤ y ∧ 0 ≤ y / n % 3 ∧ y / n % 3 ≤ 2 := by
  have := Int.ediv_nonneg hy (show 0 ≤ n by omega)
  have := Int.ediv_le_self n hy
  omega
theorem q_pc_go {M : q_M} {g a v K : Int} (h : q_pc M K) : q_pc (q_up (q_up M 9 g a) 7 g v) K := by
  unfold q_pc
  rw [q_up_ne (by omega), q_up_ne (by omega), q_up_ne (by omega), q_up_ne (by omega)]
  exact h
theorem q_pc_fe {M : q_M} {g v K : Int} (h : q_pc M K) : q_pc (q_up M 8 g v) K := by
  unfold q_pc
  rw [q_up_ne (by omega), q_up_ne (by omega)]
  exact h
theorem q_pc_ho {M N : q_M} {K : Int} (h : q_pc M K) (f : q_fr 7 M N) : q_pc N K := by
  unfold q_pc
  rw [f 10 (by omega), f 11 (by omega)]
  exact h
theorem q_pc_mo {M : q_M} {K K' : Int} (h : q_pc M K) (hk : K ≤ K') : q_pc M K' := fun x h0 h1 => by
  have := h x h0 h1
  omega
theorem q_zv_go {M : q_M} {g a : Int} (h : q_zv M) (hg : 0 ≤ g ∧ g < 6) (ha : 0 ≤ a ∧ a ≤ 2) : q_zv (q_up (q_up M 9 g a) 7 g (min 20 (M 7 g + 1))) :=
  q_zv_T h (q_kz_tr (q_kz_up (by omega)) (q_kz_up (by omega))) q_v9_go (q_goT_v (s := q_v9 M) h.2 hg ha)
theorem q_zv_ho {M N : q_M} (h : q_zv M) (f : q_fr 7 M N) (e : N 7 = q_hrT (M 0 0) (M 7)) : q_zv N :=
  q_zv_T h (q_kz_fr f (by omega)) (q_v9_ho f e) ⟨q_hrT_v h.2.1, h.2.2⟩
theorem q_S_round {h f a : Int → Int} {th ke g m d w : Int} (hs : q_Tv (q_T0 h f a)) (hg : q_has th g = true) (d1 : 0 ≤ m ∧ m ≤ 5) (d2 : 0 ≤ d ∧ d ≤ 999) (d3 : 0 ≤ w ∧ w ≤ 1) : S_round h f a th ke g m d w = if w = 0 then (q_rnd h f a th ke g m d 1000000).1 else (q_rnd h f a th ke g m d 1000000).2 := by
  unfold S_round
  rw [if_pos hg, if_pos ⟨d1, d2, d3⟩]
  have e : q_rnd h f a th ke g m d 21 = q_rnd h f a th ke g m d 1000000 := by
    unfold q_rnd
    have hp := q_pw3_m d1.1 (show m ≤ 6 by omega)
    obtain ⟨n, hn⟩ : ∃ n : Nat, (q_pw 3 m.toNat).toNat = n + 1 := ⟨(q_pw 3 m.toNat).toNat - 1, by omega⟩
    rw [hn]
    refine q_bsN_b0 n (fun y y0 y1 => ?_)
    have hi := q_has_in hg
    have := (q_wk_v (th := th) (ke := ke) (d := d) (g := g) (st := fun x => y / q_pw 3 (m - 1 - x).toNat % 3) hs hi (fun i => by
      have := q_pw_pos (b := 3) (by omega) (m - 1 - i).toNat
      have := q_dg3 (y := y) (n := q_pw 3 (m - 1 - i).toNat) y0 (by omega)
      exact ⟨this.2.2.1, this.2.2.2⟩) m.toNat).1 g hi.1 hi.2
    exact ⟨by omega, by omega⟩
  rw [e]
theorem q_rules9 {M N : q_M} {pl p ru w v : Int} (h : q_an M N) (hv : v = q_set (q_ru (N 7) (N 8) (N 9) (N 0 0) (N 0 4) ru pl p)) (d1 : 0 ≤ pl ∧ pl ≤ 2) (d2 : (1 ≤ p ∧ p ≤ 9) ∧ (0 ≤ ru ∧ ru ≤ 2) ∧ (0 ≤ w ∧ w ≤ 1)) : S_rules (M 1) (M 2) (M 3) (M 0 0) (M 0 4) pl p ru w = if w = 0 then q_s6 (fun x => if q_ins (N 9) (N 0 0) pl x = true then q_left (N 7) v x else 0) else q_m6 (fun x => if q_ins (N 9) (N 0 0) pl x = true then q_left (N 7) v x else 0) := by
  have sm := q_agR_sim (th := M 0 0) (q_an_ag h)
  have e0 : N 0 = M 0 := h.1 0 (by omega)
  have ev : q_set (q_ru (M 1) (M 2) (M 3) (M 0 0) (M 0 4) ru pl p) = v := by
    rw [hv, e0]
    exact q_set_congr (fun x _ _ => (q_ru_sim sm x).symm)
  unfold S_rules
  rw [if_pos d1, if_pos d2, ev]
  have eF : ∀ x, 0 ≤ x → x < 6 → (if q_has (q_set (q_ins (M 3) (M 0 0) pl)) x = true then q_left (M 1) v x else 0) = if q_ins (N 9) (N 0 0) pl x = true then q_left (N 7) v x else 0 := fun x x0 x1 => by
    rw [q_has_set x0 x1, e0, q_ins_sim sm x]
    unfold q_left
    rw [(h.2 x x0 x1).1.1]
  by_cases hw : w = 0
  · rw [if_pos hw, if_pos hw]
    exact q_s6_congr eF
  · rw [if_neg hw, if_neg hw]
    exact q_m6_congr eF
set_option maxHeartbeats 4000000 in
set_option maxRecDepth 100000 in
theorem c_X9_rests (G : q_G) (hI : q_inj G) (M : q_M) (hm : q_mo G) (pl : Int) (p : Int) (i : Int) (hplR : -2147483648 ≤ pl ∧ pl ≤ 2147483647) (hpR : -2147483648 ≤ p ∧ p ≤ 2147483647) (hiR : -2147483648 ≤ i ∧ i ≤ 2147483647) (hZ : q_Z M) : q_CI G yX9_rests wsX9_rests ({ frames := 4, cells := 0, slots := 0, locals := 94 } : Room) [.ref (q_ad G 0), .int (q_I pl), .int (q_I p), .int (q_I i)] M (fun z M' => z = S_rests (M 1) (M 2) (M 3) (M 0 0) (M 0 4) pl p i ∧ q_kz M M') := by
  refine q_CI.of hI (by decide) rfl RX9 rfl [(0, .ref (q_ad G 0)), (1, .int (q_I pl)), (2, .int (q_I p)), (3, .int (q_I i))] rfl (Nat.le_of_ble_eq_true rfl) (fun E F FI => ?_)
  have huX9 : ∀ w ∈ wsX90, w ∈ wsX9_rests := by decide +kernel
  refine q_MRof (fun hM => ?_)
  obtain ⟨⟨xt, xk⟩, ⟨xh, xf, xa⟩, xF, xs, xp⟩ := id hZ
  have hz := hZ.1
  refine q_iload_n F dX9_rests_0 1 rfl ?_
  refine q_iconst F dX9_rests_1 ?_
  refine q_iconst F dX9_rests_2 ?_
  refine q_callSP (n := 3) F (c_X9_in G hI M pl 0 2 (by omega)) rfl gX9_rests_X9_in ⟨by decide, by decide, by decide +kernel⟩ rfl ⟨rfl, rfl, Nat.le_of_ble_eq_true rfl, Nat.le_of_ble_eq_true rfl⟩ rfl (Nat.le_of_ble_eq_true rfl) dX9_rests_3 (fun h3 => ?_)
  refine q_ifb_ne F 11 dX9_rests_6 (by decide) (fun c6 => ?_) (fun c6 => ?_)
  · have d1 := q_dt c6
    refine q_iload_n F dX9_rests_11 2 rfl ?_
    refine q_iconst F dX9_rests_12 ?_
    refine q_bipush F dX9_rests_13 (by decide) ?_
    refine q_callSP (n := 3) F (c_X9_in G hI M p 1 9 (by omega)) rfl gX9_rests_X9_in ⟨by decide, by decide, by decide +kernel⟩ rfl ⟨rfl, rfl, Nat.le_of_ble_eq_true rfl, Nat.le_of_ble_eq_true rfl⟩ rfl (Nat.le_of_ble_eq_true rfl) dX9_rests_15 (fun h15 => ?_)
    refine q_ifb_ne F 24 dX9_rests_18 (by decide) (fun c18 => ?_) (fun c18 => ?_)
    · have d2 := q_dt c18
      refine q_aload_n F dX9_rests_24 0 rfl ?_
      refine q_callVV (n := 0) (T := TX9) F (c_X9_asNow G hI M hm) rfl rfl hm.1 gX9_rests_X9_asNow rfl ⟨by decide, by decide, by decide +kernel⟩ rfl ⟨rfl, rfl, Nat.le_of_ble_eq_true rfl, Nat.le_of_ble_eq_true rfl⟩ rfl (Nat.le_of_ble_eq_true rfl) dX9_rests_25 (fun N25 p25 => ?_)
      have zv25 := q_an_zv p25 hZ
      have kz25 := q_an_kz p25
      refine q_aload_n F dX9_rests_28 0 rfl ?_
      refine q_iload_n F dX9_rests_29 1 rfl ?_
      refine q_callVP (n := 1) (T := TX9) F (c_X9_inHouse G hI N25 hm pl zv25 (by omega)) rfl rfl hm.1 gX9_rests_X9_inHouse rfl ⟨by decide, by decide, by decide +kernel⟩ rfl ⟨rfl, rfl, Nat.le_of_ble_eq_true rfl, Nat.le_of_ble_eq_true rfl⟩ rfl (Nat.le_of_ble_eq_true rfl) dX9_rests_30 (fun h30 => ?_)
      refine q_nm (fun v33 e33 => ?_)
      refine q_istore F dX9_rests_33 [(4, .int (q_I v33)), (0, .ref (q_ad G 0)), (1, .int (q_I pl)), (2, .int (q_I p)), (3, .int (q_I i))] (Nat.le_of_ble_eq_true rfl) rfl ?_
      have hS : 0 ≤ v33 ∧ v33 ≤ 63 := by rw [e33]; exact q_set_R _
      have hcn := q_cnt_R (q_has v33)
      refine q_iload F dX9_rests_35 0 rfl ?_
      refine q_callSP (n := 1) F (c_X9_bits G hI N25 v33 (by omega)) rfl gX9_rests_X9_bits ⟨by decide, by decide, by decide +kernel⟩ rfl ⟨rfl, rfl, Nat.le_of_ble_eq_true rfl, Nat.le_of_ble_eq_true rfl⟩ rfl (Nat.le_of_ble_eq_true rfl) dX9_rests_37 (fun h37 => ?_)
      refine q_nm (fun v40 e40 => ?_)
      refine q_istore F dX9_rests_40 [(5, .int (q_I v40)), (4, .int (q_I v33)), (0, .ref (q_ad G 0)), (1, .int (q_I pl)), (2, .int (q_I p)), (3, .int (q_I i))] (Nat.le_of_ble_eq_true rfl) rfl ?_
      refine q_iload F dX9_rests_42 0 rfl ?_
      refine q_iconst F dX9_rests_44 ?_
      refine q_icmp_le F 51 dX9_rests_45 (by decide) (by omega) (fun c45 => ?_) (fun c45 => ?_)
      · refine q_iconst F dX9_rests_51 ?_
        refine q_istore F dX9_rests_52 [(6, .int (q_I 1)), (5, .int (q_I v40)), (4, .int (q_I v33)), (0, .ref (q_ad G 0)), (1, .int (q_I pl)), (2, .int (q_I p)), (3, .int (q_I i))] (Nat.le_of_ble_eq_true rfl) rfl ?_
        refine q_iconst F dX9_rests_54 ?_
        refine q_istore F dX9_rests_55 [(7, .int (q_I 0)), (6, .int (q_I 1)), (5, .int (q_I v40)), (4, .int (q_I v33)), (0, .ref (q_ad G 0)), (1, .int (q_I pl)), (2, .int (q_I p)), (3, .int (q_I i))] (Nat.le_of_ble_eq_true rfl) rfl ?_
        have lp57_1 : ∀ (k57_1 : Nat) (c : Int) (k : Int), ((0 ≤ k ∧ k ≤ v40) ∧ c = q_pw 3 k.toNat) → (v40 - k).toNat = k57_1 → q_Y G E 16 N25 [(0, .ref (q_ad G 0)), (1, .int (q_I pl)), (2, .int (q_I p)), (3, .int (q_I i)), (4, .int (q_I v33)), (5, .int (q_I v40)), (6, .int (q_I c)), (7, .int (q_I k))] 57 [] := by
          intro k57_1
          induction k57_1 using Nat.strongRecOn with
          | _ k57_1 ih57_1 =>
            intro c k   hi57 hk57
            refine q_iload F dX9_rests_57 7 rfl ?_
            refine q_iload F dX9_rests_59 5 rfl ?_
            refine q_icmp_ge F 76 dX9_rests_61 (by decide) (by omega) (fun c61 => ?_) (fun c61 => ?_)
            · have hC : c = q_pw 3 (q_cnt (q_has v33)).toNat := by rw [hi57.2, show k = v40 by omega, e40]
              have hC81 : 1 ≤ c ∧ c ≤ 81 := by rw [hC]; exact q_pw3_81 (by omega)
              have hres := q_S_rests (i := i) p25 e33 d1 d2 (by omega)
              rw [← hC] at hres
              have aT : N25 0 0 = M 0 0 := (q_an_kz p25).2.1
              have hn4 : q_cnt (q_has v33) ≤ 4 := by omega
              refine q_iconst F dX9_rests_76 ?_
              refine q_istore F dX9_rests_77 [(7, .int (q_I 0)), (0, .ref (q_ad G 0)), (1, .int (q_I pl)), (2, .int (q_I p)), (3, .int (q_I i)), (4, .int (q_I v33)), (5, .int (q_I v40)), (6, .int (q_I c))] (Nat.le_of_ble_eq_true rfl) rfl ?_
              refine q_iconst F dX9_rests_79 ?_
              refine q_istore F dX9_rests_80 [(8, .int (q_I 0)), (7, .int (q_I 0)), (0, .ref (q_ad G 0)), (1, .int (q_I pl)), (2, .int (q_I p)), (3, .int (q_I i)), (4, .int (q_I v33)), (5, .int (q_I v40)), (6, .int (q_I c))] (Nat.le_of_ble_eq_true rfl) rfl ?_
              have lp82_2 : ∀ (k82_2 : Nat) (n : Int) (r : Int) (M1 : q_M), ((0 ≤ r ∧ r ≤ c) ∧ (0 ≤ n ∧ n ≤ r) ∧ (∀ j, j ≠ 8 → M1 j = N25 j) ∧ (∀ x, q_has v33 x = false → M1 8 x = N25 8 x) ∧ q_rsl (q_P3 (N25 7) (N25 8) (N25 9) (N25 0 0) (N25 0 4) v33 pl p) (q_D3 v33) i c.toNat 0 0 = q_rsl (q_P3 (N25 7) (N25 8) (N25 9) (N25 0 0) (N25 0 4) v33 pl p) (q_D3 v33) i (c - r).toNat r n) → (c - r).toNat = k82_2 → q_Y G E 16 M1 [(0, .ref (q_ad G 0)), (1, .int (q_I pl)), (2, .int (q_I p)), (3, .int (q_I i)), (4, .int (q_I v33)), (5, .int (q_I v40)), (6, .int (q_I c)), (7, .int (q_I n)), (8, .int (q_I r))] 82 [] := by
                intro k82_2
                induction k82_2 using Nat.strongRecOn with
                | _ k82_2 ih82_2 =>
                  intro n r  M1 hi82 hk82
                  refine q_MRof (fun hM82 => ?_)
                  obtain ⟨k1, k2, k3, k4, k5⟩ := hi82
                  refine q_iload F dX9_rests_82 8 rfl ?_
                  refine q_iload F dX9_rests_84 6 rfl ?_
                  refine q_icmp_ge F 287 dX9_rests_86 (by decide) (by omega) (fun c86 => ?_) (fun c86 => ?_)
                  · refine q_iload_n F dX9_rests_287 3 rfl ?_
                    refine q_iconst F dX9_rests_288 ?_
                    refine q_icmp_ne F 297 dX9_rests_289 (by decide) (by omega) (fun c289 => ?_) (fun c289 => ?_)
                    · refine q_bipush F dX9_rests_297 (by decide) ?_
                      exact q_iret F FI dX9_rests_299 (by omega) ⟨by rw [hres, k5, show (c - r).toNat = 0 by omega, q_rsl_0, if_neg c289], q_kz_tr kz25 (q_kz_fr (k := 8) k3 (by omega))⟩
                    · refine q_iload F dX9_rests_292 7 rfl ?_
                      refine q_goto F 299 dX9_rests_294 (by decide) ?_
                      exact q_iret F FI dX9_rests_299 (by omega) ⟨by rw [hres, k5, show (c - r).toNat = 0 by omega, q_rsl_0, if_pos c289], q_kz_tr kz25 (q_kz_fr (k := 8) k3 (by omega))⟩
                  · refine q_iload F dX9_rests_89 6 rfl ?_
                    refine q_istore F dX9_rests_91 [(9, .int (q_I c)), (0, .ref (q_ad G 0)), (1, .int (q_I pl)), (2, .int (q_I p)), (3, .int (q_I i)), (4, .int (q_I v33)), (5, .int (q_I v40)), (6, .int (q_I c)), (7, .int (q_I n)), (8, .int (q_I r))] (Nat.le_of_ble_eq_true rfl) rfl ?_
                    refine q_iconst F dX9_rests_93 ?_
                    refine q_istore F dX9_rests_94 [(10, .int (q_I 0)), (9, .int (q_I c)), (0, .ref (q_ad G 0)), (1, .int (q_I pl)), (2, .int (q_I p)), (3, .int (q_I i)), (4, .int (q_I v33)), (5, .int (q_I v40)), (6, .int (q_I c)), (7, .int (q_I n)), (8, .int (q_I r))] (Nat.le_of_ble_eq_true rfl) rfl ?_
                    refine q_iconst F dX9_rests_96 ?_
                    refine q_istore F dX9_rests_97 [(11, .int (q_I 0)), (10, .int (q_I 0)), (9, .int (q_I c)), (0, .ref (q_ad G 0)), (1, .int (q_I pl)), (2, .int (q_I p)), (3, .int (q_I i)), (4, .int (q_I v33)), (5, .int (q_I v40)), (6, .int (q_I c)), (7, .int (q_I n)), (8, .int (q_I r))] (Nat.le_of_ble_eq_true rfl) rfl ?_
                    have lp99_3 : ∀ (k99_3 : Nat) (bq : Int) (dg : Int) (g : Int) (M2 : q_M), ((0 ≤ g ∧ g ≤ 6) ∧ bq = q_pw 3 (q_ab v33 (g - 1)) ∧ dg = q_num v33 (fun x => q_dig v33 r 3 x * 3) g.toNat ∧ (∀ j, j ≠ 8 → M2 j = M1 j) ∧ (∀ x, M2 8 x = if (0 ≤ x ∧ x < g) ∧ q_has v33 x = true then q_dig v33 r 3 x * 3 else M1 8 x)) → (6 - g).toNat = k99_3 → q_Y G E 16 M2 [(0, .ref (q_ad G 0)), (1, .int (q_I pl)), (2, .int (q_I p)), (3, .int (q_I i)), (4, .int (q_I v33)), (5, .int (q_I v40)), (6, .int (q_I c)), (7, .int (q_I n)), (8, .int (q_I r)), (9, .int (q_I bq)), (10, .int (q_I dg)), (11, .int (q_I g))] 99 [] := by
                      intro k99_3
                      induction k99_3 using Nat.strongRecOn with
                      | _ k99_3 ih99_3 =>
                        intro bq dg g  M2 hi99 hk99
                        refine q_MRof (fun hM99 => ?_)
                        have hab : 0 ≤ g → g < 6 → q_ab v33 (g - 1) = q_ab v33 g + (if q_has v33 g = true then 1 else 0) := fun h0 h1 => q_ab_step hS.1 hS.2 h0 h1
                        obtain ⟨i1, i2, i3, i4, i5⟩ := id hi99
                        have hbR := q_pw3_81 (n := q_ab v33 (g - 1)) (by have := q_ab_le (S := v33) (x := g - 1); omega)
                        rw [← i2] at hbR
                        refine q_iload F dX9_rests_99 11 rfl ?_
                        refine q_bipush F dX9_rests_101 (by decide) ?_
                        refine q_icmp_ge F 159 dX9_rests_103 (by decide) (by omega) (fun c103 => ?_) (fun c103 => ?_)
                        · obtain ⟨i1, i2, i3, i4, i5⟩ := hi99
                          have hF : ∀ x, M2 8 x = q_F3 v33 (N25 8) r x := fun x => by
                            rw [i5]
                            unfold q_F3
                            by_cases hx : q_has v33 x = true
                            · have hi := q_has_in hx
                              rw [if_pos ⟨by omega, hx⟩, if_pos hx]
                            · rw [if_neg (fun h => hx h.2), if_neg hx, k4 x (by simpa using hx)]
                          have hdg : dg = q_D3 v33 r := by rw [i3, show g = 6 by omega]; rfl
                          have hdgR := q_num_R6 (S := v33) (F := fun x => q_dig v33 r 3 x * 3) (fun x _ => by
                            show 0 ≤ q_dig v33 r 3 x * 3 ∧ q_dig v33 r 3 x * 3 ≤ 9
                            unfold q_dig
                            omega) g.toNat (by omega)
                          rw [← i3] at hdgR
                          refine q_iconst F dX9_rests_159 ?_
                          refine q_istore F dX9_rests_160 [(11, .int (q_I 1)), (0, .ref (q_ad G 0)), (1, .int (q_I pl)), (2, .int (q_I p)), (3, .int (q_I i)), (4, .int (q_I v33)), (5, .int (q_I v40)), (6, .int (q_I c)), (7, .int (q_I n)), (8, .int (q_I r)), (9, .int (q_I bq)), (10, .int (q_I dg))] (Nat.le_of_ble_eq_true rfl) rfl ?_
                          refine q_iconst F dX9_rests_162 ?_
                          refine q_istore F dX9_rests_163 [(12, .int (q_I 0)), (11, .int (q_I 1)), (0, .ref (q_ad G 0)), (1, .int (q_I pl)), (2, .int (q_I p)), (3, .int (q_I i)), (4, .int (q_I v33)), (5, .int (q_I v40)), (6, .int (q_I c)), (7, .int (q_I n)), (8, .int (q_I r)), (9, .int (q_I bq)), (10, .int (q_I dg))] (Nat.le_of_ble_eq_true rfl) rfl ?_
                          have lp165_4 : ∀ (k165_4 : Nat) (rs : Int) (g2 : Int) (M3 : q_M), ((0 ≤ g2 ∧ g2 ≤ 6) ∧ rs = q_b (q_all0 (q_rstG v33 (q_W3 (N25 7) (N25 8) (N25 9) (N25 0 0) (N25 0 4) v33 pl p) r) g2.toNat) ∧ (∀ j, j ≠ 8 → M3 j = N25 j) ∧ (∀ x, M3 8 x = (q_F3 v33 (N25 8) r) x)) → (6 - g2).toNat = k165_4 → q_Y G E 16 M3 [(0, .ref (q_ad G 0)), (1, .int (q_I pl)), (2, .int (q_I p)), (3, .int (q_I i)), (4, .int (q_I v33)), (5, .int (q_I v40)), (6, .int (q_I c)), (7, .int (q_I n)), (8, .int (q_I r)), (10, .int (q_I dg)), (11, .int (q_I rs)), (12, .int (q_I g2))] 165 [] := by
                            intro k165_4
                            induction k165_4 using Nat.strongRecOn with
                            | _ k165_4 ih165_4 =>
                              intro rs g2  M3 hi165 hk165
                              refine q_MRof (fun hM165 => ?_)
                              obtain ⟨j1, j2, j3, j4⟩ := id hi165
                              have eM8 : M3 8 = q_F3 v33 (N25 8) r := funext j4
                              have zv3 : q_zv M3 := by
                                refine ⟨?_, ?_, ?_, ?_⟩
                                · unfold q_z0
                                  rw [j3 0 (by omega)]
                                  exact zv25.1
                                · rw [j3 7 (by omega)]; exact zv25.2.1
                                · rw [eM8]; exact q_F3_v zv25.2.2.1
                                · rw [j3 9 (by omega)]; exact zv25.2.2.2
                              refine q_iload F dX9_rests_165 11 rfl ?_
                              refine q_bipush F dX9_rests_167 (by decide) ?_
                              refine q_icmp_ge F 264 dX9_rests_169 (by decide) (by omega) (fun c169 => ?_) (fun c169 => ?_)
                              · have hPr : (q_P3 (N25 7) (N25 8) (N25 9) (N25 0 0) (N25 0 4) v33 pl p) r = q_all0 (q_rstG v33 (q_W3 (N25 7) (N25 8) (N25 9) (N25 0 0) (N25 0 4) v33 pl p) r) 6 := rfl
                                have hrs01 := q_b01 (q_all0 (q_rstG v33 (q_W3 (N25 7) (N25 8) (N25 9) (N25 0 0) (N25 0 4) v33 pl p) r) 6)
                                rw [show g2.toNat = 6 by omega] at j2
                                rw [← j2] at hrs01
                                refine q_iload F dX9_rests_264 10 rfl ?_
                                refine q_if_eq F 281 dX9_rests_266 (by decide) (by omega) (fun c266 => ?_) (fun c266 => ?_)
                                · obtain ⟨v281, e281⟩ : ∃ z_ : Int, z_ = r + 1 := ⟨_, rfl⟩
                                  refine q_iinc F dX9_rests_281 8 rfl e281 [(8, .int (q_I v281)), (0, .ref (q_ad G 0)), (1, .int (q_I pl)), (2, .int (q_I p)), (3, .int (q_I i)), (4, .int (q_I v33)), (5, .int (q_I v40)), (6, .int (q_I c)), (7, .int (q_I n)), (10, .int (q_I dg)), (11, .int (q_I rs)), (12, .int (q_I g2))] (Nat.le_of_ble_eq_true rfl) rfl ?_
                                  refine q_goto F 82 dX9_rests_284 (by decide) ?_
                                  refine q_drop [1, 2, 3, 4, 5, 6, 7, 8, 0] rfl ?_
                                  exact ih82_2 _ (by omega) n v281 M3 ⟨by omega, by omega, j3, fun x hx => by rw [j4]; unfold q_F3; rw [if_neg (by simp [hx])], by
                                        rw [k5, show (c - r).toNat = (c - (r + 1)).toNat + 1 by omega, q_rsl_u]
                                        rw [if_neg (by rw [hPr]; simp [(q_b0 _).mp (j2.symm.trans c266)]), e281]⟩ rfl
                                · have hPt : (q_P3 (N25 7) (N25 8) (N25 9) (N25 0 0) (N25 0 4) v33 pl p) r = true := by
                                    rw [hPr]
                                    cases hq : q_all0 (q_rstG v33 (q_W3 (N25 7) (N25 8) (N25 9) (N25 0 0) (N25 0 4) v33 pl p) r) 6
                                    · rw [j2, hq] at c266
                                      exact absurd rfl c266
                                    · rfl
                                  refine q_iload F dX9_rests_269 7 rfl ?_
                                  refine q_iload_n F dX9_rests_271 3 rfl ?_
                                  refine q_icmp_ne F 278 dX9_rests_272 (by decide) (by omega) (fun c272 => ?_) (fun c272 => ?_)
                                  · obtain ⟨v278, e278⟩ : ∃ z_ : Int, z_ = n + 1 := ⟨_, rfl⟩
                                    refine q_iinc F dX9_rests_278 7 rfl e278 [(7, .int (q_I v278)), (0, .ref (q_ad G 0)), (1, .int (q_I pl)), (2, .int (q_I p)), (3, .int (q_I i)), (4, .int (q_I v33)), (5, .int (q_I v40)), (6, .int (q_I c)), (8, .int (q_I r)), (10, .int (q_I dg)), (11, .int (q_I rs)), (12, .int (q_I g2))] (Nat.le_of_ble_eq_true rfl) rfl ?_
                                    obtain ⟨v281, e281⟩ : ∃ z_ : Int, z_ = r + 1 := ⟨_, rfl⟩
                                    refine q_iinc F dX9_rests_281 8 rfl e281 [(8, .int (q_I v281)), (7, .int (q_I v278)), (0, .ref (q_ad G 0)), (1, .int (q_I pl)), (2, .int (q_I p)), (3, .int (q_I i)), (4, .int (q_I v33)), (5, .int (q_I v40)), (6, .int (q_I c)), (10, .int (q_I dg)), (11, .int (q_I rs)), (12, .int (q_I g2))] (Nat.le_of_ble_eq_true rfl) rfl ?_
                                    refine q_goto F 82 dX9_rests_284 (by decide) ?_
                                    refine q_drop [2, 3, 4, 5, 6, 7, 8, 1, 0] rfl ?_
                                    exact ih82_2 _ (by omega) v278 v281 M3 ⟨by omega, by omega, j3, fun x hx => by rw [j4]; unfold q_F3; rw [if_neg (by simp [hx])], by
                                          rw [k5, show (c - r).toNat = (c - (r + 1)).toNat + 1 by omega, q_rsl_u]
                                          rw [if_pos hPt, if_neg c272, e281, e278]⟩ rfl
                                  · refine q_iload F dX9_rests_275 9 rfl ?_
                                    exact q_iret F FI dX9_rests_277 (by omega) ⟨by rw [hres, k5, show (c - r).toNat = (c - (r + 1)).toNat + 1 by omega, q_rsl_u, if_pos hPt, if_pos c272, hdg], q_kz_tr kz25 (q_kz_fr (k := 8) j3 (by omega))⟩
                              · refine q_iload F dX9_rests_172 4 rfl ?_
                                refine q_iload F dX9_rests_174 11 rfl ?_
                                refine q_callSP (n := 2) F (c_X9_has G hI M3 v33 g2 (by omega)) rfl gX9_rests_X9_has ⟨by decide, by decide, by decide +kernel⟩ rfl ⟨rfl, rfl, Nat.le_of_ble_eq_true rfl, Nat.le_of_ble_eq_true rfl⟩ rfl (Nat.le_of_ble_eq_true rfl) dX9_rests_176 (fun h176 => ?_)
                                refine q_ifb_eq F 258 dX9_rests_179 (by decide) (fun c179 => ?_) (fun c179 => ?_)
                                · obtain ⟨v258, e258⟩ : ∃ z_ : Int, z_ = g2 + 1 := ⟨_, rfl⟩
                                  refine q_iinc F dX9_rests_258 11 rfl e258 [(12, .int (q_I v258)), (0, .ref (q_ad G 0)), (1, .int (q_I pl)), (2, .int (q_I p)), (3, .int (q_I i)), (4, .int (q_I v33)), (5, .int (q_I v40)), (6, .int (q_I c)), (7, .int (q_I n)), (8, .int (q_I r)), (10, .int (q_I dg)), (11, .int (q_I rs))] (Nat.le_of_ble_eq_true rfl) rfl ?_
                                  refine q_goto F 165 dX9_rests_261 (by decide) ?_
                                  refine q_drop [1, 2, 3, 4, 5, 6, 7, 8, 9, 10, 11, 0] rfl ?_
                                  exact ih165_4 _ (by omega) rs v258 M3 ⟨by omega, by
                                        rw [e258, show (g2 + 1).toNat = g2.toNat + 1 by omega, q_all0_s, Int.toNat_of_nonneg hi165.1.1, j2]
                                        unfold q_rstG
                                        rw [c179]
                                        simp, j3, j4⟩ rfl
                                · have hgi := q_has_in c179
                                  have hpl : M3 9 g2 = pl := by
                                    rw [j3 9 (by omega)]
                                    have := c179
                                    rw [e33, q_has_set hgi.1 hgi.2] at this
                                    unfold q_ins at this
                                    simp only [Bool.and_eq_true, decide_eq_true_eq] at this
                                    exact this.1
                                  have hwas := zv3.2.2.1 g2 hgi.1 hgi.2
                                  refine q_aload_n F dX9_rests_182 0 rfl ?_
                                  refine q_getr (T := TX9) (ref := "LeastHungryModel") F huX9 rfl hm.1 11 (by decide) (by decide +kernel) rfl rfl dX9_rests_183 ?_
                                  refine q_iload F dX9_rests_186 11 rfl ?_
                                  refine q_iald F hm.2.2.2.2.2.2.2.2.1 (Nat.le_of_ble_eq_true rfl) (by omega) dX9_rests_188 (fun h188 => ?_)
                                  refine q_nm (fun v189 e189 => ?_)
                                  refine q_istore F dX9_rests_189 [(13, .int (q_I v189)), (0, .ref (q_ad G 0)), (1, .int (q_I pl)), (2, .int (q_I p)), (3, .int (q_I i)), (4, .int (q_I v33)), (5, .int (q_I v40)), (6, .int (q_I c)), (7, .int (q_I n)), (8, .int (q_I r)), (10, .int (q_I dg)), (11, .int (q_I rs)), (12, .int (q_I g2))] (Nat.le_of_ble_eq_true rfl) rfl ?_
                                  refine q_aload_n F dX9_rests_191 1 rfl ?_
                                  refine q_iload F dX9_rests_192 12 rfl ?_
                                  refine q_iload_n F dX9_rests_194 3 rfl ?_
                                  refine q_callVP (n := 2) (T := TX9) F (c_X9_gain G hI M3 hm g2 p zv3 (by omega)) rfl rfl hm.1 gX9_rests_X9_gain rfl ⟨by decide, by decide, by decide +kernel⟩ rfl ⟨rfl, rfl, Nat.le_of_ble_eq_true rfl, Nat.le_of_ble_eq_true rfl⟩ rfl (Nat.le_of_ble_eq_true rfl) dX9_rests_195 (fun h195 => ?_)
                                  refine q_nm (fun v198 e198 => ?_)
                                  refine q_istore F dX9_rests_198 [(14, .int (q_I v198)), (13, .int (q_I v189)), (0, .ref (q_ad G 0)), (1, .int (q_I pl)), (2, .int (q_I p)), (3, .int (q_I i)), (4, .int (q_I v33)), (5, .int (q_I v40)), (6, .int (q_I c)), (7, .int (q_I n)), (8, .int (q_I r)), (10, .int (q_I dg)), (11, .int (q_I rs)), (12, .int (q_I g2))] (Nat.le_of_ble_eq_true rfl) rfl ?_
                                  have hW : v198 = (q_W3 (N25 7) (N25 8) (N25 9) (N25 0 0) (N25 0 4) v33 pl p) r g2 := by
                                    rw [e198, hpl, eM8, j3 7 (by omega), j3 9 (by omega), j3 0 (by omega)]
                                    rfl
                                  refine q_iconst F dX9_rests_200 ?_
                                  refine q_istore F dX9_rests_201 [(15, .int (q_I 0)), (14, .int (q_I v198)), (13, .int (q_I v189)), (0, .ref (q_ad G 0)), (1, .int (q_I pl)), (2, .int (q_I p)), (3, .int (q_I i)), (4, .int (q_I v33)), (5, .int (q_I v40)), (6, .int (q_I c)), (7, .int (q_I n)), (8, .int (q_I r)), (10, .int (q_I dg)), (11, .int (q_I rs)), (12, .int (q_I g2))] (Nat.le_of_ble_eq_true rfl) rfl ?_
                                  have lp203_5 : ∀ (k203_5 : Nat) (rs2 : Int) (v : Int) (c3 : Int) (M4 : q_M), ((0 ≤ c3 ∧ c3 ≤ 3 ∧ v = 3 * c3) ∧ rs2 = q_b (q_all0 (q_rstG v33 (q_W3 (N25 7) (N25 8) (N25 9) (N25 0 0) (N25 0 4) v33 pl p) r) g2.toNat && q_all0 (fun c => decide ((q_W3 (N25 7) (N25 8) (N25 9) (N25 0 0) (N25 0 4) v33 pl p) (q_rep v33 r g2 c) g2 ≤ (q_W3 (N25 7) (N25 8) (N25 9) (N25 0 0) (N25 0 4) v33 pl p) r g2)) c3.toNat) ∧ (∀ j, j ≠ 8 → M4 j = N25 j) ∧ (∀ x, ¬ x = g2 → M4 8 x = (q_F3 v33 (N25 8) r) x)) → (9 - v).toNat = k203_5 → q_Y G E 16 M4 [(0, .ref (q_ad G 0)), (1, .int (q_I pl)), (2, .int (q_I p)), (3, .int (q_I i)), (4, .int (q_I v33)), (5, .int (q_I v40)), (6, .int (q_I c)), (7, .int (q_I n)), (8, .int (q_I r)), (10, .int (q_I dg)), (11, .int (q_I rs2)), (12, .int (q_I g2)), (13, .int (q_I v189)), (14, .int (q_I v198)), (15, .int (q_I v))] 203 [] := by
                                    intro k203_5
                                    induction k203_5 using Nat.strongRecOn with
                                    | _ k203_5 ih203_5 =>
                                      intro rs2 v c3 M4 hi203 hk203
                                      refine q_MRof (fun hM203 => ?_)
                                      have hrs2 := q_b01 (q_all0 (q_rstG v33 (q_W3 (N25 7) (N25 8) (N25 9) (N25 0 0) (N25 0 4) v33 pl p) r) g2.toNat && q_all0 (fun c => decide ((q_W3 (N25 7) (N25 8) (N25 9) (N25 0 0) (N25 0 4) v33 pl p) (q_rep v33 r g2 c) g2 ≤ (q_W3 (N25 7) (N25 8) (N25 9) (N25 0 0) (N25 0 4) v33 pl p) r g2)) c3.toNat)
                                      rw [← hi203.2.1] at hrs2
                                      refine q_iload F dX9_rests_203 14 rfl ?_
                                      refine q_bipush F dX9_rests_205 (by decide) ?_
                                      refine q_icmp_ge F 249 dX9_rests_207 (by decide) (by omega) (fun c207 => ?_) (fun c207 => ?_)
                                      · refine q_aload_n F dX9_rests_249 0 rfl ?_
                                        refine q_getr (T := TX9) (ref := "LeastHungryModel") F huX9 rfl hm.1 11 (by decide) (by decide +kernel) rfl rfl dX9_rests_250 ?_
                                        refine q_iload F dX9_rests_253 11 rfl ?_
                                        refine q_iload F dX9_rests_255 12 rfl ?_
                                        refine q_iast F hm.2.2.2.2.2.2.2.2.1 (Nat.le_of_ble_eq_true rfl) (by omega) (by omega) dX9_rests_257 (fun N257 eN257 => ?_)
                                        obtain ⟨v258, e258⟩ : ∃ z_ : Int, z_ = g2 + 1 := ⟨_, rfl⟩
                                        refine q_iinc F dX9_rests_258 11 rfl e258 [(12, .int (q_I v258)), (0, .ref (q_ad G 0)), (1, .int (q_I pl)), (2, .int (q_I p)), (3, .int (q_I i)), (4, .int (q_I v33)), (5, .int (q_I v40)), (6, .int (q_I c)), (7, .int (q_I n)), (8, .int (q_I r)), (10, .int (q_I dg)), (11, .int (q_I rs2)), (13, .int (q_I v189)), (14, .int (q_I v198)), (15, .int (q_I v))] (Nat.le_of_ble_eq_true rfl) rfl ?_
                                        refine q_goto F 165 dX9_rests_261 (by decide) ?_
                                        refine q_drop [1, 2, 3, 4, 5, 6, 7, 8, 9, 10, 11, 0] rfl ?_
                                        exact ih165_4 _ (by omega) rs2 v258 N257 ⟨by omega, by
                                              rw [e258, show (g2 + 1).toNat = g2.toNat + 1 by omega, q_all0_s, Int.toNat_of_nonneg hi165.1.1, hi203.2.1, show c3 = 3 by omega]
                                              unfold q_rstG
                                              rw [c179]
                                              rfl, fun j hj => by rw [eN257, q_up_ne hj]; exact hi203.2.2.1 j hj, fun x => by
                                              rw [eN257, q_up_at]
                                              by_cases hx : x = g2
                                              · rw [if_pos hx, hx, e189]; exact j4 g2
                                              · rw [if_neg hx]; exact hi203.2.2.2 x hx⟩ rfl
                                      · refine q_aload_n F dX9_rests_210 0 rfl ?_
                                        refine q_getr (T := TX9) (ref := "LeastHungryModel") F huX9 rfl hm.1 11 (by decide) (by decide +kernel) rfl rfl dX9_rests_211 ?_
                                        refine q_iload F dX9_rests_214 11 rfl ?_
                                        refine q_iload F dX9_rests_216 14 rfl ?_
                                        refine q_iast F hm.2.2.2.2.2.2.2.2.1 (Nat.le_of_ble_eq_true rfl) (by omega) (by omega) dX9_rests_218 (fun N218 eN218 => ?_)
                                        have e218 : N218 8 = q_F3 v33 (N25 8) (q_rep v33 r g2 c3) := by
                                          rw [q_F3_rep hS.1 hS.2 hn4 c179 (by omega) (by omega), eN218]
                                          funext x
                                          rw [q_up_at]
                                          unfold q_row
                                          by_cases hx : x = g2
                                          · rw [if_pos hx, if_pos hx]
                                            omega
                                          · rw [if_neg hx, if_neg hx]
                                            exact hi203.2.2.2 x hx
                                        have f218 : ∀ j, j ≠ 8 → N218 j = N25 j := fun j hj => by rw [eN218, q_up_ne hj]; exact hi203.2.2.1 j hj
                                        have zv218 : q_zv N218 := by
                                          refine ⟨?_, ?_, ?_, ?_⟩
                                          · unfold q_z0
                                            rw [f218 0 (by omega)]
                                            exact zv25.1
                                          · rw [f218 7 (by omega)]; exact zv25.2.1
                                          · rw [e218]; exact q_F3_v zv25.2.2.1
                                          · rw [f218 9 (by omega)]; exact zv25.2.2.2
                                        refine q_iload F dX9_rests_219 10 rfl ?_
                                        refine q_if_eq F 240 dX9_rests_221 (by decide) (by omega) (fun c221 => ?_) (fun c221 => ?_)
                                        · refine q_iconst F dX9_rests_240 ?_
                                          refine q_istore F dX9_rests_241 [(11, .int (q_I 0)), (0, .ref (q_ad G 0)), (1, .int (q_I pl)), (2, .int (q_I p)), (3, .int (q_I i)), (4, .int (q_I v33)), (5, .int (q_I v40)), (6, .int (q_I c)), (7, .int (q_I n)), (8, .int (q_I r)), (10, .int (q_I dg)), (12, .int (q_I g2)), (13, .int (q_I v189)), (14, .int (q_I v198)), (15, .int (q_I v))] (Nat.le_of_ble_eq_true rfl) rfl ?_
                                          obtain ⟨v243, e243⟩ : ∃ z_ : Int, z_ = v + 3 := ⟨_, rfl⟩
                                          refine q_iinc F dX9_rests_243 14 rfl e243 [(15, .int (q_I v243)), (11, .int (q_I 0)), (0, .ref (q_ad G 0)), (1, .int (q_I pl)), (2, .int (q_I p)), (3, .int (q_I i)), (4, .int (q_I v33)), (5, .int (q_I v40)), (6, .int (q_I c)), (7, .int (q_I n)), (8, .int (q_I r)), (10, .int (q_I dg)), (12, .int (q_I g2)), (13, .int (q_I v189)), (14, .int (q_I v198))] (Nat.le_of_ble_eq_true rfl) rfl ?_
                                          refine q_goto F 203 dX9_rests_246 (by decide) ?_
                                          refine q_drop [2, 3, 4, 5, 6, 7, 8, 9, 10, 11, 1, 12, 13, 14, 0] rfl ?_
                                          exact ih203_5 _ (by omega) 0 v243 (c3 + 1) N218 ⟨by omega, by
                                                rw [show (c3 + 1).toNat = c3.toNat + 1 by omega, q_all0_s, ← Bool.and_assoc]
                                                have hz := hi203.2.1
                                                rw [c221] at hz
                                                rw [(q_b0 _).mp hz.symm]
                                                rfl, fun j hj => by rw [eN218, q_up_ne hj]; exact hi203.2.2.1 j hj, fun x hx => by rw [eN218, q_up_at, if_neg hx]; exact hi203.2.2.2 x hx⟩ rfl
                                        · refine q_aload_n F dX9_rests_224 0 rfl ?_
                                          refine q_iload F dX9_rests_225 11 rfl ?_
                                          refine q_iload_n F dX9_rests_227 2 rfl ?_
                                          refine q_callVP (n := 2) (T := TX9) F (c_X9_gain G hI N218 hm g2 p zv218 (by omega)) rfl rfl hm.1 gX9_rests_X9_gain rfl ⟨by decide, by decide, by decide +kernel⟩ rfl ⟨rfl, rfl, Nat.le_of_ble_eq_true rfl, Nat.le_of_ble_eq_true rfl⟩ rfl (Nat.le_of_ble_eq_true rfl) dX9_rests_228 (fun h228 => ?_)
                                          have hG : (q_W3 (N25 7) (N25 8) (N25 9) (N25 0 0) (N25 0 4) v33 pl p) (q_rep v33 r g2 c3) g2 = q_wth (N218 7) (N218 8) (q_set (q_tk (N218 7) (N218 8) (N218 9) (N218 0 0) (N218 0 4) (N218 9 g2) p)) g2 := by
                                            rw [e218, f218 7 (by omega), f218 9 (by omega), f218 0 (by omega), show N25 9 g2 = pl by rw [← j3 9 (by omega)]; exact hpl]
                                            rfl
                                          refine q_iload F dX9_rests_231 13 rfl ?_
                                          refine q_icmp_gt F 240 dX9_rests_233 (by decide) (by omega) (fun c233 => ?_) (fun c233 => ?_)
                                          · refine q_iconst F dX9_rests_240 ?_
                                            refine q_istore F dX9_rests_241 [(11, .int (q_I 0)), (0, .ref (q_ad G 0)), (1, .int (q_I pl)), (2, .int (q_I p)), (3, .int (q_I i)), (4, .int (q_I v33)), (5, .int (q_I v40)), (6, .int (q_I c)), (7, .int (q_I n)), (8, .int (q_I r)), (10, .int (q_I dg)), (12, .int (q_I g2)), (13, .int (q_I v189)), (14, .int (q_I v198)), (15, .int (q_I v))] (Nat.le_of_ble_eq_true rfl) rfl ?_
                                            obtain ⟨v243, e243⟩ : ∃ z_ : Int, z_ = v + 3 := ⟨_, rfl⟩
                                            refine q_iinc F dX9_rests_243 14 rfl e243 [(15, .int (q_I v243)), (11, .int (q_I 0)), (0, .ref (q_ad G 0)), (1, .int (q_I pl)), (2, .int (q_I p)), (3, .int (q_I i)), (4, .int (q_I v33)), (5, .int (q_I v40)), (6, .int (q_I c)), (7, .int (q_I n)), (8, .int (q_I r)), (10, .int (q_I dg)), (12, .int (q_I g2)), (13, .int (q_I v189)), (14, .int (q_I v198))] (Nat.le_of_ble_eq_true rfl) rfl ?_
                                            refine q_goto F 203 dX9_rests_246 (by decide) ?_
                                            refine q_drop [2, 3, 4, 5, 6, 7, 8, 9, 10, 11, 1, 12, 13, 14, 0] rfl ?_
                                            exact ih203_5 _ (by omega) 0 v243 (c3 + 1) N218 ⟨by omega, by
                                                  rw [show (c3 + 1).toNat = c3.toNat + 1 by omega, q_all0_s, ← Bool.and_assoc, Int.toNat_of_nonneg hi203.1.1]
                                                  have hz : (q_all0 (q_rstG v33 (q_W3 (N25 7) (N25 8) (N25 9) (N25 0 0) (N25 0 4) v33 pl p) r) g2.toNat && q_all0 (fun c => decide ((q_W3 (N25 7) (N25 8) (N25 9) (N25 0 0) (N25 0 4) v33 pl p) (q_rep v33 r g2 c) g2 ≤ (q_W3 (N25 7) (N25 8) (N25 9) (N25 0 0) (N25 0 4) v33 pl p) r g2)) c3.toNat) = true := by
                                                    cases hq : (q_all0 (q_rstG v33 (q_W3 (N25 7) (N25 8) (N25 9) (N25 0 0) (N25 0 4) v33 pl p) r) g2.toNat && q_all0 (fun c => decide ((q_W3 (N25 7) (N25 8) (N25 9) (N25 0 0) (N25 0 4) v33 pl p) (q_rep v33 r g2 c) g2 ≤ (q_W3 (N25 7) (N25 8) (N25 9) (N25 0 0) (N25 0 4) v33 pl p) r g2)) c3.toNat)
                                                    · rw [hi203.2.1, hq] at c221
                                                      exact absurd rfl c221
                                                    · rfl
                                                  rw [hz, decide_eq_false (by rw [← hW, hG]; omega)]
                                                  rfl, fun j hj => by rw [eN218, q_up_ne hj]; exact hi203.2.2.1 j hj, fun x hx => by rw [eN218, q_up_at, if_neg hx]; exact hi203.2.2.2 x hx⟩ rfl
                                          · refine q_iconst F dX9_rests_236 ?_
                                            refine q_goto F 241 dX9_rests_237 (by decide) ?_
                                            refine q_istore F dX9_rests_241 [(11, .int (q_I 1)), (0, .ref (q_ad G 0)), (1, .int (q_I pl)), (2, .int (q_I p)), (3, .int (q_I i)), (4, .int (q_I v33)), (5, .int (q_I v40)), (6, .int (q_I c)), (7, .int (q_I n)), (8, .int (q_I r)), (10, .int (q_I dg)), (12, .int (q_I g2)), (13, .int (q_I v189)), (14, .int (q_I v198)), (15, .int (q_I v))] (Nat.le_of_ble_eq_true rfl) rfl ?_
                                            obtain ⟨v243, e243⟩ : ∃ z_ : Int, z_ = v + 3 := ⟨_, rfl⟩
                                            refine q_iinc F dX9_rests_243 14 rfl e243 [(15, .int (q_I v243)), (11, .int (q_I 1)), (0, .ref (q_ad G 0)), (1, .int (q_I pl)), (2, .int (q_I p)), (3, .int (q_I i)), (4, .int (q_I v33)), (5, .int (q_I v40)), (6, .int (q_I c)), (7, .int (q_I n)), (8, .int (q_I r)), (10, .int (q_I dg)), (12, .int (q_I g2)), (13, .int (q_I v189)), (14, .int (q_I v198))] (Nat.le_of_ble_eq_true rfl) rfl ?_
                                            refine q_goto F 203 dX9_rests_246 (by decide) ?_
                                            refine q_drop [2, 3, 4, 5, 6, 7, 8, 9, 10, 11, 1, 12, 13, 14, 0] rfl ?_
                                            exact ih203_5 _ (by omega) 1 v243 (c3 + 1) N218 ⟨by omega, by
                                                  rw [show (c3 + 1).toNat = c3.toNat + 1 by omega, q_all0_s, ← Bool.and_assoc, Int.toNat_of_nonneg hi203.1.1]
                                                  have hz : (q_all0 (q_rstG v33 (q_W3 (N25 7) (N25 8) (N25 9) (N25 0 0) (N25 0 4) v33 pl p) r) g2.toNat && q_all0 (fun c => decide ((q_W3 (N25 7) (N25 8) (N25 9) (N25 0 0) (N25 0 4) v33 pl p) (q_rep v33 r g2 c) g2 ≤ (q_W3 (N25 7) (N25 8) (N25 9) (N25 0 0) (N25 0 4) v33 pl p) r g2)) c3.toNat) = true := by
                                                    cases hq : (q_all0 (q_rstG v33 (q_W3 (N25 7) (N25 8) (N25 9) (N25 0 0) (N25 0 4) v33 pl p) r) g2.toNat && q_all0 (fun c => decide ((q_W3 (N25 7) (N25 8) (N25 9) (N25 0 0) (N25 0 4) v33 pl p) (q_rep v33 r g2 c) g2 ≤ (q_W3 (N25 7) (N25 8) (N25 9) (N25 0 0) (N25 0 4) v33 pl p) r g2)) c3.toNat)
                                                    · rw [hi203.2.1, hq] at c221
                                                      exact absurd rfl c221
                                                    · rfl
                                                  rw [hz, decide_eq_true (by rw [← hW, hG]; omega)]
                                                  rfl, fun j hj => by rw [eN218, q_up_ne hj]; exact hi203.2.2.1 j hj, fun x hx => by rw [eN218, q_up_at, if_neg hx]; exact hi203.2.2.2 x hx⟩ rfl
                                  refine q_drop [3, 4, 5, 6, 7, 8, 9, 10, 11, 12, 13, 14, 2, 1, 0] rfl ?_
                                  exact lp203_5 _ rs 0 (0) M3 ⟨by omega, by rw [j2]; simp [q_all0], j3, fun x _ => j4 x⟩ rfl
                          refine q_drop [2, 3, 4, 5, 6, 7, 8, 9, 10, 12, 1, 0] rfl ?_
                          exact lp165_4 _ 1 0 M2 ⟨by omega, rfl, fun j hj => (i4 j hj).trans (k3 j hj), hF⟩ rfl
                        · refine q_iload F dX9_rests_106 4 rfl ?_
                          refine q_iload F dX9_rests_108 11 rfl ?_
                          refine q_callSP (n := 2) F (c_X9_has G hI M2 v33 g (by omega)) rfl gX9_rests_X9_has ⟨by decide, by decide, by decide +kernel⟩ rfl ⟨rfl, rfl, Nat.le_of_ble_eq_true rfl, Nat.le_of_ble_eq_true rfl⟩ rfl (Nat.le_of_ble_eq_true rfl) dX9_rests_110 (fun h110 => ?_)
                          refine q_ifb_eq F 153 dX9_rests_113 (by decide) (fun c113 => ?_) (fun c113 => ?_)
                          · obtain ⟨v153, e153⟩ : ∃ z_ : Int, z_ = g + 1 := ⟨_, rfl⟩
                            refine q_iinc F dX9_rests_153 11 rfl e153 [(11, .int (q_I v153)), (0, .ref (q_ad G 0)), (1, .int (q_I pl)), (2, .int (q_I p)), (3, .int (q_I i)), (4, .int (q_I v33)), (5, .int (q_I v40)), (6, .int (q_I c)), (7, .int (q_I n)), (8, .int (q_I r)), (9, .int (q_I bq)), (10, .int (q_I dg))] (Nat.le_of_ble_eq_true rfl) rfl ?_
                            refine q_goto F 99 dX9_rests_156 (by decide) ?_
                            refine q_drop [1, 2, 3, 4, 5, 6, 7, 8, 9, 10, 11, 0] rfl ?_
                            exact ih99_3 _ (by omega) bq dg v153 M2 ⟨by omega, by rw [i2, hab hi99.1.1 (by omega), if_neg (by simp [c113]), e153, show g + 1 - 1 = g by omega]; rfl, by rw [e153, show (g + 1).toNat = g.toNat + 1 by omega, q_num_s, if_neg (by rw [Int.toNat_of_nonneg hi99.1.1]; simp [c113])]; exact i3, i4, fun x => by
                                  rw [i5, e153]
                                  by_cases hx : x = g
                                  · rw [if_neg (fun h => by omega), if_neg (fun h => by rw [hx, c113] at h; exact absurd h.2 (by decide))]
                                  · by_cases hl : (0 ≤ x ∧ x < g) ∧ q_has v33 x = true
                                    · rw [if_pos hl, if_pos ⟨by omega, hl.2⟩]
                                    · rw [if_neg hl, if_neg (fun h => hl ⟨by omega, h.2⟩)]⟩ rfl
                          · refine q_iload F dX9_rests_116 9 rfl ?_
                            refine q_iconst F dX9_rests_118 ?_
                            refine q_idiv F dX9_rests_119 (by omega) ?_
                            refine q_nm (fun v120 e120 => ?_)
                            refine q_istore F dX9_rests_120 [(9, .int (q_I v120)), (0, .ref (q_ad G 0)), (1, .int (q_I pl)), (2, .int (q_I p)), (3, .int (q_I i)), (4, .int (q_I v33)), (5, .int (q_I v40)), (6, .int (q_I c)), (7, .int (q_I n)), (8, .int (q_I r)), (10, .int (q_I dg)), (11, .int (q_I g))] (Nat.le_of_ble_eq_true rfl) rfl ?_
                            have h120 : v120 = q_pw 3 (q_ab v33 g) := by rw [e120, i2, hab hi99.1.1 (by omega), if_pos c113, q_pw_d (by omega)]
                            have hbR2 := q_pw3_81 (n := q_ab v33 g) (by have := q_ab_le (S := v33) (x := g); omega)
                            rw [← h120] at hbR2
                            have hq : 0 ≤ r / v120 ∧ r / v120 ≤ r := ⟨Int.ediv_nonneg (by omega) (by omega), Int.ediv_le_self _ (by omega)⟩
                            have hdig : r / v120 % 3 = q_dig v33 r 3 g := by rw [h120]; rfl
                            refine q_aload_n F dX9_rests_122 1 rfl ?_
                            refine q_getr (T := TX9) (ref := "LeastHungryModel") F huX9 rfl hm.1 11 (by decide) (by decide +kernel) rfl rfl dX9_rests_123 ?_
                            refine q_iload F dX9_rests_126 11 rfl ?_
                            refine q_iconst F dX9_rests_128 ?_
                            refine q_iload F dX9_rests_129 9 rfl ?_
                            refine q_iload F dX9_rests_131 0 rfl ?_
                            refine q_idiv F dX9_rests_133 (by omega) ?_
                            refine q_iconst F dX9_rests_134 ?_
                            refine q_irem F dX9_rests_135 (by omega) ?_
                            refine q_imul F dX9_rests_136 ?_
                            refine q_iast F hm.2.2.2.2.2.2.2.2.1 (Nat.le_of_ble_eq_true rfl) (by omega) (by omega) dX9_rests_137 (fun N137 eN137 => ?_)
                            refine q_bipush F dX9_rests_138 (by decide) ?_
                            refine q_iload F dX9_rests_140 10 rfl ?_
                            refine q_imul F dX9_rests_142 ?_
                            refine q_aload_n F dX9_rests_143 1 rfl ?_
                            refine q_getr (T := TX9) (ref := "LeastHungryModel") F huX9 rfl hm.1 11 (by decide) (by decide +kernel) rfl rfl dX9_rests_144 ?_
                            refine q_iload F dX9_rests_147 11 rfl ?_
                            refine q_iald F hm.2.2.2.2.2.2.2.2.1 (Nat.le_of_ble_eq_true rfl) (by omega) dX9_rests_149 (fun h149 => ?_)
                            refine q_iadd F dX9_rests_150 ?_
                            refine q_nm (fun v151 e151 => ?_)
                            refine q_istore F dX9_rests_151 [(10, .int (q_I v151)), (9, .int (q_I v120)), (0, .ref (q_ad G 0)), (1, .int (q_I pl)), (2, .int (q_I p)), (3, .int (q_I i)), (4, .int (q_I v33)), (5, .int (q_I v40)), (6, .int (q_I c)), (7, .int (q_I n)), (8, .int (q_I r)), (11, .int (q_I g))] (Nat.le_of_ble_eq_true rfl) rfl ?_
                            obtain ⟨v153, e153⟩ : ∃ z_ : Int, z_ = g + 1 := ⟨_, rfl⟩
                            refine q_iinc F dX9_rests_153 11 rfl e153 [(11, .int (q_I v153)), (10, .int (q_I v151)), (9, .int (q_I v120)), (0, .ref (q_ad G 0)), (1, .int (q_I pl)), (2, .int (q_I p)), (3, .int (q_I i)), (4, .int (q_I v33)), (5, .int (q_I v40)), (6, .int (q_I c)), (7, .int (q_I n)), (8, .int (q_I r))] (Nat.le_of_ble_eq_true rfl) rfl ?_
                            refine q_goto F 99 dX9_rests_156 (by decide) ?_
                            refine q_drop [3, 4, 5, 6, 7, 8, 9, 10, 11, 2, 1, 0] rfl ?_
                            exact ih99_3 _ (by omega) v120 v151 v153 N137 ⟨by omega, by rw [h120, e153, show g + 1 - 1 = g by omega], by
                                  rw [e151, e153, show (g + 1).toNat = g.toNat + 1 by omega, q_num_s, if_pos (by rw [Int.toNat_of_nonneg hi99.1.1]; exact c113), Int.toNat_of_nonneg hi99.1.1, eN137, q_up_at, if_pos rfl, i3, ← hdig]
                                  omega, fun j hj => by rw [eN137, q_up_ne hj]; exact i4 j hj, fun x => by
                                  rw [eN137, q_up_at, e153]
                                  by_cases hx : x = g
                                  · rw [if_pos hx, hx, if_pos ⟨by omega, c113⟩, ← hdig]
                                    omega
                                  · rw [if_neg hx, i5]
                                    by_cases hl : (0 ≤ x ∧ x < g) ∧ q_has v33 x = true
                                    · rw [if_pos hl, if_pos ⟨by omega, hl.2⟩]
                                    · rw [if_neg hl, if_neg (fun h => hl ⟨by omega, h.2⟩)]⟩ rfl
                    refine q_drop [3, 4, 5, 6, 7, 8, 9, 10, 11, 2, 1, 0] rfl ?_
                    exact lp99_3 _ c 0 0 M1 ⟨by omega, by have := q_ab_m1 hS.1 hS.2; rw [hC, show (0 : Int) - 1 = -1 by rfl, ← this]; simp, rfl, fun _ _ => rfl, fun x => by rw [if_neg (fun h => by omega)]⟩ rfl
              refine q_drop [2, 3, 4, 5, 6, 7, 8, 1, 0] rfl ?_
              exact lp82_2 _ 0 0 N25 ⟨by omega, by omega, fun _ _ => rfl, fun _ _ => rfl, by rw [show c - 0 = c by omega]⟩ rfl
            · refine q_iload F dX9_rests_64 6 rfl ?_
              refine q_iconst F dX9_rests_66 ?_
              refine q_imul F dX9_rests_67 ?_
              refine q_nm (fun v68 e68 => ?_)
              refine q_istore F dX9_rests_68 [(6, .int (q_I v68)), (0, .ref (q_ad G 0)), (1, .int (q_I pl)), (2, .int (q_I p)), (3, .int (q_I i)), (4, .int (q_I v33)), (5, .int (q_I v40)), (7, .int (q_I k))] (Nat.le_of_ble_eq_true rfl) rfl ?_
              obtain ⟨v70, e70⟩ : ∃ z_ : Int, z_ = k + 1 := ⟨_, rfl⟩
              refine q_iinc F dX9_rests_70 7 rfl e70 [(7, .int (q_I v70)), (6, .int (q_I v68)), (0, .ref (q_ad G 0)), (1, .int (q_I pl)), (2, .int (q_I p)), (3, .int (q_I i)), (4, .int (q_I v33)), (5, .int (q_I v40))] (Nat.le_of_ble_eq_true rfl) rfl ?_
              refine q_goto F 57 dX9_rests_73 (by decide) ?_
              refine q_drop [2, 3, 4, 5, 6, 7, 1, 0] rfl ?_
              exact ih57_1 _ (by omega) v68 v70 ⟨by omega, by rw [e68, hi57.2, show v70.toNat = k.toNat + 1 by omega]; rfl⟩ rfl
        refine q_drop [4, 5, 6, 7, 3, 2, 1, 0] rfl ?_
        exact lp57_1 _ 1 0 ⟨by omega, rfl⟩ rfl
      · refine q_bipush F dX9_rests_48 (by decide) ?_
        exact q_iret F FI dX9_rests_50 (by omega) ⟨by unfold S_rests; rw [if_pos d1, if_pos d2, if_pos (show 4 < q_cnt (q_has (q_set (q_ins (M 3) (M 0 0) pl))) from by rw [show q_set (q_ins (M 3) (M 0 0) pl) = v33 from by rw [e33, kz25.2.1]; exact q_set_congr (fun x _ _ => (q_ins_sim (q_agR_sim (q_an_ag p25)) x).symm)]; omega)], kz25⟩
    · refine q_bipush F dX9_rests_21 (by decide) ?_
      exact q_iret F FI dX9_rests_23 (by omega) ⟨by unfold S_rests; rw [if_pos d1, if_neg (q_df c18)], q_kz_rf⟩
  · refine q_iconst F dX9_rests_9 ?_
    exact q_iret F FI dX9_rests_10 (by omega) ⟨by unfold S_rests; rw [if_neg (q_df c6)], q_kz_rf⟩

set_option maxHeartbeats 4000000 in
set_option maxRecDepth 100000 in
theorem c_X9_seen (G : q_G) (hI : q_inj G) (M : q_M) (hm : q_mo G) (p : Int) (s : Int) (hpR : -2147483648 ≤ p ∧ p ≤ 2147483647) (hsR : -2147483648 ≤ s ∧ s ≤ 2147483647) (hS : 0 ≤ M 0 6 ∧ M 0 6 ≤ 8) : q_CI G yX9_seen wsX9_seen ({ frames := 1, cells := 0, slots := 0, locals := 22 } : Room) [.ref (q_ad G 0), .int (q_I p), .int (q_I s)] M (fun z M' => (¬ ((1 ≤ p ∧ p ≤ 9) ∧ (0 ≤ s ∧ s ≤ 63)) → z = -2 ∧ M' = M) ∧ ((1 ≤ p ∧ p ≤ 9) ∧ (0 ≤ s ∧ s ≤ 63) → (8 ≤ M 0 6 → z = -4 ∧ M' = M) ∧ (M 0 6 < 8 → z = M 0 6 + 1 ∧ M' = q_up (q_up (q_up M 5 (2 * M 0 6) p) 5 (2 * M 0 6 + 1) s) 0 6 (M 0 6 + 1)))) := by
  refine q_CI.of hI (by decide) rfl RX9 rfl [(0, .ref (q_ad G 0)), (1, .int (q_I p)), (2, .int (q_I s))] rfl (Nat.le_of_ble_eq_true rfl) (fun E F FI => ?_)
  have huX9 : ∀ w ∈ wsX90, w ∈ wsX9_seen := by decide +kernel
  refine q_MRof (fun hM => ?_)
  refine q_iload_n F dX9_seen_0 1 rfl ?_
  refine q_iconst F dX9_seen_1 ?_
  refine q_bipush F dX9_seen_2 (by decide) ?_
  refine q_callSP (n := 3) F (c_X9_in G hI M p 1 9 (by omega)) rfl gX9_seen_X9_in ⟨by decide, by decide, by decide +kernel⟩ rfl ⟨rfl, rfl, Nat.le_of_ble_eq_true rfl, Nat.le_of_ble_eq_true rfl⟩ rfl (Nat.le_of_ble_eq_true rfl) dX9_seen_4 (fun h4 => ?_)
  refine q_ifb_eq F 20 dX9_seen_7 (by decide) (fun c7 => ?_) (fun c7 => ?_)
  · refine q_bipush F dX9_seen_20 (by decide) ?_
    exact q_iret F FI dX9_seen_22 (by omega) ⟨fun _ => ⟨rfl, rfl⟩, fun h => absurd h.1 (q_df c7)⟩
  · refine q_iload_n F dX9_seen_10 2 rfl ?_
    refine q_iconst F dX9_seen_11 ?_
    refine q_bipush F dX9_seen_12 (by decide) ?_
    refine q_callSP (n := 3) F (c_X9_in G hI M s 0 63 (by omega)) rfl gX9_seen_X9_in ⟨by decide, by decide, by decide +kernel⟩ rfl ⟨rfl, rfl, Nat.le_of_ble_eq_true rfl, Nat.le_of_ble_eq_true rfl⟩ rfl (Nat.le_of_ble_eq_true rfl) dX9_seen_14 (fun h14 => ?_)
    refine q_ifb_ne F 23 dX9_seen_17 (by decide) (fun c17 => ?_) (fun c17 => ?_)
    · refine q_aload_n F dX9_seen_23 0 rfl ?_
      refine q_geti (T := TX9) (ref := "LeastHungryModel") F huX9 rfl hm.1 6 (by decide) (by decide +kernel) rfl 6 rfl rfl dX9_seen_24 (fun h24 => ?_)
      refine q_bipush F dX9_seen_27 (by decide) ?_
      refine q_icmp_ne F 35 dX9_seen_29 (by decide) (by omega) (fun c29 => ?_) (fun c29 => ?_)
      · refine q_aload_n F dX9_seen_35 0 rfl ?_
        refine q_getr (T := TX9) (ref := "LeastHungryModel") F huX9 rfl hm.1 7 (by decide) (by decide +kernel) rfl rfl dX9_seen_36 ?_
        refine q_iconst F dX9_seen_39 ?_
        refine q_aload_n F dX9_seen_40 0 rfl ?_
        refine q_geti (T := TX9) (ref := "LeastHungryModel") F huX9 rfl hm.1 6 (by decide) (by decide +kernel) rfl 6 rfl rfl dX9_seen_41 (fun h41 => ?_)
        refine q_imul F dX9_seen_44 ?_
        refine q_iload_n F dX9_seen_45 1 rfl ?_
        refine q_iast F hm.2.2.2.2.2.1 (Nat.le_of_ble_eq_true rfl) (by omega) (by omega) dX9_seen_46 (fun N46 eN46 => ?_)
        have i46 : N46 0 6 = M 0 6 := by rw [eN46, q_up_ne (by omega)]
        refine q_aload_n F dX9_seen_47 0 rfl ?_
        refine q_getr (T := TX9) (ref := "LeastHungryModel") F huX9 rfl hm.1 7 (by decide) (by decide +kernel) rfl rfl dX9_seen_48 ?_
        refine q_iconst F dX9_seen_51 ?_
        refine q_aload_n F dX9_seen_52 0 rfl ?_
        refine q_geti (T := TX9) (ref := "LeastHungryModel") F huX9 rfl hm.1 6 (by decide) (by decide +kernel) rfl 6 rfl rfl dX9_seen_53 (fun h53 => ?_)
        refine q_imul F dX9_seen_56 ?_
        refine q_iconst F dX9_seen_57 ?_
        refine q_iadd F dX9_seen_58 ?_
        refine q_iload_n F dX9_seen_59 2 rfl ?_
        refine q_iast F hm.2.2.2.2.2.1 (Nat.le_of_ble_eq_true rfl) (by omega) (by omega) dX9_seen_60 (fun N60 eN60 => ?_)
        have i60 : N60 0 6 = M 0 6 := by rw [eN60, q_up_ne (by omega), i46]
        refine q_aload_n F dX9_seen_61 0 rfl ?_
        refine q_dup F dX9_seen_62 rfl ?_
        refine q_geti (T := TX9) (ref := "LeastHungryModel") F huX9 rfl hm.1 6 (by decide) (by decide +kernel) rfl 6 rfl rfl dX9_seen_63 (fun h63 => ?_)
        refine q_iconst F dX9_seen_66 ?_
        refine q_iadd F dX9_seen_67 ?_
        refine q_puti (T := TX9) (ref := "LeastHungryModel") F huX9 rfl hm.1 6 (by decide) (by decide +kernel) rfl 6 rfl tyX9 tyX9_ok nmX9 rfl rfl (by decide +kernel) (by omega) dX9_seen_68 (fun N68 eN68 => ?_)
        have i68 : N68 0 6 = M 0 6 + 1 := by rw [eN68, q_up_at, if_pos rfl, i60]
        refine q_aload_n F dX9_seen_71 0 rfl ?_
        refine q_geti (T := TX9) (ref := "LeastHungryModel") F huX9 rfl hm.1 6 (by decide) (by decide +kernel) rfl 6 rfl rfl dX9_seen_72 (fun h72 => ?_)
        exact q_iret F FI dX9_seen_75 (by omega) ⟨fun h => absurd ⟨q_dt c7, q_dt c17⟩ h, fun _ => ⟨fun h => by omega, fun _ => ⟨i68, by rw [eN68, i60, eN60, i46, eN46]⟩⟩⟩
      · refine q_bipush F dX9_seen_32 (by decide) ?_
        exact q_iret F FI dX9_seen_34 (by omega) ⟨fun h => absurd ⟨q_dt c7, q_dt c17⟩ h, fun _ => ⟨fun _ => ⟨rfl, rfl⟩, fun h => by omega⟩⟩
    · refine q_bipush F dX9_seen_20 (by decide) ?_
      exact q_iret F FI dX9_seen_22 (by omega) ⟨fun _ => ⟨rfl, rfl⟩, fun h => absurd h.2 (q_df c17)⟩

set_option maxHeartbeats 4000000 in
set_option maxRecDepth 100000 in
theorem c_X9_forget (G : q_G) (hI : q_inj G) (M : q_M) (hm : q_mo G) : q_CI G yX9_forget wsX9_forget ({ frames := 0, cells := 0, slots := 0, locals := 0 } : Room) [.ref (q_ad G 0)] M (fun z M' => z = M 0 6 ∧ M' = q_up M 0 6 0) := by
  refine q_CI.of hI (by decide) rfl RX9 rfl [(0, .ref (q_ad G 0))] rfl (Nat.le_of_ble_eq_true rfl) (fun E F FI => ?_)
  have huX9 : ∀ w ∈ wsX90, w ∈ wsX9_forget := by decide +kernel
  refine q_MRof (fun hM => ?_)
  refine q_aload_n F dX9_forget_0 0 rfl ?_
  refine q_geti (T := TX9) (ref := "LeastHungryModel") F huX9 rfl hm.1 6 (by decide) (by decide +kernel) rfl 6 rfl rfl dX9_forget_1 (fun h1 => ?_)
  refine q_nm (fun v4 e4 => ?_)
  refine q_istore_n F dX9_forget_4 [(1, .int (q_I v4)), (0, .ref (q_ad G 0))] (Nat.le_of_ble_eq_true rfl) rfl ?_
  refine q_aload_n F dX9_forget_5 1 rfl ?_
  refine q_iconst F dX9_forget_6 ?_
  refine q_puti (T := TX9) (ref := "LeastHungryModel") F huX9 rfl hm.1 6 (by decide) (by decide +kernel) rfl 6 rfl tyX9 tyX9_ok nmX9 rfl rfl (by decide +kernel) (by omega) dX9_forget_7 (fun N7 eN7 => ?_)
  refine q_iload_n F dX9_forget_10 0 rfl ?_
  exact q_iret F FI dX9_forget_11 (by omega) ⟨e4, eN7⟩

set_option maxHeartbeats 4000000 in
set_option maxRecDepth 100000 in
theorem c_X9_round (G : q_G) (hI : q_inj G) (M : q_M) (hm : q_mo G) (g : Int) (m : Int) (d : Int) (w : Int) (hgR : -2147483648 ≤ g ∧ g ≤ 2147483647) (hmR : -2147483648 ≤ m ∧ m ≤ 2147483647) (hdR : -2147483648 ≤ d ∧ d ≤ 2147483647) (hwR : -2147483648 ≤ w ∧ w ≤ 2147483647) (hZ : q_Z M) : q_CI G yX9_round wsX9_round ({ frames := 4, cells := 0, slots := 0, locals := 95 } : Room) [.ref (q_ad G 0), .int (q_I g), .int (q_I m), .int (q_I d), .int (q_I w)] M (fun z M' => z = S_round (M 1) (M 2) (M 3) (M 0 0) (M 0 4) g m d w ∧ q_kz M M') := by
  refine q_CI.of hI (by decide) rfl RX9 rfl [(0, .ref (q_ad G 0)), (1, .int (q_I g)), (2, .int (q_I m)), (3, .int (q_I d)), (4, .int (q_I w))] rfl (Nat.le_of_ble_eq_true rfl) (fun E F FI => ?_)
  have huX9 : ∀ w ∈ wsX90, w ∈ wsX9_round := by decide +kernel
  refine q_MRof (fun hM => ?_)
  obtain ⟨⟨xt, xk⟩, ⟨xh, xf, xa⟩, xF, xs, xp⟩ := id hZ
  have hz := hZ.1
  refine q_aload_n F dX9_round_0 0 rfl ?_
  refine q_iload_n F dX9_round_1 1 rfl ?_
  refine q_callVP (n := 1) (T := TX9) F (c_X9_isThere G hI M hm g (by omega) (by assumption)) rfl rfl hm.1 gX9_round_X9_isThere rfl ⟨by decide, by decide, by decide +kernel⟩ rfl ⟨rfl, rfl, Nat.le_of_ble_eq_true rfl, Nat.le_of_ble_eq_true rfl⟩ rfl (Nat.le_of_ble_eq_true rfl) dX9_round_2 (fun h2 => ?_)
  refine q_ifb_ne F 10 dX9_round_5 (by decide) (fun c5 => ?_) (fun c5 => ?_)
  · have hgi := q_has_in c5
    refine q_iload_n F dX9_round_10 2 rfl ?_
    refine q_iconst F dX9_round_11 ?_
    refine q_iconst F dX9_round_12 ?_
    refine q_callSP (n := 3) F (c_X9_in G hI M m 0 5 (by omega)) rfl gX9_round_X9_in ⟨by decide, by decide, by decide +kernel⟩ rfl ⟨rfl, rfl, Nat.le_of_ble_eq_true rfl, Nat.le_of_ble_eq_true rfl⟩ rfl (Nat.le_of_ble_eq_true rfl) dX9_round_13 (fun h13 => ?_)
    refine q_ifb_eq F 40 dX9_round_16 (by decide) (fun c16 => ?_) (fun c16 => ?_)
    · refine q_bipush F dX9_round_40 (by decide) ?_
      exact q_iret F FI dX9_round_42 (by omega) ⟨by unfold S_round; rw [if_pos c5, if_neg (fun h => absurd h.1 (q_df c16))], q_kz_rf⟩
    · refine q_iload_n F dX9_round_19 3 rfl ?_
      refine q_iconst F dX9_round_20 ?_
      refine q_sipush F dX9_round_21 (by decide) ?_
      refine q_callSP (n := 3) F (c_X9_in G hI M d 0 999 (by omega)) rfl gX9_round_X9_in ⟨by decide, by decide, by decide +kernel⟩ rfl ⟨rfl, rfl, Nat.le_of_ble_eq_true rfl, Nat.le_of_ble_eq_true rfl⟩ rfl (Nat.le_of_ble_eq_true rfl) dX9_round_24 (fun h24 => ?_)
      refine q_ifb_eq F 40 dX9_round_27 (by decide) (fun c27 => ?_) (fun c27 => ?_)
      · refine q_bipush F dX9_round_40 (by decide) ?_
        exact q_iret F FI dX9_round_42 (by omega) ⟨by unfold S_round; rw [if_pos c5, if_neg (fun h => absurd h.2.1 (q_df c27))], q_kz_rf⟩
      · refine q_iload F dX9_round_30 4 rfl ?_
        refine q_iconst F dX9_round_32 ?_
        refine q_iconst F dX9_round_33 ?_
        refine q_callSP (n := 3) F (c_X9_in G hI M w 0 1 (by omega)) rfl gX9_round_X9_in ⟨by decide, by decide, by decide +kernel⟩ rfl ⟨rfl, rfl, Nat.le_of_ble_eq_true rfl, Nat.le_of_ble_eq_true rfl⟩ rfl (Nat.le_of_ble_eq_true rfl) dX9_round_34 (fun h34 => ?_)
        refine q_ifb_ne F 43 dX9_round_37 (by decide) (fun c37 => ?_) (fun c37 => ?_)
        · have d1 := q_dt c16
          have d2 := q_dt c27
          have d3 := q_dt c37
          refine q_iconst F dX9_round_43 ?_
          refine q_istore F dX9_round_44 [(5, .int (q_I 1)), (0, .ref (q_ad G 0)), (1, .int (q_I g)), (2, .int (q_I m)), (3, .int (q_I d)), (4, .int (q_I w))] (Nat.le_of_ble_eq_true rfl) rfl ?_
          refine q_iconst F dX9_round_46 ?_
          refine q_istore F dX9_round_47 [(6, .int (q_I 0)), (5, .int (q_I 1)), (0, .ref (q_ad G 0)), (1, .int (q_I g)), (2, .int (q_I m)), (3, .int (q_I d)), (4, .int (q_I w))] (Nat.le_of_ble_eq_true rfl) rfl ?_
          have lp49_1 : ∀ (k49_1 : Nat) (c : Int) (k0 : Int), ((0 ≤ k0 ∧ k0 ≤ m) ∧ c = q_pw 3 k0.toNat) → (m - k0).toNat = k49_1 → q_Y G E 15 M [(0, .ref (q_ad G 0)), (1, .int (q_I g)), (2, .int (q_I m)), (3, .int (q_I d)), (4, .int (q_I w)), (5, .int (q_I c)), (6, .int (q_I k0))] 49 [] := by
            intro k49_1
            induction k49_1 using Nat.strongRecOn with
            | _ k49_1 ih49_1 =>
              intro c k0   hi49 hk49
              refine q_iload F dX9_round_49 6 rfl ?_
              refine q_iload_n F dX9_round_51 2 rfl ?_
              refine q_icmp_ge F 67 dX9_round_52 (by decide) (by omega) (fun c52 => ?_) (fun c52 => ?_)
              · have hC : c = q_pw 3 m.toNat := by rw [hi49.2, show k0 = m by omega]
                have hC2 := q_pw3_m d1.1 (show m ≤ 6 by omega)
                rw [← hC] at hC2
                have hRd : S_round (M 1) (M 2) (M 3) (M 0 0) (M 0 4) g m d w = _ := q_S_round (show q_Tv (q_T0 (M 1) (M 2) (M 3)) from ⟨xh, xf, xa⟩) c5 d1 d2 d3
                unfold q_rnd at hRd
                rw [← hC] at hRd
                refine q_ldc (n := 1000000) F dX9_round_67 (by decide +kernel) ?_
                refine q_istore F dX9_round_69 [(6, .int (q_I 1000000)), (0, .ref (q_ad G 0)), (1, .int (q_I g)), (2, .int (q_I m)), (3, .int (q_I d)), (4, .int (q_I w)), (5, .int (q_I c))] (Nat.le_of_ble_eq_true rfl) rfl ?_
                refine q_bipush F dX9_round_71 (by decide) ?_
                refine q_istore F dX9_round_73 [(7, .int (q_I (-6))), (6, .int (q_I 1000000)), (0, .ref (q_ad G 0)), (1, .int (q_I g)), (2, .int (q_I m)), (3, .int (q_I d)), (4, .int (q_I w)), (5, .int (q_I c))] (Nat.le_of_ble_eq_true rfl) rfl ?_
                refine q_iconst F dX9_round_75 ?_
                refine q_istore F dX9_round_76 [(8, .int (q_I 0)), (7, .int (q_I (-6))), (6, .int (q_I 1000000)), (0, .ref (q_ad G 0)), (1, .int (q_I g)), (2, .int (q_I m)), (3, .int (q_I d)), (4, .int (q_I w)), (5, .int (q_I c))] (Nat.le_of_ble_eq_true rfl) rfl ?_
                have lp78_2 : ∀ (k78_2 : Nat) (b : Int) (fi : Int) (y : Int) (M1 : q_M), ((0 ≤ y ∧ y ≤ c) ∧ (-2147483648 ≤ b ∧ b ≤ 2147483647) ∧ (-2147483648 ≤ fi ∧ fi ≤ 2147483647) ∧ (b, fi) = q_bsN (fun y => qt_h (q_wk (q_hrT (M 0 0)) (M 0 0) (M 0 4) d g (fun x => y / q_pw 3 (m - 1 - x).toNat % 3) m.toNat (q_T0 (M 1) (M 2) (M 3))) g) (fun y => if m = 0 then -6 else y / q_pw 3 (m - 1).toNat % 3) 1000000 y.toNat ∧ q_kz M M1) → (c - y).toNat = k78_2 → q_Y G E 15 M1 [(0, .ref (q_ad G 0)), (1, .int (q_I g)), (2, .int (q_I m)), (3, .int (q_I d)), (4, .int (q_I w)), (5, .int (q_I c)), (6, .int (q_I b)), (7, .int (q_I fi)), (8, .int (q_I y))] 78 [] := by
                  intro k78_2
                  induction k78_2 using Nat.strongRecOn with
                  | _ k78_2 ih78_2 =>
                    intro b fi y  M1 hi78 hk78
                    refine q_MRof (fun hM78 => ?_)
                    obtain ⟨n1, n2, n3, n4, n5⟩ := id hi78
                    refine q_iload F dX9_round_78 8 rfl ?_
                    refine q_iload F dX9_round_80 5 rfl ?_
                    refine q_icmp_ge F 285 dX9_round_82 (by decide) (by omega) (fun c82 => ?_) (fun c82 => ?_)
                    · refine q_iload F dX9_round_285 4 rfl ?_
                      refine q_if_ne F 295 dX9_round_287 (by decide) (by omega) (fun c287 => ?_) (fun c287 => ?_)
                      · refine q_iload F dX9_round_295 7 rfl ?_
                        exact q_iret F FI dX9_round_297 (by omega) ⟨by rw [hRd, ← show y = c by omega, ← n4, if_neg c287], n5⟩
                      · refine q_iload F dX9_round_290 6 rfl ?_
                        refine q_goto F 297 dX9_round_292 (by decide) ?_
                        exact q_iret F FI dX9_round_297 (by omega) ⟨by rw [hRd, ← show y = c by omega, ← n4, if_pos c287], n5⟩
                    · refine q_iload F dX9_round_85 5 rfl ?_
                      refine q_istore F dX9_round_87 [(9, .int (q_I c)), (0, .ref (q_ad G 0)), (1, .int (q_I g)), (2, .int (q_I m)), (3, .int (q_I d)), (4, .int (q_I w)), (5, .int (q_I c)), (6, .int (q_I b)), (7, .int (q_I fi)), (8, .int (q_I y))] (Nat.le_of_ble_eq_true rfl) rfl ?_
                      refine q_bipush F dX9_round_89 (by decide) ?_
                      refine q_istore F dX9_round_91 [(10, .int (q_I (-6))), (9, .int (q_I c)), (0, .ref (q_ad G 0)), (1, .int (q_I g)), (2, .int (q_I m)), (3, .int (q_I d)), (4, .int (q_I w)), (5, .int (q_I c)), (6, .int (q_I b)), (7, .int (q_I fi)), (8, .int (q_I y))] (Nat.le_of_ble_eq_true rfl) rfl ?_
                      refine q_aload_n F dX9_round_93 2 rfl ?_
                      refine q_callVV (n := 0) (T := TX9) F (c_X9_asNow G hI M1 hm) rfl rfl hm.1 gX9_round_X9_asNow rfl ⟨by decide, by decide, by decide +kernel⟩ rfl ⟨rfl, rfl, Nat.le_of_ble_eq_true rfl, Nat.le_of_ble_eq_true rfl⟩ rfl (Nat.le_of_ble_eq_true rfl) dX9_round_94 (fun N94 p94 => ?_)
                      have zv94 := q_an_zv p94 (q_Z_kz hZ n5)
                      have kz94 : q_kz M N94 := q_kz_tr n5 (q_an_kz p94)
                      have sR94 := q_an_sR n5 p94
                      have pc94 := q_an_pc p94
                      refine q_iconst F dX9_round_97 ?_
                      refine q_istore F dX9_round_98 [(11, .int (q_I 0)), (10, .int (q_I (-6))), (9, .int (q_I c)), (0, .ref (q_ad G 0)), (1, .int (q_I g)), (2, .int (q_I m)), (3, .int (q_I d)), (4, .int (q_I w)), (5, .int (q_I c)), (6, .int (q_I b)), (7, .int (q_I fi)), (8, .int (q_I y))] (Nat.le_of_ble_eq_true rfl) rfl ?_
                      have lp100_3 : ∀ (k100_3 : Nat) (bq : Int) (bg : Int) (k : Int) (M2 : q_M), ((0 ≤ k ∧ k ≤ m) ∧ bq = q_pw 3 (m - k).toNat ∧ (bg = if k = 0 then -6 else y / q_pw 3 (m - 1).toNat % 3) ∧ q_kz M M2 ∧ q_zv M2 ∧ q_pc M2 (3 * k) ∧ q_sR (M 0 0) (q_v9 M2) (q_wk (q_hrT (M 0 0)) (M 0 0) (M 0 4) d g (fun x => y / q_pw 3 (m - 1 - x).toNat % 3) k.toNat (q_T0 (M 1) (M 2) (M 3)))) → (m - k).toNat = k100_3 → q_Y G E 15 M2 [(0, .ref (q_ad G 0)), (1, .int (q_I g)), (2, .int (q_I m)), (3, .int (q_I d)), (4, .int (q_I w)), (5, .int (q_I c)), (6, .int (q_I b)), (7, .int (q_I fi)), (8, .int (q_I y)), (9, .int (q_I bq)), (10, .int (q_I bg)), (11, .int (q_I k))] 100 [] := by
                        intro k100_3
                        induction k100_3 using Nat.strongRecOn with
                        | _ k100_3 ih100_3 =>
                          intro bq bg k  M2 hi100 hk100
                          refine q_MRof (fun hM100 => ?_)
                          obtain ⟨i1, i2, i3, i4, i5, i6, i7⟩ := id hi100
                          have hbqR := q_pw3_m (m := m - k) (by omega) (by omega)
                          rw [← i2] at hbqR
                          refine q_iload F dX9_round_100 11 rfl ?_
                          refine q_iload_n F dX9_round_102 2 rfl ?_
                          refine q_icmp_ge F 235 dX9_round_103 (by decide) (by omega) (fun c103 => ?_) (fun c103 => ?_)
                          · obtain ⟨i1, i2, i3, i4, i5, i6, i7⟩ := id hi100
                            have hkm : k = m := by omega
                            have hnow : M2 7 g = qt_h (q_wk (q_hrT (M 0 0)) (M 0 0) (M 0 4) d g (fun x => y / q_pw 3 (m - 1 - x).toNat % 3) m.toNat (q_T0 (M 1) (M 2) (M 3))) g := by
                              rw [hkm] at i7
                              exact (i7 g c5).1
                            have hbg : bg = if m = 0 then -6 else y / q_pw 3 (m - 1).toNat % 3 := by rw [i3, hkm]
                            have hxh := i5.2.1 g hgi.1 hgi.2
                            have hbgR : -6 ≤ bg ∧ bg ≤ 2 := by
                              rw [hbg]
                              split <;> omega
                            refine q_aload_n F dX9_round_235 0 rfl ?_
                            refine q_getr (T := TX9) (ref := "LeastHungryModel") F huX9 rfl hm.1 10 (by decide) (by decide +kernel) rfl rfl dX9_round_236 ?_
                            refine q_iload_n F dX9_round_239 1 rfl ?_
                            refine q_iald F hm.2.2.2.2.2.2.2.1 (Nat.le_of_ble_eq_true rfl) (by omega) dX9_round_240 (fun h240 => ?_)
                            refine q_iload F dX9_round_241 6 rfl ?_
                            refine q_icmp_ge F 251 dX9_round_243 (by decide) (by omega) (fun c243 => ?_) (fun c243 => ?_)
                            · refine q_iload F dX9_round_251 7 rfl ?_
                              refine q_istore F dX9_round_253 [(7, .int (q_I fi)), (0, .ref (q_ad G 0)), (1, .int (q_I g)), (2, .int (q_I m)), (3, .int (q_I d)), (4, .int (q_I w)), (5, .int (q_I c)), (6, .int (q_I b)), (8, .int (q_I y)), (9, .int (q_I bq)), (10, .int (q_I bg)), (11, .int (q_I k))] (Nat.le_of_ble_eq_true rfl) rfl ?_
                              refine q_aload_n F dX9_round_255 1 rfl ?_
                              refine q_getr (T := TX9) (ref := "LeastHungryModel") F huX9 rfl hm.1 10 (by decide) (by decide +kernel) rfl rfl dX9_round_256 ?_
                              refine q_iload_n F dX9_round_259 2 rfl ?_
                              refine q_iald F hm.2.2.2.2.2.2.2.1 (Nat.le_of_ble_eq_true rfl) (by omega) dX9_round_260 (fun h260 => ?_)
                              refine q_iload F dX9_round_261 7 rfl ?_
                              refine q_icmp_ge F 275 dX9_round_263 (by decide) (by omega) (fun c263 => ?_) (fun c263 => ?_)
                              rotate_left
                              · exfalso; omega
                              refine q_iload F dX9_round_275 7 rfl ?_
                              refine q_istore F dX9_round_277 [(6, .int (q_I b)), (7, .int (q_I fi)), (0, .ref (q_ad G 0)), (1, .int (q_I g)), (2, .int (q_I m)), (3, .int (q_I d)), (4, .int (q_I w)), (5, .int (q_I c)), (8, .int (q_I y)), (9, .int (q_I bq)), (10, .int (q_I bg)), (11, .int (q_I k))] (Nat.le_of_ble_eq_true rfl) rfl ?_
                              obtain ⟨v279, e279⟩ : ∃ z_ : Int, z_ = y + 1 := ⟨_, rfl⟩
                              refine q_iinc F dX9_round_279 8 rfl e279 [(8, .int (q_I v279)), (6, .int (q_I b)), (7, .int (q_I fi)), (0, .ref (q_ad G 0)), (1, .int (q_I g)), (2, .int (q_I m)), (3, .int (q_I d)), (4, .int (q_I w)), (5, .int (q_I c)), (9, .int (q_I bq)), (10, .int (q_I bg)), (11, .int (q_I k))] (Nat.le_of_ble_eq_true rfl) rfl ?_
                              refine q_goto F 78 dX9_round_282 (by decide) ?_
                              refine q_drop [3, 4, 5, 6, 7, 8, 1, 2, 0] rfl ?_
                              exact ih78_2 _ (by omega) b fi v279 M2 ⟨by omega, n2, n3, by
                                    rw [e279, show (y + 1).toNat = y.toNat + 1 by omega, q_bsN_s, ← n4]
                                    show _ = if qt_h (q_wk (q_hrT (M 0 0)) (M 0 0) (M 0 4) d g (fun x => (y.toNat : Int) / q_pw 3 (m - 1 - x).toNat % 3) m.toNat (q_T0 (M 1) (M 2) (M 3))) g < b then (qt_h (q_wk (q_hrT (M 0 0)) (M 0 0) (M 0 4) d g (fun x => (y.toNat : Int) / q_pw 3 (m - 1 - x).toNat % 3) m.toNat (q_T0 (M 1) (M 2) (M 3))) g, if m = 0 then -6 else (y.toNat : Int) / q_pw 3 (m - 1).toNat % 3) else _
                                    rw [Int.toNat_of_nonneg n1.1, ← hnow]
                                    rw [if_neg (by omega)], i4⟩ rfl
                            · refine q_iload F dX9_round_246 10 rfl ?_
                              refine q_goto F 253 dX9_round_248 (by decide) ?_
                              refine q_istore F dX9_round_253 [(7, .int (q_I bg)), (0, .ref (q_ad G 0)), (1, .int (q_I g)), (2, .int (q_I m)), (3, .int (q_I d)), (4, .int (q_I w)), (5, .int (q_I c)), (6, .int (q_I b)), (8, .int (q_I y)), (9, .int (q_I bq)), (10, .int (q_I bg)), (11, .int (q_I k))] (Nat.le_of_ble_eq_true rfl) rfl ?_
                              refine q_aload_n F dX9_round_255 1 rfl ?_
                              refine q_getr (T := TX9) (ref := "LeastHungryModel") F huX9 rfl hm.1 10 (by decide) (by decide +kernel) rfl rfl dX9_round_256 ?_
                              refine q_iload_n F dX9_round_259 2 rfl ?_
                              refine q_iald F hm.2.2.2.2.2.2.2.1 (Nat.le_of_ble_eq_true rfl) (by omega) dX9_round_260 (fun h260 => ?_)
                              refine q_iload F dX9_round_261 7 rfl ?_
                              refine q_icmp_ge F 275 dX9_round_263 (by decide) (by omega) (fun c263 => ?_) (fun c263 => ?_)
                              · exfalso; omega
                              refine q_aload_n F dX9_round_266 1 rfl ?_
                              refine q_getr (T := TX9) (ref := "LeastHungryModel") F huX9 rfl hm.1 10 (by decide) (by decide +kernel) rfl rfl dX9_round_267 ?_
                              refine q_iload_n F dX9_round_270 2 rfl ?_
                              refine q_iald F hm.2.2.2.2.2.2.2.1 (Nat.le_of_ble_eq_true rfl) (by omega) dX9_round_271 (fun h271 => ?_)
                              refine q_goto F 277 dX9_round_272 (by decide) ?_
                              refine q_nm (fun v277 e277 => ?_)
                              refine q_istore F dX9_round_277 [(6, .int (q_I v277)), (7, .int (q_I bg)), (0, .ref (q_ad G 0)), (1, .int (q_I g)), (2, .int (q_I m)), (3, .int (q_I d)), (4, .int (q_I w)), (5, .int (q_I c)), (8, .int (q_I y)), (9, .int (q_I bq)), (10, .int (q_I bg)), (11, .int (q_I k))] (Nat.le_of_ble_eq_true rfl) rfl ?_
                              obtain ⟨v279, e279⟩ : ∃ z_ : Int, z_ = y + 1 := ⟨_, rfl⟩
                              refine q_iinc F dX9_round_279 8 rfl e279 [(8, .int (q_I v279)), (6, .int (q_I v277)), (7, .int (q_I bg)), (0, .ref (q_ad G 0)), (1, .int (q_I g)), (2, .int (q_I m)), (3, .int (q_I d)), (4, .int (q_I w)), (5, .int (q_I c)), (9, .int (q_I bq)), (10, .int (q_I bg)), (11, .int (q_I k))] (Nat.le_of_ble_eq_true rfl) rfl ?_
                              refine q_goto F 78 dX9_round_282 (by decide) ?_
                              refine q_drop [3, 4, 5, 6, 7, 8, 1, 2, 0] rfl ?_
                              exact ih78_2 _ (by omega) v277 bg v279 M2 ⟨by omega, by omega, by omega, by
                                    rw [e279, show (y + 1).toNat = y.toNat + 1 by omega, q_bsN_s, ← n4]
                                    show _ = if qt_h (q_wk (q_hrT (M 0 0)) (M 0 0) (M 0 4) d g (fun x => (y.toNat : Int) / q_pw 3 (m - 1 - x).toNat % 3) m.toNat (q_T0 (M 1) (M 2) (M 3))) g < b then (qt_h (q_wk (q_hrT (M 0 0)) (M 0 0) (M 0 4) d g (fun x => (y.toNat : Int) / q_pw 3 (m - 1 - x).toNat % 3) m.toNat (q_T0 (M 1) (M 2) (M 3))) g, if m = 0 then -6 else (y.toNat : Int) / q_pw 3 (m - 1).toNat % 3) else _
                                    rw [Int.toNat_of_nonneg n1.1, ← hnow]
                                    rw [if_pos (by omega), e277, ← hbg], i4⟩ rfl
                          · refine q_iload F dX9_round_106 9 rfl ?_
                            refine q_iconst F dX9_round_108 ?_
                            refine q_idiv F dX9_round_109 (by omega) ?_
                            refine q_nm (fun v110 e110 => ?_)
                            refine q_istore F dX9_round_110 [(9, .int (q_I v110)), (0, .ref (q_ad G 0)), (1, .int (q_I g)), (2, .int (q_I m)), (3, .int (q_I d)), (4, .int (q_I w)), (5, .int (q_I c)), (6, .int (q_I b)), (7, .int (q_I fi)), (8, .int (q_I y)), (10, .int (q_I bg)), (11, .int (q_I k))] (Nat.le_of_ble_eq_true rfl) rfl ?_
                            have h110 : v110 = q_pw 3 (m - 1 - k).toNat := by rw [e110, i2, show (m - k).toNat = (m - 1 - k).toNat + 1 by omega, q_pw_d (by omega)]
                            have hpp := q_pw3_m (m := m - 1 - k) (by omega) (by omega)
                            rw [← h110] at hpp
                            have hdd := q_dg3 (y := y) (n := v110) (by omega) (by omega)
                            refine q_iload F dX9_round_112 9 rfl ?_
                            refine q_iload F dX9_round_114 0 rfl ?_
                            refine q_idiv F dX9_round_116 (by omega) ?_
                            refine q_iconst F dX9_round_117 ?_
                            refine q_irem F dX9_round_118 (by omega) ?_
                            refine q_nm (fun v119 e119 => ?_)
                            refine q_istore F dX9_round_119 [(12, .int (q_I v119)), (9, .int (q_I v110)), (0, .ref (q_ad G 0)), (1, .int (q_I g)), (2, .int (q_I m)), (3, .int (q_I d)), (4, .int (q_I w)), (5, .int (q_I c)), (6, .int (q_I b)), (7, .int (q_I fi)), (8, .int (q_I y)), (10, .int (q_I bg)), (11, .int (q_I k))] (Nat.le_of_ble_eq_true rfl) rfl ?_
                            have h119 : v119 = y / q_pw 3 (m - 1 - k).toNat % 3 := by rw [e119, h110]
                            have hxa := i5.2.2.2 g hgi.1 hgi.2
                            have hxh := i5.2.1 g hgi.1 hgi.2
                            refine q_iload F dX9_round_121 12 rfl ?_
                            refine q_if_ne F 131 dX9_round_123 (by decide) (by omega) (fun c123 => ?_) (fun c123 => ?_)
                            · refine q_iload F dX9_round_131 11 rfl ?_
                              refine q_istore F dX9_round_133 [(10, .int (q_I bg)), (12, .int (q_I v119)), (9, .int (q_I v110)), (0, .ref (q_ad G 0)), (1, .int (q_I g)), (2, .int (q_I m)), (3, .int (q_I d)), (4, .int (q_I w)), (5, .int (q_I c)), (6, .int (q_I b)), (7, .int (q_I fi)), (8, .int (q_I y)), (11, .int (q_I k))] (Nat.le_of_ble_eq_true rfl) rfl ?_
                              refine q_aload_n F dX9_round_135 3 rfl ?_
                              refine q_getr (T := TX9) (ref := "LeastHungryModel") F huX9 rfl hm.1 12 (by decide) (by decide +kernel) rfl rfl dX9_round_136 ?_
                              refine q_iload_n F dX9_round_139 4 rfl ?_
                              refine q_iald F hm.2.2.2.2.2.2.2.2.2.1 (Nat.le_of_ble_eq_true rfl) (by omega) dX9_round_140 (fun h140 => ?_)
                              refine q_iload F dX9_round_141 1 rfl ?_
                              refine q_icmp_eq F 153 dX9_round_143 (by decide) (by omega) (fun c143 => ?_) (fun c143 => ?_)
                              · have hW0 : q_kz M M2 ∧ q_zv M2 ∧ q_pc M2 (3 * k) ∧ q_sR (M 0 0) (q_v9 M2) (q_wg (M 0 0) (q_wk (q_hrT (M 0 0)) (M 0 0) (M 0 4) d g (fun x => y / q_pw 3 (m - 1 - x).toNat % 3) k.toNat (q_T0 (M 1) (M 2) (M 3))) g v119) := by
                                  refine ⟨i4, i5, i6, ?_⟩
                                  unfold q_wg
                                  rw [if_neg]
                                  · exact i7
                                  · rw [← q_sR_W i7]
                                    unfold q_goW
                                    rw [if_pos c5, if_pos (show qt_a (q_v9 M2) g = v119 from c143)]
                                    decide
                                refine q_iconst F dX9_round_153 ?_
                                refine q_istore F dX9_round_154 [(13, .int (q_I 0)), (10, .int (q_I bg)), (12, .int (q_I v119)), (9, .int (q_I v110)), (0, .ref (q_ad G 0)), (1, .int (q_I g)), (2, .int (q_I m)), (3, .int (q_I d)), (4, .int (q_I w)), (5, .int (q_I c)), (6, .int (q_I b)), (7, .int (q_I fi)), (8, .int (q_I y)), (11, .int (q_I k))] (Nat.le_of_ble_eq_true rfl) rfl ?_
                                have lp156_4 : ∀ (k156_4 : Nat) (b2 : Int) (M3 : q_M), ((0 ≤ b2 ∧ b2 ≤ 3) ∧ q_kz M M3 ∧ q_zv M3 ∧ q_pc M3 (3 * k + b2) ∧ q_sR (M 0 0) (q_v9 M3) (q_b3 (M 0 0) (M 0 4) d (q_wg (M 0 0) (q_wk (q_hrT (M 0 0)) (M 0 0) (M 0 4) d g (fun x => y / q_pw 3 (m - 1 - x).toNat % 3) k.toNat (q_T0 (M 1) (M 2) (M 3))) g v119) b2.toNat)) → (3 - b2).toNat = k156_4 → q_Y G E 15 M3 [(0, .ref (q_ad G 0)), (1, .int (q_I g)), (2, .int (q_I m)), (3, .int (q_I d)), (4, .int (q_I w)), (5, .int (q_I c)), (6, .int (q_I b)), (7, .int (q_I fi)), (8, .int (q_I y)), (9, .int (q_I v110)), (10, .int (q_I bg)), (11, .int (q_I k)), (12, .int (q_I v119)), (13, .int (q_I b2))] 156 [] := by
                                  intro k156_4
                                  induction k156_4 using Nat.strongRecOn with
                                  | _ k156_4 ih156_4 =>
                                    intro b2  M3 hi156 hk156
                                    refine q_MRof (fun hM156 => ?_)
                                    obtain ⟨m1, m2, m3, m4, m5⟩ := id hi156
                                    have t3 : M3 0 0 = M 0 0 := m2.2.1
                                    have ke3 : M3 0 4 = M 0 4 := m2.2.2.1
                                    refine q_iload F dX9_round_156 13 rfl ?_
                                    refine q_iconst F dX9_round_158 ?_
                                    refine q_icmp_ge F 225 dX9_round_159 (by decide) (by omega) (fun c159 => ?_) (fun c159 => ?_)
                                    · refine q_aload_n F dX9_round_225 0 rfl ?_
                                      refine q_callVV (n := 0) (T := TX9) F (c_X9_hour G hI M3 hm m3) rfl rfl hm.1 gX9_round_X9_hour rfl ⟨by decide, by decide, by decide +kernel⟩ rfl ⟨rfl, rfl, Nat.le_of_ble_eq_true rfl, Nat.le_of_ble_eq_true rfl⟩ rfl (Nat.le_of_ble_eq_true rfl) dX9_round_226 (fun N226 p226 => ?_)
                                      obtain ⟨v229, e229⟩ : ∃ z_ : Int, z_ = k + 1 := ⟨_, rfl⟩
                                      refine q_iinc F dX9_round_229 11 rfl e229 [(11, .int (q_I v229)), (0, .ref (q_ad G 0)), (1, .int (q_I g)), (2, .int (q_I m)), (3, .int (q_I d)), (4, .int (q_I w)), (5, .int (q_I c)), (6, .int (q_I b)), (7, .int (q_I fi)), (8, .int (q_I y)), (9, .int (q_I v110)), (10, .int (q_I bg)), (12, .int (q_I v119)), (13, .int (q_I b2))] (Nat.le_of_ble_eq_true rfl) rfl ?_
                                      refine q_goto F 100 dX9_round_232 (by decide) ?_
                                      refine q_drop [1, 2, 3, 4, 5, 6, 7, 8, 9, 10, 11, 0] rfl ?_
                                      exact ih100_3 _ (by omega) v110 bg v229 N226 ⟨by omega, by rw [h110, e229, show m - 1 - k = m - (k + 1) by omega], by
                                            rw [e229, if_neg (show ¬ k + 1 = 0 by omega)]
                                            rw [i3, if_neg c123], q_kz_tr m2 (q_kz_fr p226.1 (by omega)), q_zv_ho m3 p226.1 p226.2, q_pc_ho (by rw [e229]; exact q_pc_mo m4 (by omega)) p226.1, by
                                            rw [e229, show (k + 1).toNat = k.toNat + 1 by omega, q_wk_s, q_v9_ho (th := M 0 0) p226.1 (by rw [p226.2, m2.2.1])]
                                            refine q_sR_ho ?_
                                            rw [show b2.toNat = 3 by omega] at m5
                                            rw [Int.toNat_of_nonneg i1.1, ← h119]
                                            exact m5⟩ rfl
                                    · refine q_iload F dX9_round_162 13 rfl ?_
                                      refine q_if_ne F 174 dX9_round_164 (by decide) (by omega) (fun c164 => ?_) (fun c164 => ?_)
                                      · refine q_iload F dX9_round_174 13 rfl ?_
                                        refine q_iconst F dX9_round_176 ?_
                                        refine q_icmp_ne F 190 dX9_round_177 (by decide) (by omega) (fun c177 => ?_) (fun c177 => ?_)
                                        · refine q_iload_n F dX9_round_190 3 rfl ?_
                                          refine q_bipush F dX9_round_191 (by decide) ?_
                                          refine q_irem F dX9_round_193 (by omega) ?_
                                          refine q_nm (fun v194 e194 => ?_)
                                          refine q_istore F dX9_round_194 [(14, .int (q_I v194)), (0, .ref (q_ad G 0)), (1, .int (q_I g)), (2, .int (q_I m)), (3, .int (q_I d)), (4, .int (q_I w)), (5, .int (q_I c)), (6, .int (q_I b)), (7, .int (q_I fi)), (8, .int (q_I y)), (9, .int (q_I v110)), (10, .int (q_I bg)), (11, .int (q_I k)), (12, .int (q_I v119)), (13, .int (q_I b2))] (Nat.le_of_ble_eq_true rfl) rfl ?_
                                          have hpo : v194 = q_dpo d b2 := by
                                            unfold q_dpo
                                            rw [if_neg c164, if_neg c177]; exact e194
                                          have hpR : 0 ≤ v194 ∧ v194 ≤ 9 := by omega
                                          refine q_iload F dX9_round_196 0 rfl ?_
                                          refine q_if_le F 219 dX9_round_198 (by decide) (by omega) (fun c198 => ?_) (fun c198 => ?_)
                                          · obtain ⟨v219, e219⟩ : ∃ z_ : Int, z_ = b2 + 1 := ⟨_, rfl⟩
                                            refine q_iinc F dX9_round_219 14 rfl e219 [(13, .int (q_I v219)), (14, .int (q_I v194)), (0, .ref (q_ad G 0)), (1, .int (q_I g)), (2, .int (q_I m)), (3, .int (q_I d)), (4, .int (q_I w)), (5, .int (q_I c)), (6, .int (q_I b)), (7, .int (q_I fi)), (8, .int (q_I y)), (9, .int (q_I v110)), (10, .int (q_I bg)), (11, .int (q_I k)), (12, .int (q_I v119))] (Nat.le_of_ble_eq_true rfl) rfl ?_
                                            refine q_goto F 156 dX9_round_222 (by decide) ?_
                                            refine q_drop [2, 3, 4, 5, 6, 7, 8, 9, 10, 11, 12, 13, 14, 0] rfl ?_
                                            exact ih156_4 _ (by omega) v219 M3 ⟨by omega, m2, m3, q_pc_mo m4 (by omega), by
                                                  rw [e219, show (b2 + 1).toNat = b2.toNat + 1 by omega, q_b3_s, Int.toNat_of_nonneg m1.1, ← hpo]
                                                  exact q_sR_bia0 m5 (fun h => by have := h.1; omega)⟩ rfl
                                          · refine q_aload_n F dX9_round_201 1 rfl ?_
                                            refine q_iload F dX9_round_202 14 rfl ?_
                                            refine q_callVP (n := 1) (T := TX9) F (c_X9_inHouse G hI M3 hm b2 m3 (by omega)) rfl rfl hm.1 gX9_round_X9_inHouse rfl ⟨by decide, by decide, by decide +kernel⟩ rfl ⟨rfl, rfl, Nat.le_of_ble_eq_true rfl, Nat.le_of_ble_eq_true rfl⟩ rfl (Nat.le_of_ble_eq_true rfl) dX9_round_204 (fun h204 => ?_)
                                            refine q_if_eq F 219 dX9_round_207 (by decide) (by omega) (fun c207 => ?_) (fun c207 => ?_)
                                            · obtain ⟨v219, e219⟩ : ∃ z_ : Int, z_ = b2 + 1 := ⟨_, rfl⟩
                                              refine q_iinc F dX9_round_219 14 rfl e219 [(13, .int (q_I v219)), (14, .int (q_I v194)), (0, .ref (q_ad G 0)), (1, .int (q_I g)), (2, .int (q_I m)), (3, .int (q_I d)), (4, .int (q_I w)), (5, .int (q_I c)), (6, .int (q_I b)), (7, .int (q_I fi)), (8, .int (q_I y)), (9, .int (q_I v110)), (10, .int (q_I bg)), (11, .int (q_I k)), (12, .int (q_I v119))] (Nat.le_of_ble_eq_true rfl) rfl ?_
                                              refine q_goto F 156 dX9_round_222 (by decide) ?_
                                              refine q_drop [2, 3, 4, 5, 6, 7, 8, 9, 10, 11, 12, 13, 14, 0] rfl ?_
                                              exact ih156_4 _ (by omega) v219 M3 ⟨by omega, m2, m3, q_pc_mo m4 (by omega), by
                                                    rw [e219, show (b2 + 1).toNat = b2.toNat + 1 by omega, q_b3_s, Int.toNat_of_nonneg m1.1, ← hpo]
                                                    exact q_sR_bia0 m5 (fun h => h.2 (by show q_set (q_ins (M3 9) (M 0 0) b2) = 0; rw [← t3]; exact c207))⟩ rfl
                                            · refine q_aload_n F dX9_round_210 1 rfl ?_
                                              refine q_iload F dX9_round_211 14 rfl ?_
                                              refine q_iload F dX9_round_213 0 rfl ?_
                                              refine q_callVI (n := 2) (T := TX9) F (c_X9_dish G hI M3 hm b2 v194 (3 * k + b2) m3 m4 (by omega) (by omega)) rfl rfl hm.1 gX9_round_X9_dish rfl ⟨by decide, by decide, by decide +kernel⟩ rfl ⟨rfl, rfl, Nat.le_of_ble_eq_true rfl, Nat.le_of_ble_eq_true rfl⟩ rfl (Nat.le_of_ble_eq_true rfl) dX9_round_215 (fun r215 N215 h215 p215 => ?_)
                                              obtain ⟨-, ⟨l, hl1, -⟩, hf1, hf2⟩ := p215
                                              have kz215 : q_kz M3 N215 := q_kz_dish hf1 hf2
                                              refine q_pop F dX9_round_218 rfl ?_
                                              obtain ⟨v219, e219⟩ : ∃ z_ : Int, z_ = b2 + 1 := ⟨_, rfl⟩
                                              refine q_iinc F dX9_round_219 14 rfl e219 [(13, .int (q_I v219)), (14, .int (q_I v194)), (0, .ref (q_ad G 0)), (1, .int (q_I g)), (2, .int (q_I m)), (3, .int (q_I d)), (4, .int (q_I w)), (5, .int (q_I c)), (6, .int (q_I b)), (7, .int (q_I fi)), (8, .int (q_I y)), (9, .int (q_I v110)), (10, .int (q_I bg)), (11, .int (q_I k)), (12, .int (q_I v119))] (Nat.le_of_ble_eq_true rfl) rfl ?_
                                              refine q_goto F 156 dX9_round_222 (by decide) ?_
                                              refine q_drop [2, 3, 4, 5, 6, 7, 8, 9, 10, 11, 12, 13, 14, 0] rfl ?_
                                              exact ih156_4 _ (by omega) v219 N215 ⟨by omega, q_kz_tr m2 kz215, q_zv_dish m3 kz215 hl1, by
                                                    have := q_pc_dish m4 hl1
                                                    rw [e219]
                                                    exact q_pc_mo this (by omega), by
                                                    rw [e219, show (b2 + 1).toNat = b2.toNat + 1 by omega, q_b3_s, Int.toNat_of_nonneg m1.1, ← hpo, hl1, t3, ke3]
                                                    exact q_sR_bia1 m5 (by omega) (by show ¬ q_set (q_ins (M3 9) (M 0 0) b2) = 0; rw [← t3]; exact c207)⟩ rfl
                                        · refine q_iload_n F dX9_round_180 3 rfl ?_
                                          refine q_bipush F dX9_round_181 (by decide) ?_
                                          refine q_idiv F dX9_round_183 (by omega) ?_
                                          refine q_bipush F dX9_round_184 (by decide) ?_
                                          refine q_irem F dX9_round_186 (by omega) ?_
                                          refine q_goto F 194 dX9_round_187 (by decide) ?_
                                          refine q_nm (fun v194 e194 => ?_)
                                          refine q_istore F dX9_round_194 [(14, .int (q_I v194)), (0, .ref (q_ad G 0)), (1, .int (q_I g)), (2, .int (q_I m)), (3, .int (q_I d)), (4, .int (q_I w)), (5, .int (q_I c)), (6, .int (q_I b)), (7, .int (q_I fi)), (8, .int (q_I y)), (9, .int (q_I v110)), (10, .int (q_I bg)), (11, .int (q_I k)), (12, .int (q_I v119)), (13, .int (q_I b2))] (Nat.le_of_ble_eq_true rfl) rfl ?_
                                          have hpo : v194 = q_dpo d b2 := by
                                            unfold q_dpo
                                            rw [if_neg c164, if_pos c177]; exact e194
                                          have hpR : 0 ≤ v194 ∧ v194 ≤ 9 := by omega
                                          refine q_iload F dX9_round_196 0 rfl ?_
                                          refine q_if_le F 219 dX9_round_198 (by decide) (by omega) (fun c198 => ?_) (fun c198 => ?_)
                                          · obtain ⟨v219, e219⟩ : ∃ z_ : Int, z_ = b2 + 1 := ⟨_, rfl⟩
                                            refine q_iinc F dX9_round_219 14 rfl e219 [(13, .int (q_I v219)), (14, .int (q_I v194)), (0, .ref (q_ad G 0)), (1, .int (q_I g)), (2, .int (q_I m)), (3, .int (q_I d)), (4, .int (q_I w)), (5, .int (q_I c)), (6, .int (q_I b)), (7, .int (q_I fi)), (8, .int (q_I y)), (9, .int (q_I v110)), (10, .int (q_I bg)), (11, .int (q_I k)), (12, .int (q_I v119))] (Nat.le_of_ble_eq_true rfl) rfl ?_
                                            refine q_goto F 156 dX9_round_222 (by decide) ?_
                                            refine q_drop [2, 3, 4, 5, 6, 7, 8, 9, 10, 11, 12, 13, 14, 0] rfl ?_
                                            exact ih156_4 _ (by omega) v219 M3 ⟨by omega, m2, m3, q_pc_mo m4 (by omega), by
                                                  rw [e219, show (b2 + 1).toNat = b2.toNat + 1 by omega, q_b3_s, Int.toNat_of_nonneg m1.1, ← hpo]
                                                  exact q_sR_bia0 m5 (fun h => by have := h.1; omega)⟩ rfl
                                          · refine q_aload_n F dX9_round_201 1 rfl ?_
                                            refine q_iload F dX9_round_202 14 rfl ?_
                                            refine q_callVP (n := 1) (T := TX9) F (c_X9_inHouse G hI M3 hm b2 m3 (by omega)) rfl rfl hm.1 gX9_round_X9_inHouse rfl ⟨by decide, by decide, by decide +kernel⟩ rfl ⟨rfl, rfl, Nat.le_of_ble_eq_true rfl, Nat.le_of_ble_eq_true rfl⟩ rfl (Nat.le_of_ble_eq_true rfl) dX9_round_204 (fun h204 => ?_)
                                            refine q_if_eq F 219 dX9_round_207 (by decide) (by omega) (fun c207 => ?_) (fun c207 => ?_)
                                            · obtain ⟨v219, e219⟩ : ∃ z_ : Int, z_ = b2 + 1 := ⟨_, rfl⟩
                                              refine q_iinc F dX9_round_219 14 rfl e219 [(13, .int (q_I v219)), (14, .int (q_I v194)), (0, .ref (q_ad G 0)), (1, .int (q_I g)), (2, .int (q_I m)), (3, .int (q_I d)), (4, .int (q_I w)), (5, .int (q_I c)), (6, .int (q_I b)), (7, .int (q_I fi)), (8, .int (q_I y)), (9, .int (q_I v110)), (10, .int (q_I bg)), (11, .int (q_I k)), (12, .int (q_I v119))] (Nat.le_of_ble_eq_true rfl) rfl ?_
                                              refine q_goto F 156 dX9_round_222 (by decide) ?_
                                              refine q_drop [2, 3, 4, 5, 6, 7, 8, 9, 10, 11, 12, 13, 14, 0] rfl ?_
                                              exact ih156_4 _ (by omega) v219 M3 ⟨by omega, m2, m3, q_pc_mo m4 (by omega), by
                                                    rw [e219, show (b2 + 1).toNat = b2.toNat + 1 by omega, q_b3_s, Int.toNat_of_nonneg m1.1, ← hpo]
                                                    exact q_sR_bia0 m5 (fun h => h.2 (by show q_set (q_ins (M3 9) (M 0 0) b2) = 0; rw [← t3]; exact c207))⟩ rfl
                                            · refine q_aload_n F dX9_round_210 1 rfl ?_
                                              refine q_iload F dX9_round_211 14 rfl ?_
                                              refine q_iload F dX9_round_213 0 rfl ?_
                                              refine q_callVI (n := 2) (T := TX9) F (c_X9_dish G hI M3 hm b2 v194 (3 * k + b2) m3 m4 (by omega) (by omega)) rfl rfl hm.1 gX9_round_X9_dish rfl ⟨by decide, by decide, by decide +kernel⟩ rfl ⟨rfl, rfl, Nat.le_of_ble_eq_true rfl, Nat.le_of_ble_eq_true rfl⟩ rfl (Nat.le_of_ble_eq_true rfl) dX9_round_215 (fun r215 N215 h215 p215 => ?_)
                                              obtain ⟨-, ⟨l, hl1, -⟩, hf1, hf2⟩ := p215
                                              have kz215 : q_kz M3 N215 := q_kz_dish hf1 hf2
                                              refine q_pop F dX9_round_218 rfl ?_
                                              obtain ⟨v219, e219⟩ : ∃ z_ : Int, z_ = b2 + 1 := ⟨_, rfl⟩
                                              refine q_iinc F dX9_round_219 14 rfl e219 [(13, .int (q_I v219)), (14, .int (q_I v194)), (0, .ref (q_ad G 0)), (1, .int (q_I g)), (2, .int (q_I m)), (3, .int (q_I d)), (4, .int (q_I w)), (5, .int (q_I c)), (6, .int (q_I b)), (7, .int (q_I fi)), (8, .int (q_I y)), (9, .int (q_I v110)), (10, .int (q_I bg)), (11, .int (q_I k)), (12, .int (q_I v119))] (Nat.le_of_ble_eq_true rfl) rfl ?_
                                              refine q_goto F 156 dX9_round_222 (by decide) ?_
                                              refine q_drop [2, 3, 4, 5, 6, 7, 8, 9, 10, 11, 12, 13, 14, 0] rfl ?_
                                              exact ih156_4 _ (by omega) v219 N215 ⟨by omega, q_kz_tr m2 kz215, q_zv_dish m3 kz215 hl1, by
                                                    have := q_pc_dish m4 hl1
                                                    rw [e219]
                                                    exact q_pc_mo this (by omega), by
                                                    rw [e219, show (b2 + 1).toNat = b2.toNat + 1 by omega, q_b3_s, Int.toNat_of_nonneg m1.1, ← hpo, hl1, t3, ke3]
                                                    exact q_sR_bia1 m5 (by omega) (by show ¬ q_set (q_ins (M3 9) (M 0 0) b2) = 0; rw [← t3]; exact c207)⟩ rfl
                                      · refine q_iload_n F dX9_round_167 3 rfl ?_
                                        refine q_bipush F dX9_round_168 (by decide) ?_
                                        refine q_idiv F dX9_round_170 (by omega) ?_
                                        refine q_goto F 194 dX9_round_171 (by decide) ?_
                                        refine q_nm (fun v194 e194 => ?_)
                                        refine q_istore F dX9_round_194 [(14, .int (q_I v194)), (0, .ref (q_ad G 0)), (1, .int (q_I g)), (2, .int (q_I m)), (3, .int (q_I d)), (4, .int (q_I w)), (5, .int (q_I c)), (6, .int (q_I b)), (7, .int (q_I fi)), (8, .int (q_I y)), (9, .int (q_I v110)), (10, .int (q_I bg)), (11, .int (q_I k)), (12, .int (q_I v119)), (13, .int (q_I b2))] (Nat.le_of_ble_eq_true rfl) rfl ?_
                                        have hpo : v194 = q_dpo d b2 := by
                                          unfold q_dpo
                                          rw [if_pos c164]; exact e194
                                        have hpR : 0 ≤ v194 ∧ v194 ≤ 9 := by omega
                                        refine q_iload F dX9_round_196 0 rfl ?_
                                        refine q_if_le F 219 dX9_round_198 (by decide) (by omega) (fun c198 => ?_) (fun c198 => ?_)
                                        · obtain ⟨v219, e219⟩ : ∃ z_ : Int, z_ = b2 + 1 := ⟨_, rfl⟩
                                          refine q_iinc F dX9_round_219 14 rfl e219 [(13, .int (q_I v219)), (14, .int (q_I v194)), (0, .ref (q_ad G 0)), (1, .int (q_I g)), (2, .int (q_I m)), (3, .int (q_I d)), (4, .int (q_I w)), (5, .int (q_I c)), (6, .int (q_I b)), (7, .int (q_I fi)), (8, .int (q_I y)), (9, .int (q_I v110)), (10, .int (q_I bg)), (11, .int (q_I k)), (12, .int (q_I v119))] (Nat.le_of_ble_eq_true rfl) rfl ?_
                                          refine q_goto F 156 dX9_round_222 (by decide) ?_
                                          refine q_drop [2, 3, 4, 5, 6, 7, 8, 9, 10, 11, 12, 13, 14, 0] rfl ?_
                                          exact ih156_4 _ (by omega) v219 M3 ⟨by omega, m2, m3, q_pc_mo m4 (by omega), by
                                                rw [e219, show (b2 + 1).toNat = b2.toNat + 1 by omega, q_b3_s, Int.toNat_of_nonneg m1.1, ← hpo]
                                                exact q_sR_bia0 m5 (fun h => by have := h.1; omega)⟩ rfl
                                        · refine q_aload_n F dX9_round_201 1 rfl ?_
                                          refine q_iload F dX9_round_202 14 rfl ?_
                                          refine q_callVP (n := 1) (T := TX9) F (c_X9_inHouse G hI M3 hm b2 m3 (by omega)) rfl rfl hm.1 gX9_round_X9_inHouse rfl ⟨by decide, by decide, by decide +kernel⟩ rfl ⟨rfl, rfl, Nat.le_of_ble_eq_true rfl, Nat.le_of_ble_eq_true rfl⟩ rfl (Nat.le_of_ble_eq_true rfl) dX9_round_204 (fun h204 => ?_)
                                          refine q_if_eq F 219 dX9_round_207 (by decide) (by omega) (fun c207 => ?_) (fun c207 => ?_)
                                          · obtain ⟨v219, e219⟩ : ∃ z_ : Int, z_ = b2 + 1 := ⟨_, rfl⟩
                                            refine q_iinc F dX9_round_219 14 rfl e219 [(13, .int (q_I v219)), (14, .int (q_I v194)), (0, .ref (q_ad G 0)), (1, .int (q_I g)), (2, .int (q_I m)), (3, .int (q_I d)), (4, .int (q_I w)), (5, .int (q_I c)), (6, .int (q_I b)), (7, .int (q_I fi)), (8, .int (q_I y)), (9, .int (q_I v110)), (10, .int (q_I bg)), (11, .int (q_I k)), (12, .int (q_I v119))] (Nat.le_of_ble_eq_true rfl) rfl ?_
                                            refine q_goto F 156 dX9_round_222 (by decide) ?_
                                            refine q_drop [2, 3, 4, 5, 6, 7, 8, 9, 10, 11, 12, 13, 14, 0] rfl ?_
                                            exact ih156_4 _ (by omega) v219 M3 ⟨by omega, m2, m3, q_pc_mo m4 (by omega), by
                                                  rw [e219, show (b2 + 1).toNat = b2.toNat + 1 by omega, q_b3_s, Int.toNat_of_nonneg m1.1, ← hpo]
                                                  exact q_sR_bia0 m5 (fun h => h.2 (by show q_set (q_ins (M3 9) (M 0 0) b2) = 0; rw [← t3]; exact c207))⟩ rfl
                                          · refine q_aload_n F dX9_round_210 1 rfl ?_
                                            refine q_iload F dX9_round_211 14 rfl ?_
                                            refine q_iload F dX9_round_213 0 rfl ?_
                                            refine q_callVI (n := 2) (T := TX9) F (c_X9_dish G hI M3 hm b2 v194 (3 * k + b2) m3 m4 (by omega) (by omega)) rfl rfl hm.1 gX9_round_X9_dish rfl ⟨by decide, by decide, by decide +kernel⟩ rfl ⟨rfl, rfl, Nat.le_of_ble_eq_true rfl, Nat.le_of_ble_eq_true rfl⟩ rfl (Nat.le_of_ble_eq_true rfl) dX9_round_215 (fun r215 N215 h215 p215 => ?_)
                                            obtain ⟨-, ⟨l, hl1, -⟩, hf1, hf2⟩ := p215
                                            have kz215 : q_kz M3 N215 := q_kz_dish hf1 hf2
                                            refine q_pop F dX9_round_218 rfl ?_
                                            obtain ⟨v219, e219⟩ : ∃ z_ : Int, z_ = b2 + 1 := ⟨_, rfl⟩
                                            refine q_iinc F dX9_round_219 14 rfl e219 [(13, .int (q_I v219)), (14, .int (q_I v194)), (0, .ref (q_ad G 0)), (1, .int (q_I g)), (2, .int (q_I m)), (3, .int (q_I d)), (4, .int (q_I w)), (5, .int (q_I c)), (6, .int (q_I b)), (7, .int (q_I fi)), (8, .int (q_I y)), (9, .int (q_I v110)), (10, .int (q_I bg)), (11, .int (q_I k)), (12, .int (q_I v119))] (Nat.le_of_ble_eq_true rfl) rfl ?_
                                            refine q_goto F 156 dX9_round_222 (by decide) ?_
                                            refine q_drop [2, 3, 4, 5, 6, 7, 8, 9, 10, 11, 12, 13, 14, 0] rfl ?_
                                            exact ih156_4 _ (by omega) v219 N215 ⟨by omega, q_kz_tr m2 kz215, q_zv_dish m3 kz215 hl1, by
                                                  have := q_pc_dish m4 hl1
                                                  rw [e219]
                                                  exact q_pc_mo this (by omega), by
                                                  rw [e219, show (b2 + 1).toNat = b2.toNat + 1 by omega, q_b3_s, Int.toNat_of_nonneg m1.1, ← hpo, hl1, t3, ke3]
                                                  exact q_sR_bia1 m5 (by omega) (by show ¬ q_set (q_ins (M3 9) (M 0 0) b2) = 0; rw [← t3]; exact c207)⟩ rfl
                                refine q_drop [4, 5, 6, 7, 8, 9, 10, 11, 12, 3, 1, 13, 2, 0] rfl ?_
                                exact lp156_4 _ 0 M2 ⟨by omega, hW0.1, hW0.2.1, q_pc_mo hW0.2.2.1 (by omega), hW0.2.2.2⟩ rfl
                              · refine q_aload_n F dX9_round_146 3 rfl ?_
                                refine q_iload_n F dX9_round_147 4 rfl ?_
                                refine q_iload F dX9_round_148 1 rfl ?_
                                refine q_callVV (n := 2) (T := TX9) F (c_X9_go G hI M2 hm g v119 ⟨hgi, hxh, by omega⟩) rfl rfl hm.1 gX9_round_X9_go rfl ⟨by decide, by decide, by decide +kernel⟩ rfl ⟨rfl, rfl, Nat.le_of_ble_eq_true rfl, Nat.le_of_ble_eq_true rfl⟩ rfl (Nat.le_of_ble_eq_true rfl) dX9_round_150 (fun N150 p150 => ?_)
                                have hW0 : q_kz M N150 ∧ q_zv N150 ∧ q_pc N150 (3 * k) ∧ q_sR (M 0 0) (q_v9 N150) (q_wg (M 0 0) (q_wk (q_hrT (M 0 0)) (M 0 0) (M 0 4) d g (fun x => y / q_pw 3 (m - 1 - x).toNat % 3) k.toNat (q_T0 (M 1) (M 2) (M 3))) g v119) := by
                                  rw [p150]
                                  refine ⟨q_kz_tr i4 (q_kz_tr (q_kz_up (by omega)) (q_kz_up (by omega))), q_zv_go i5 hgi (by omega), q_pc_go i6, ?_⟩
                                  rw [q_v9_go]
                                  unfold q_wg
                                  rw [if_pos]
                                  · exact q_sR_go i7 c5
                                  · rw [← q_sR_W i7]
                                    unfold q_goW
                                    rw [if_pos c5, if_neg (show ¬ qt_a (q_v9 M2) g = v119 from c143)]
                                refine q_iconst F dX9_round_153 ?_
                                refine q_istore F dX9_round_154 [(13, .int (q_I 0)), (10, .int (q_I bg)), (12, .int (q_I v119)), (9, .int (q_I v110)), (0, .ref (q_ad G 0)), (1, .int (q_I g)), (2, .int (q_I m)), (3, .int (q_I d)), (4, .int (q_I w)), (5, .int (q_I c)), (6, .int (q_I b)), (7, .int (q_I fi)), (8, .int (q_I y)), (11, .int (q_I k))] (Nat.le_of_ble_eq_true rfl) rfl ?_
                                have lp156_5 : ∀ (k156_5 : Nat) (b2 : Int) (M3 : q_M), ((0 ≤ b2 ∧ b2 ≤ 3) ∧ q_kz M M3 ∧ q_zv M3 ∧ q_pc M3 (3 * k + b2) ∧ q_sR (M 0 0) (q_v9 M3) (q_b3 (M 0 0) (M 0 4) d (q_wg (M 0 0) (q_wk (q_hrT (M 0 0)) (M 0 0) (M 0 4) d g (fun x => y / q_pw 3 (m - 1 - x).toNat % 3) k.toNat (q_T0 (M 1) (M 2) (M 3))) g v119) b2.toNat)) → (3 - b2).toNat = k156_5 → q_Y G E 15 M3 [(0, .ref (q_ad G 0)), (1, .int (q_I g)), (2, .int (q_I m)), (3, .int (q_I d)), (4, .int (q_I w)), (5, .int (q_I c)), (6, .int (q_I b)), (7, .int (q_I fi)), (8, .int (q_I y)), (9, .int (q_I v110)), (10, .int (q_I bg)), (11, .int (q_I k)), (12, .int (q_I v119)), (13, .int (q_I b2))] 156 [] := by
                                  intro k156_5
                                  induction k156_5 using Nat.strongRecOn with
                                  | _ k156_5 ih156_5 =>
                                    intro b2  M3 hi156 hk156
                                    refine q_MRof (fun hM156 => ?_)
                                    obtain ⟨m1, m2, m3, m4, m5⟩ := id hi156
                                    have t3 : M3 0 0 = M 0 0 := m2.2.1
                                    have ke3 : M3 0 4 = M 0 4 := m2.2.2.1
                                    refine q_iload F dX9_round_156 13 rfl ?_
                                    refine q_iconst F dX9_round_158 ?_
                                    refine q_icmp_ge F 225 dX9_round_159 (by decide) (by omega) (fun c159 => ?_) (fun c159 => ?_)
                                    · refine q_aload_n F dX9_round_225 0 rfl ?_
                                      refine q_callVV (n := 0) (T := TX9) F (c_X9_hour G hI M3 hm m3) rfl rfl hm.1 gX9_round_X9_hour rfl ⟨by decide, by decide, by decide +kernel⟩ rfl ⟨rfl, rfl, Nat.le_of_ble_eq_true rfl, Nat.le_of_ble_eq_true rfl⟩ rfl (Nat.le_of_ble_eq_true rfl) dX9_round_226 (fun N226 p226 => ?_)
                                      obtain ⟨v229, e229⟩ : ∃ z_ : Int, z_ = k + 1 := ⟨_, rfl⟩
                                      refine q_iinc F dX9_round_229 11 rfl e229 [(11, .int (q_I v229)), (0, .ref (q_ad G 0)), (1, .int (q_I g)), (2, .int (q_I m)), (3, .int (q_I d)), (4, .int (q_I w)), (5, .int (q_I c)), (6, .int (q_I b)), (7, .int (q_I fi)), (8, .int (q_I y)), (9, .int (q_I v110)), (10, .int (q_I bg)), (12, .int (q_I v119)), (13, .int (q_I b2))] (Nat.le_of_ble_eq_true rfl) rfl ?_
                                      refine q_goto F 100 dX9_round_232 (by decide) ?_
                                      refine q_drop [1, 2, 3, 4, 5, 6, 7, 8, 9, 10, 11, 0] rfl ?_
                                      exact ih100_3 _ (by omega) v110 bg v229 N226 ⟨by omega, by rw [h110, e229, show m - 1 - k = m - (k + 1) by omega], by
                                            rw [e229, if_neg (show ¬ k + 1 = 0 by omega)]
                                            rw [i3, if_neg c123], q_kz_tr m2 (q_kz_fr p226.1 (by omega)), q_zv_ho m3 p226.1 p226.2, q_pc_ho (by rw [e229]; exact q_pc_mo m4 (by omega)) p226.1, by
                                            rw [e229, show (k + 1).toNat = k.toNat + 1 by omega, q_wk_s, q_v9_ho (th := M 0 0) p226.1 (by rw [p226.2, m2.2.1])]
                                            refine q_sR_ho ?_
                                            rw [show b2.toNat = 3 by omega] at m5
                                            rw [Int.toNat_of_nonneg i1.1, ← h119]
                                            exact m5⟩ rfl
                                    · refine q_iload F dX9_round_162 13 rfl ?_
                                      refine q_if_ne F 174 dX9_round_164 (by decide) (by omega) (fun c164 => ?_) (fun c164 => ?_)
                                      · refine q_iload F dX9_round_174 13 rfl ?_
                                        refine q_iconst F dX9_round_176 ?_
                                        refine q_icmp_ne F 190 dX9_round_177 (by decide) (by omega) (fun c177 => ?_) (fun c177 => ?_)
                                        · refine q_iload_n F dX9_round_190 3 rfl ?_
                                          refine q_bipush F dX9_round_191 (by decide) ?_
                                          refine q_irem F dX9_round_193 (by omega) ?_
                                          refine q_nm (fun v194 e194 => ?_)
                                          refine q_istore F dX9_round_194 [(14, .int (q_I v194)), (0, .ref (q_ad G 0)), (1, .int (q_I g)), (2, .int (q_I m)), (3, .int (q_I d)), (4, .int (q_I w)), (5, .int (q_I c)), (6, .int (q_I b)), (7, .int (q_I fi)), (8, .int (q_I y)), (9, .int (q_I v110)), (10, .int (q_I bg)), (11, .int (q_I k)), (12, .int (q_I v119)), (13, .int (q_I b2))] (Nat.le_of_ble_eq_true rfl) rfl ?_
                                          have hpo : v194 = q_dpo d b2 := by
                                            unfold q_dpo
                                            rw [if_neg c164, if_neg c177]; exact e194
                                          have hpR : 0 ≤ v194 ∧ v194 ≤ 9 := by omega
                                          refine q_iload F dX9_round_196 0 rfl ?_
                                          refine q_if_le F 219 dX9_round_198 (by decide) (by omega) (fun c198 => ?_) (fun c198 => ?_)
                                          · obtain ⟨v219, e219⟩ : ∃ z_ : Int, z_ = b2 + 1 := ⟨_, rfl⟩
                                            refine q_iinc F dX9_round_219 14 rfl e219 [(13, .int (q_I v219)), (14, .int (q_I v194)), (0, .ref (q_ad G 0)), (1, .int (q_I g)), (2, .int (q_I m)), (3, .int (q_I d)), (4, .int (q_I w)), (5, .int (q_I c)), (6, .int (q_I b)), (7, .int (q_I fi)), (8, .int (q_I y)), (9, .int (q_I v110)), (10, .int (q_I bg)), (11, .int (q_I k)), (12, .int (q_I v119))] (Nat.le_of_ble_eq_true rfl) rfl ?_
                                            refine q_goto F 156 dX9_round_222 (by decide) ?_
                                            refine q_drop [2, 3, 4, 5, 6, 7, 8, 9, 10, 11, 12, 13, 14, 0] rfl ?_
                                            exact ih156_5 _ (by omega) v219 M3 ⟨by omega, m2, m3, q_pc_mo m4 (by omega), by
                                                  rw [e219, show (b2 + 1).toNat = b2.toNat + 1 by omega, q_b3_s, Int.toNat_of_nonneg m1.1, ← hpo]
                                                  exact q_sR_bia0 m5 (fun h => by have := h.1; omega)⟩ rfl
                                          · refine q_aload_n F dX9_round_201 1 rfl ?_
                                            refine q_iload F dX9_round_202 14 rfl ?_
                                            refine q_callVP (n := 1) (T := TX9) F (c_X9_inHouse G hI M3 hm b2 m3 (by omega)) rfl rfl hm.1 gX9_round_X9_inHouse rfl ⟨by decide, by decide, by decide +kernel⟩ rfl ⟨rfl, rfl, Nat.le_of_ble_eq_true rfl, Nat.le_of_ble_eq_true rfl⟩ rfl (Nat.le_of_ble_eq_true rfl) dX9_round_204 (fun h204 => ?_)
                                            refine q_if_eq F 219 dX9_round_207 (by decide) (by omega) (fun c207 => ?_) (fun c207 => ?_)
                                            · obtain ⟨v219, e219⟩ : ∃ z_ : Int, z_ = b2 + 1 := ⟨_, rfl⟩
                                              refine q_iinc F dX9_round_219 14 rfl e219 [(13, .int (q_I v219)), (14, .int (q_I v194)), (0, .ref (q_ad G 0)), (1, .int (q_I g)), (2, .int (q_I m)), (3, .int (q_I d)), (4, .int (q_I w)), (5, .int (q_I c)), (6, .int (q_I b)), (7, .int (q_I fi)), (8, .int (q_I y)), (9, .int (q_I v110)), (10, .int (q_I bg)), (11, .int (q_I k)), (12, .int (q_I v119))] (Nat.le_of_ble_eq_true rfl) rfl ?_
                                              refine q_goto F 156 dX9_round_222 (by decide) ?_
                                              refine q_drop [2, 3, 4, 5, 6, 7, 8, 9, 10, 11, 12, 13, 14, 0] rfl ?_
                                              exact ih156_5 _ (by omega) v219 M3 ⟨by omega, m2, m3, q_pc_mo m4 (by omega), by
                                                    rw [e219, show (b2 + 1).toNat = b2.toNat + 1 by omega, q_b3_s, Int.toNat_of_nonneg m1.1, ← hpo]
                                                    exact q_sR_bia0 m5 (fun h => h.2 (by show q_set (q_ins (M3 9) (M 0 0) b2) = 0; rw [← t3]; exact c207))⟩ rfl
                                            · refine q_aload_n F dX9_round_210 1 rfl ?_
                                              refine q_iload F dX9_round_211 14 rfl ?_
                                              refine q_iload F dX9_round_213 0 rfl ?_
                                              refine q_callVI (n := 2) (T := TX9) F (c_X9_dish G hI M3 hm b2 v194 (3 * k + b2) m3 m4 (by omega) (by omega)) rfl rfl hm.1 gX9_round_X9_dish rfl ⟨by decide, by decide, by decide +kernel⟩ rfl ⟨rfl, rfl, Nat.le_of_ble_eq_true rfl, Nat.le_of_ble_eq_true rfl⟩ rfl (Nat.le_of_ble_eq_true rfl) dX9_round_215 (fun r215 N215 h215 p215 => ?_)
                                              obtain ⟨-, ⟨l, hl1, -⟩, hf1, hf2⟩ := p215
                                              have kz215 : q_kz M3 N215 := q_kz_dish hf1 hf2
                                              refine q_pop F dX9_round_218 rfl ?_
                                              obtain ⟨v219, e219⟩ : ∃ z_ : Int, z_ = b2 + 1 := ⟨_, rfl⟩
                                              refine q_iinc F dX9_round_219 14 rfl e219 [(13, .int (q_I v219)), (14, .int (q_I v194)), (0, .ref (q_ad G 0)), (1, .int (q_I g)), (2, .int (q_I m)), (3, .int (q_I d)), (4, .int (q_I w)), (5, .int (q_I c)), (6, .int (q_I b)), (7, .int (q_I fi)), (8, .int (q_I y)), (9, .int (q_I v110)), (10, .int (q_I bg)), (11, .int (q_I k)), (12, .int (q_I v119))] (Nat.le_of_ble_eq_true rfl) rfl ?_
                                              refine q_goto F 156 dX9_round_222 (by decide) ?_
                                              refine q_drop [2, 3, 4, 5, 6, 7, 8, 9, 10, 11, 12, 13, 14, 0] rfl ?_
                                              exact ih156_5 _ (by omega) v219 N215 ⟨by omega, q_kz_tr m2 kz215, q_zv_dish m3 kz215 hl1, by
                                                    have := q_pc_dish m4 hl1
                                                    rw [e219]
                                                    exact q_pc_mo this (by omega), by
                                                    rw [e219, show (b2 + 1).toNat = b2.toNat + 1 by omega, q_b3_s, Int.toNat_of_nonneg m1.1, ← hpo, hl1, t3, ke3]
                                                    exact q_sR_bia1 m5 (by omega) (by show ¬ q_set (q_ins (M3 9) (M 0 0) b2) = 0; rw [← t3]; exact c207)⟩ rfl
                                        · refine q_iload_n F dX9_round_180 3 rfl ?_
                                          refine q_bipush F dX9_round_181 (by decide) ?_
                                          refine q_idiv F dX9_round_183 (by omega) ?_
                                          refine q_bipush F dX9_round_184 (by decide) ?_
                                          refine q_irem F dX9_round_186 (by omega) ?_
                                          refine q_goto F 194 dX9_round_187 (by decide) ?_
                                          refine q_nm (fun v194 e194 => ?_)
                                          refine q_istore F dX9_round_194 [(14, .int (q_I v194)), (0, .ref (q_ad G 0)), (1, .int (q_I g)), (2, .int (q_I m)), (3, .int (q_I d)), (4, .int (q_I w)), (5, .int (q_I c)), (6, .int (q_I b)), (7, .int (q_I fi)), (8, .int (q_I y)), (9, .int (q_I v110)), (10, .int (q_I bg)), (11, .int (q_I k)), (12, .int (q_I v119)), (13, .int (q_I b2))] (Nat.le_of_ble_eq_true rfl) rfl ?_
                                          have hpo : v194 = q_dpo d b2 := by
                                            unfold q_dpo
                                            rw [if_neg c164, if_pos c177]; exact e194
                                          have hpR : 0 ≤ v194 ∧ v194 ≤ 9 := by omega
                                          refine q_iload F dX9_round_196 0 rfl ?_
                                          refine q_if_le F 219 dX9_round_198 (by decide) (by omega) (fun c198 => ?_) (fun c198 => ?_)
                                          · obtain ⟨v219, e219⟩ : ∃ z_ : Int, z_ = b2 + 1 := ⟨_, rfl⟩
                                            refine q_iinc F dX9_round_219 14 rfl e219 [(13, .int (q_I v219)), (14, .int (q_I v194)), (0, .ref (q_ad G 0)), (1, .int (q_I g)), (2, .int (q_I m)), (3, .int (q_I d)), (4, .int (q_I w)), (5, .int (q_I c)), (6, .int (q_I b)), (7, .int (q_I fi)), (8, .int (q_I y)), (9, .int (q_I v110)), (10, .int (q_I bg)), (11, .int (q_I k)), (12, .int (q_I v119))] (Nat.le_of_ble_eq_true rfl) rfl ?_
                                            refine q_goto F 156 dX9_round_222 (by decide) ?_
                                            refine q_drop [2, 3, 4, 5, 6, 7, 8, 9, 10, 11, 12, 13, 14, 0] rfl ?_
                                            exact ih156_5 _ (by omega) v219 M3 ⟨by omega, m2, m3, q_pc_mo m4 (by omega), by
                                                  rw [e219, show (b2 + 1).toNat = b2.toNat + 1 by omega, q_b3_s, Int.toNat_of_nonneg m1.1, ← hpo]
                                                  exact q_sR_bia0 m5 (fun h => by have := h.1; omega)⟩ rfl
                                          · refine q_aload_n F dX9_round_201 1 rfl ?_
                                            refine q_iload F dX9_round_202 14 rfl ?_
                                            refine q_callVP (n := 1) (T := TX9) F (c_X9_inHouse G hI M3 hm b2 m3 (by omega)) rfl rfl hm.1 gX9_round_X9_inHouse rfl ⟨by decide, by decide, by decide +kernel⟩ rfl ⟨rfl, rfl, Nat.le_of_ble_eq_true rfl, Nat.le_of_ble_eq_true rfl⟩ rfl (Nat.le_of_ble_eq_true rfl) dX9_round_204 (fun h204 => ?_)
                                            refine q_if_eq F 219 dX9_round_207 (by decide) (by omega) (fun c207 => ?_) (fun c207 => ?_)
                                            · obtain ⟨v219, e219⟩ : ∃ z_ : Int, z_ = b2 + 1 := ⟨_, rfl⟩
                                              refine q_iinc F dX9_round_219 14 rfl e219 [(13, .int (q_I v219)), (14, .int (q_I v194)), (0, .ref (q_ad G 0)), (1, .int (q_I g)), (2, .int (q_I m)), (3, .int (q_I d)), (4, .int (q_I w)), (5, .int (q_I c)), (6, .int (q_I b)), (7, .int (q_I fi)), (8, .int (q_I y)), (9, .int (q_I v110)), (10, .int (q_I bg)), (11, .int (q_I k)), (12, .int (q_I v119))] (Nat.le_of_ble_eq_true rfl) rfl ?_
                                              refine q_goto F 156 dX9_round_222 (by decide) ?_
                                              refine q_drop [2, 3, 4, 5, 6, 7, 8, 9, 10, 11, 12, 13, 14, 0] rfl ?_
                                              exact ih156_5 _ (by omega) v219 M3 ⟨by omega, m2, m3, q_pc_mo m4 (by omega), by
                                                    rw [e219, show (b2 + 1).toNat = b2.toNat + 1 by omega, q_b3_s, Int.toNat_of_nonneg m1.1, ← hpo]
                                                    exact q_sR_bia0 m5 (fun h => h.2 (by show q_set (q_ins (M3 9) (M 0 0) b2) = 0; rw [← t3]; exact c207))⟩ rfl
                                            · refine q_aload_n F dX9_round_210 1 rfl ?_
                                              refine q_iload F dX9_round_211 14 rfl ?_
                                              refine q_iload F dX9_round_213 0 rfl ?_
                                              refine q_callVI (n := 2) (T := TX9) F (c_X9_dish G hI M3 hm b2 v194 (3 * k + b2) m3 m4 (by omega) (by omega)) rfl rfl hm.1 gX9_round_X9_dish rfl ⟨by decide, by decide, by decide +kernel⟩ rfl ⟨rfl, rfl, Nat.le_of_ble_eq_true rfl, Nat.le_of_ble_eq_true rfl⟩ rfl (Nat.le_of_ble_eq_true rfl) dX9_round_215 (fun r215 N215 h215 p215 => ?_)
                                              obtain ⟨-, ⟨l, hl1, -⟩, hf1, hf2⟩ := p215
                                              have kz215 : q_kz M3 N215 := q_kz_dish hf1 hf2
                                              refine q_pop F dX9_round_218 rfl ?_
                                              obtain ⟨v219, e219⟩ : ∃ z_ : Int, z_ = b2 + 1 := ⟨_, rfl⟩
                                              refine q_iinc F dX9_round_219 14 rfl e219 [(13, .int (q_I v219)), (14, .int (q_I v194)), (0, .ref (q_ad G 0)), (1, .int (q_I g)), (2, .int (q_I m)), (3, .int (q_I d)), (4, .int (q_I w)), (5, .int (q_I c)), (6, .int (q_I b)), (7, .int (q_I fi)), (8, .int (q_I y)), (9, .int (q_I v110)), (10, .int (q_I bg)), (11, .int (q_I k)), (12, .int (q_I v119))] (Nat.le_of_ble_eq_true rfl) rfl ?_
                                              refine q_goto F 156 dX9_round_222 (by decide) ?_
                                              refine q_drop [2, 3, 4, 5, 6, 7, 8, 9, 10, 11, 12, 13, 14, 0] rfl ?_
                                              exact ih156_5 _ (by omega) v219 N215 ⟨by omega, q_kz_tr m2 kz215, q_zv_dish m3 kz215 hl1, by
                                                    have := q_pc_dish m4 hl1
                                                    rw [e219]
                                                    exact q_pc_mo this (by omega), by
                                                    rw [e219, show (b2 + 1).toNat = b2.toNat + 1 by omega, q_b3_s, Int.toNat_of_nonneg m1.1, ← hpo, hl1, t3, ke3]
                                                    exact q_sR_bia1 m5 (by omega) (by show ¬ q_set (q_ins (M3 9) (M 0 0) b2) = 0; rw [← t3]; exact c207)⟩ rfl
                                      · refine q_iload_n F dX9_round_167 3 rfl ?_
                                        refine q_bipush F dX9_round_168 (by decide) ?_
                                        refine q_idiv F dX9_round_170 (by omega) ?_
                                        refine q_goto F 194 dX9_round_171 (by decide) ?_
                                        refine q_nm (fun v194 e194 => ?_)
                                        refine q_istore F dX9_round_194 [(14, .int (q_I v194)), (0, .ref (q_ad G 0)), (1, .int (q_I g)), (2, .int (q_I m)), (3, .int (q_I d)), (4, .int (q_I w)), (5, .int (q_I c)), (6, .int (q_I b)), (7, .int (q_I fi)), (8, .int (q_I y)), (9, .int (q_I v110)), (10, .int (q_I bg)), (11, .int (q_I k)), (12, .int (q_I v119)), (13, .int (q_I b2))] (Nat.le_of_ble_eq_true rfl) rfl ?_
                                        have hpo : v194 = q_dpo d b2 := by
                                          unfold q_dpo
                                          rw [if_pos c164]; exact e194
                                        have hpR : 0 ≤ v194 ∧ v194 ≤ 9 := by omega
                                        refine q_iload F dX9_round_196 0 rfl ?_
                                        refine q_if_le F 219 dX9_round_198 (by decide) (by omega) (fun c198 => ?_) (fun c198 => ?_)
                                        · obtain ⟨v219, e219⟩ : ∃ z_ : Int, z_ = b2 + 1 := ⟨_, rfl⟩
                                          refine q_iinc F dX9_round_219 14 rfl e219 [(13, .int (q_I v219)), (14, .int (q_I v194)), (0, .ref (q_ad G 0)), (1, .int (q_I g)), (2, .int (q_I m)), (3, .int (q_I d)), (4, .int (q_I w)), (5, .int (q_I c)), (6, .int (q_I b)), (7, .int (q_I fi)), (8, .int (q_I y)), (9, .int (q_I v110)), (10, .int (q_I bg)), (11, .int (q_I k)), (12, .int (q_I v119))] (Nat.le_of_ble_eq_true rfl) rfl ?_
                                          refine q_goto F 156 dX9_round_222 (by decide) ?_
                                          refine q_drop [2, 3, 4, 5, 6, 7, 8, 9, 10, 11, 12, 13, 14, 0] rfl ?_
                                          exact ih156_5 _ (by omega) v219 M3 ⟨by omega, m2, m3, q_pc_mo m4 (by omega), by
                                                rw [e219, show (b2 + 1).toNat = b2.toNat + 1 by omega, q_b3_s, Int.toNat_of_nonneg m1.1, ← hpo]
                                                exact q_sR_bia0 m5 (fun h => by have := h.1; omega)⟩ rfl
                                        · refine q_aload_n F dX9_round_201 1 rfl ?_
                                          refine q_iload F dX9_round_202 14 rfl ?_
                                          refine q_callVP (n := 1) (T := TX9) F (c_X9_inHouse G hI M3 hm b2 m3 (by omega)) rfl rfl hm.1 gX9_round_X9_inHouse rfl ⟨by decide, by decide, by decide +kernel⟩ rfl ⟨rfl, rfl, Nat.le_of_ble_eq_true rfl, Nat.le_of_ble_eq_true rfl⟩ rfl (Nat.le_of_ble_eq_true rfl) dX9_round_204 (fun h204 => ?_)
                                          refine q_if_eq F 219 dX9_round_207 (by decide) (by omega) (fun c207 => ?_) (fun c207 => ?_)
                                          · obtain ⟨v219, e219⟩ : ∃ z_ : Int, z_ = b2 + 1 := ⟨_, rfl⟩
                                            refine q_iinc F dX9_round_219 14 rfl e219 [(13, .int (q_I v219)), (14, .int (q_I v194)), (0, .ref (q_ad G 0)), (1, .int (q_I g)), (2, .int (q_I m)), (3, .int (q_I d)), (4, .int (q_I w)), (5, .int (q_I c)), (6, .int (q_I b)), (7, .int (q_I fi)), (8, .int (q_I y)), (9, .int (q_I v110)), (10, .int (q_I bg)), (11, .int (q_I k)), (12, .int (q_I v119))] (Nat.le_of_ble_eq_true rfl) rfl ?_
                                            refine q_goto F 156 dX9_round_222 (by decide) ?_
                                            refine q_drop [2, 3, 4, 5, 6, 7, 8, 9, 10, 11, 12, 13, 14, 0] rfl ?_
                                            exact ih156_5 _ (by omega) v219 M3 ⟨by omega, m2, m3, q_pc_mo m4 (by omega), by
                                                  rw [e219, show (b2 + 1).toNat = b2.toNat + 1 by omega, q_b3_s, Int.toNat_of_nonneg m1.1, ← hpo]
                                                  exact q_sR_bia0 m5 (fun h => h.2 (by show q_set (q_ins (M3 9) (M 0 0) b2) = 0; rw [← t3]; exact c207))⟩ rfl
                                          · refine q_aload_n F dX9_round_210 1 rfl ?_
                                            refine q_iload F dX9_round_211 14 rfl ?_
                                            refine q_iload F dX9_round_213 0 rfl ?_
                                            refine q_callVI (n := 2) (T := TX9) F (c_X9_dish G hI M3 hm b2 v194 (3 * k + b2) m3 m4 (by omega) (by omega)) rfl rfl hm.1 gX9_round_X9_dish rfl ⟨by decide, by decide, by decide +kernel⟩ rfl ⟨rfl, rfl, Nat.le_of_ble_eq_true rfl, Nat.le_of_ble_eq_true rfl⟩ rfl (Nat.le_of_ble_eq_true rfl) dX9_round_215 (fun r215 N215 h215 p215 => ?_)
                                            obtain ⟨-, ⟨l, hl1, -⟩, hf1, hf2⟩ := p215
                                            have kz215 : q_kz M3 N215 := q_kz_dish hf1 hf2
                                            refine q_pop F dX9_round_218 rfl ?_
                                            obtain ⟨v219, e219⟩ : ∃ z_ : Int, z_ = b2 + 1 := ⟨_, rfl⟩
                                            refine q_iinc F dX9_round_219 14 rfl e219 [(13, .int (q_I v219)), (14, .int (q_I v194)), (0, .ref (q_ad G 0)), (1, .int (q_I g)), (2, .int (q_I m)), (3, .int (q_I d)), (4, .int (q_I w)), (5, .int (q_I c)), (6, .int (q_I b)), (7, .int (q_I fi)), (8, .int (q_I y)), (9, .int (q_I v110)), (10, .int (q_I bg)), (11, .int (q_I k)), (12, .int (q_I v119))] (Nat.le_of_ble_eq_true rfl) rfl ?_
                                            refine q_goto F 156 dX9_round_222 (by decide) ?_
                                            refine q_drop [2, 3, 4, 5, 6, 7, 8, 9, 10, 11, 12, 13, 14, 0] rfl ?_
                                            exact ih156_5 _ (by omega) v219 N215 ⟨by omega, q_kz_tr m2 kz215, q_zv_dish m3 kz215 hl1, by
                                                  have := q_pc_dish m4 hl1
                                                  rw [e219]
                                                  exact q_pc_mo this (by omega), by
                                                  rw [e219, show (b2 + 1).toNat = b2.toNat + 1 by omega, q_b3_s, Int.toNat_of_nonneg m1.1, ← hpo, hl1, t3, ke3]
                                                  exact q_sR_bia1 m5 (by omega) (by show ¬ q_set (q_ins (M3 9) (M 0 0) b2) = 0; rw [← t3]; exact c207)⟩ rfl
                                refine q_drop [4, 5, 6, 7, 8, 9, 10, 11, 12, 3, 1, 13, 2, 0] rfl ?_
                                exact lp156_5 _ 0 N150 ⟨by omega, hW0.1, hW0.2.1, q_pc_mo hW0.2.2.1 (by omega), hW0.2.2.2⟩ rfl
                            · refine q_iload F dX9_round_126 0 rfl ?_
                              refine q_goto F 133 dX9_round_128 (by decide) ?_
                              refine q_istore F dX9_round_133 [(10, .int (q_I v119)), (12, .int (q_I v119)), (9, .int (q_I v110)), (0, .ref (q_ad G 0)), (1, .int (q_I g)), (2, .int (q_I m)), (3, .int (q_I d)), (4, .int (q_I w)), (5, .int (q_I c)), (6, .int (q_I b)), (7, .int (q_I fi)), (8, .int (q_I y)), (11, .int (q_I k))] (Nat.le_of_ble_eq_true rfl) rfl ?_
                              refine q_aload_n F dX9_round_135 3 rfl ?_
                              refine q_getr (T := TX9) (ref := "LeastHungryModel") F huX9 rfl hm.1 12 (by decide) (by decide +kernel) rfl rfl dX9_round_136 ?_
                              refine q_iload_n F dX9_round_139 4 rfl ?_
                              refine q_iald F hm.2.2.2.2.2.2.2.2.2.1 (Nat.le_of_ble_eq_true rfl) (by omega) dX9_round_140 (fun h140 => ?_)
                              refine q_iload F dX9_round_141 1 rfl ?_
                              refine q_icmp_eq F 153 dX9_round_143 (by decide) (by omega) (fun c143 => ?_) (fun c143 => ?_)
                              · have hW0 : q_kz M M2 ∧ q_zv M2 ∧ q_pc M2 (3 * k) ∧ q_sR (M 0 0) (q_v9 M2) (q_wg (M 0 0) (q_wk (q_hrT (M 0 0)) (M 0 0) (M 0 4) d g (fun x => y / q_pw 3 (m - 1 - x).toNat % 3) k.toNat (q_T0 (M 1) (M 2) (M 3))) g v119) := by
                                  refine ⟨i4, i5, i6, ?_⟩
                                  unfold q_wg
                                  rw [if_neg]
                                  · exact i7
                                  · rw [← q_sR_W i7]
                                    unfold q_goW
                                    rw [if_pos c5, if_pos (show qt_a (q_v9 M2) g = v119 from c143)]
                                    decide
                                refine q_iconst F dX9_round_153 ?_
                                refine q_istore F dX9_round_154 [(13, .int (q_I 0)), (10, .int (q_I v119)), (12, .int (q_I v119)), (9, .int (q_I v110)), (0, .ref (q_ad G 0)), (1, .int (q_I g)), (2, .int (q_I m)), (3, .int (q_I d)), (4, .int (q_I w)), (5, .int (q_I c)), (6, .int (q_I b)), (7, .int (q_I fi)), (8, .int (q_I y)), (11, .int (q_I k))] (Nat.le_of_ble_eq_true rfl) rfl ?_
                                have lp156_6 : ∀ (k156_6 : Nat) (b2 : Int) (M3 : q_M), ((0 ≤ b2 ∧ b2 ≤ 3) ∧ q_kz M M3 ∧ q_zv M3 ∧ q_pc M3 (3 * k + b2) ∧ q_sR (M 0 0) (q_v9 M3) (q_b3 (M 0 0) (M 0 4) d (q_wg (M 0 0) (q_wk (q_hrT (M 0 0)) (M 0 0) (M 0 4) d g (fun x => y / q_pw 3 (m - 1 - x).toNat % 3) k.toNat (q_T0 (M 1) (M 2) (M 3))) g v119) b2.toNat)) → (3 - b2).toNat = k156_6 → q_Y G E 15 M3 [(0, .ref (q_ad G 0)), (1, .int (q_I g)), (2, .int (q_I m)), (3, .int (q_I d)), (4, .int (q_I w)), (5, .int (q_I c)), (6, .int (q_I b)), (7, .int (q_I fi)), (8, .int (q_I y)), (9, .int (q_I v110)), (10, .int (q_I v119)), (11, .int (q_I k)), (12, .int (q_I v119)), (13, .int (q_I b2))] 156 [] := by
                                  intro k156_6
                                  induction k156_6 using Nat.strongRecOn with
                                  | _ k156_6 ih156_6 =>
                                    intro b2  M3 hi156 hk156
                                    refine q_MRof (fun hM156 => ?_)
                                    obtain ⟨m1, m2, m3, m4, m5⟩ := id hi156
                                    have t3 : M3 0 0 = M 0 0 := m2.2.1
                                    have ke3 : M3 0 4 = M 0 4 := m2.2.2.1
                                    refine q_iload F dX9_round_156 13 rfl ?_
                                    refine q_iconst F dX9_round_158 ?_
                                    refine q_icmp_ge F 225 dX9_round_159 (by decide) (by omega) (fun c159 => ?_) (fun c159 => ?_)
                                    · refine q_aload_n F dX9_round_225 0 rfl ?_
                                      refine q_callVV (n := 0) (T := TX9) F (c_X9_hour G hI M3 hm m3) rfl rfl hm.1 gX9_round_X9_hour rfl ⟨by decide, by decide, by decide +kernel⟩ rfl ⟨rfl, rfl, Nat.le_of_ble_eq_true rfl, Nat.le_of_ble_eq_true rfl⟩ rfl (Nat.le_of_ble_eq_true rfl) dX9_round_226 (fun N226 p226 => ?_)
                                      obtain ⟨v229, e229⟩ : ∃ z_ : Int, z_ = k + 1 := ⟨_, rfl⟩
                                      refine q_iinc F dX9_round_229 11 rfl e229 [(11, .int (q_I v229)), (0, .ref (q_ad G 0)), (1, .int (q_I g)), (2, .int (q_I m)), (3, .int (q_I d)), (4, .int (q_I w)), (5, .int (q_I c)), (6, .int (q_I b)), (7, .int (q_I fi)), (8, .int (q_I y)), (9, .int (q_I v110)), (10, .int (q_I v119)), (12, .int (q_I v119)), (13, .int (q_I b2))] (Nat.le_of_ble_eq_true rfl) rfl ?_
                                      refine q_goto F 100 dX9_round_232 (by decide) ?_
                                      refine q_drop [1, 2, 3, 4, 5, 6, 7, 8, 9, 10, 11, 0] rfl ?_
                                      exact ih100_3 _ (by omega) v110 v119 v229 N226 ⟨by omega, by rw [h110, e229, show m - 1 - k = m - (k + 1) by omega], by
                                            rw [e229, if_neg (show ¬ k + 1 = 0 by omega)]
                                            rw [h119, c123, show m - 1 - 0 = m - 1 by omega], q_kz_tr m2 (q_kz_fr p226.1 (by omega)), q_zv_ho m3 p226.1 p226.2, q_pc_ho (by rw [e229]; exact q_pc_mo m4 (by omega)) p226.1, by
                                            rw [e229, show (k + 1).toNat = k.toNat + 1 by omega, q_wk_s, q_v9_ho (th := M 0 0) p226.1 (by rw [p226.2, m2.2.1])]
                                            refine q_sR_ho ?_
                                            rw [show b2.toNat = 3 by omega] at m5
                                            rw [Int.toNat_of_nonneg i1.1, ← h119]
                                            exact m5⟩ rfl
                                    · refine q_iload F dX9_round_162 13 rfl ?_
                                      refine q_if_ne F 174 dX9_round_164 (by decide) (by omega) (fun c164 => ?_) (fun c164 => ?_)
                                      · refine q_iload F dX9_round_174 13 rfl ?_
                                        refine q_iconst F dX9_round_176 ?_
                                        refine q_icmp_ne F 190 dX9_round_177 (by decide) (by omega) (fun c177 => ?_) (fun c177 => ?_)
                                        · refine q_iload_n F dX9_round_190 3 rfl ?_
                                          refine q_bipush F dX9_round_191 (by decide) ?_
                                          refine q_irem F dX9_round_193 (by omega) ?_
                                          refine q_nm (fun v194 e194 => ?_)
                                          refine q_istore F dX9_round_194 [(14, .int (q_I v194)), (0, .ref (q_ad G 0)), (1, .int (q_I g)), (2, .int (q_I m)), (3, .int (q_I d)), (4, .int (q_I w)), (5, .int (q_I c)), (6, .int (q_I b)), (7, .int (q_I fi)), (8, .int (q_I y)), (9, .int (q_I v110)), (10, .int (q_I v119)), (11, .int (q_I k)), (12, .int (q_I v119)), (13, .int (q_I b2))] (Nat.le_of_ble_eq_true rfl) rfl ?_
                                          have hpo : v194 = q_dpo d b2 := by
                                            unfold q_dpo
                                            rw [if_neg c164, if_neg c177]; exact e194
                                          have hpR : 0 ≤ v194 ∧ v194 ≤ 9 := by omega
                                          refine q_iload F dX9_round_196 0 rfl ?_
                                          refine q_if_le F 219 dX9_round_198 (by decide) (by omega) (fun c198 => ?_) (fun c198 => ?_)
                                          · obtain ⟨v219, e219⟩ : ∃ z_ : Int, z_ = b2 + 1 := ⟨_, rfl⟩
                                            refine q_iinc F dX9_round_219 14 rfl e219 [(13, .int (q_I v219)), (14, .int (q_I v194)), (0, .ref (q_ad G 0)), (1, .int (q_I g)), (2, .int (q_I m)), (3, .int (q_I d)), (4, .int (q_I w)), (5, .int (q_I c)), (6, .int (q_I b)), (7, .int (q_I fi)), (8, .int (q_I y)), (9, .int (q_I v110)), (10, .int (q_I v119)), (11, .int (q_I k)), (12, .int (q_I v119))] (Nat.le_of_ble_eq_true rfl) rfl ?_
                                            refine q_goto F 156 dX9_round_222 (by decide) ?_
                                            refine q_drop [2, 3, 4, 5, 6, 7, 8, 9, 10, 11, 12, 13, 14, 0] rfl ?_
                                            exact ih156_6 _ (by omega) v219 M3 ⟨by omega, m2, m3, q_pc_mo m4 (by omega), by
                                                  rw [e219, show (b2 + 1).toNat = b2.toNat + 1 by omega, q_b3_s, Int.toNat_of_nonneg m1.1, ← hpo]
                                                  exact q_sR_bia0 m5 (fun h => by have := h.1; omega)⟩ rfl
                                          · refine q_aload_n F dX9_round_201 1 rfl ?_
                                            refine q_iload F dX9_round_202 14 rfl ?_
                                            refine q_callVP (n := 1) (T := TX9) F (c_X9_inHouse G hI M3 hm b2 m3 (by omega)) rfl rfl hm.1 gX9_round_X9_inHouse rfl ⟨by decide, by decide, by decide +kernel⟩ rfl ⟨rfl, rfl, Nat.le_of_ble_eq_true rfl, Nat.le_of_ble_eq_true rfl⟩ rfl (Nat.le_of_ble_eq_true rfl) dX9_round_204 (fun h204 => ?_)
                                            refine q_if_eq F 219 dX9_round_207 (by decide) (by omega) (fun c207 => ?_) (fun c207 => ?_)
                                            · obtain ⟨v219, e219⟩ : ∃ z_ : Int, z_ = b2 + 1 := ⟨_, rfl⟩
                                              refine q_iinc F dX9_round_219 14 rfl e219 [(13, .int (q_I v219)), (14, .int (q_I v194)), (0, .ref (q_ad G 0)), (1, .int (q_I g)), (2, .int (q_I m)), (3, .int (q_I d)), (4, .int (q_I w)), (5, .int (q_I c)), (6, .int (q_I b)), (7, .int (q_I fi)), (8, .int (q_I y)), (9, .int (q_I v110)), (10, .int (q_I v119)), (11, .int (q_I k)), (12, .int (q_I v119))] (Nat.le_of_ble_eq_true rfl) rfl ?_
                                              refine q_goto F 156 dX9_round_222 (by decide) ?_
                                              refine q_drop [2, 3, 4, 5, 6, 7, 8, 9, 10, 11, 12, 13, 14, 0] rfl ?_
                                              exact ih156_6 _ (by omega) v219 M3 ⟨by omega, m2, m3, q_pc_mo m4 (by omega), by
                                                    rw [e219, show (b2 + 1).toNat = b2.toNat + 1 by omega, q_b3_s, Int.toNat_of_nonneg m1.1, ← hpo]
                                                    exact q_sR_bia0 m5 (fun h => h.2 (by show q_set (q_ins (M3 9) (M 0 0) b2) = 0; rw [← t3]; exact c207))⟩ rfl
                                            · refine q_aload_n F dX9_round_210 1 rfl ?_
                                              refine q_iload F dX9_round_211 14 rfl ?_
                                              refine q_iload F dX9_round_213 0 rfl ?_
                                              refine q_callVI (n := 2) (T := TX9) F (c_X9_dish G hI M3 hm b2 v194 (3 * k + b2) m3 m4 (by omega) (by omega)) rfl rfl hm.1 gX9_round_X9_dish rfl ⟨by decide, by decide, by decide +kernel⟩ rfl ⟨rfl, rfl, Nat.le_of_ble_eq_true rfl, Nat.le_of_ble_eq_true rfl⟩ rfl (Nat.le_of_ble_eq_true rfl) dX9_round_215 (fun r215 N215 h215 p215 => ?_)
                                              obtain ⟨-, ⟨l, hl1, -⟩, hf1, hf2⟩ := p215
                                              have kz215 : q_kz M3 N215 := q_kz_dish hf1 hf2
                                              refine q_pop F dX9_round_218 rfl ?_
                                              obtain ⟨v219, e219⟩ : ∃ z_ : Int, z_ = b2 + 1 := ⟨_, rfl⟩
                                              refine q_iinc F dX9_round_219 14 rfl e219 [(13, .int (q_I v219)), (14, .int (q_I v194)), (0, .ref (q_ad G 0)), (1, .int (q_I g)), (2, .int (q_I m)), (3, .int (q_I d)), (4, .int (q_I w)), (5, .int (q_I c)), (6, .int (q_I b)), (7, .int (q_I fi)), (8, .int (q_I y)), (9, .int (q_I v110)), (10, .int (q_I v119)), (11, .int (q_I k)), (12, .int (q_I v119))] (Nat.le_of_ble_eq_true rfl) rfl ?_
                                              refine q_goto F 156 dX9_round_222 (by decide) ?_
                                              refine q_drop [2, 3, 4, 5, 6, 7, 8, 9, 10, 11, 12, 13, 14, 0] rfl ?_
                                              exact ih156_6 _ (by omega) v219 N215 ⟨by omega, q_kz_tr m2 kz215, q_zv_dish m3 kz215 hl1, by
                                                    have := q_pc_dish m4 hl1
                                                    rw [e219]
                                                    exact q_pc_mo this (by omega), by
                                                    rw [e219, show (b2 + 1).toNat = b2.toNat + 1 by omega, q_b3_s, Int.toNat_of_nonneg m1.1, ← hpo, hl1, t3, ke3]
                                                    exact q_sR_bia1 m5 (by omega) (by show ¬ q_set (q_ins (M3 9) (M 0 0) b2) = 0; rw [← t3]; exact c207)⟩ rfl
                                        · refine q_iload_n F dX9_round_180 3 rfl ?_
                                          refine q_bipush F dX9_round_181 (by decide) ?_
                                          refine q_idiv F dX9_round_183 (by omega) ?_
                                          refine q_bipush F dX9_round_184 (by decide) ?_
                                          refine q_irem F dX9_round_186 (by omega) ?_
                                          refine q_goto F 194 dX9_round_187 (by decide) ?_
                                          refine q_nm (fun v194 e194 => ?_)
                                          refine q_istore F dX9_round_194 [(14, .int (q_I v194)), (0, .ref (q_ad G 0)), (1, .int (q_I g)), (2, .int (q_I m)), (3, .int (q_I d)), (4, .int (q_I w)), (5, .int (q_I c)), (6, .int (q_I b)), (7, .int (q_I fi)), (8, .int (q_I y)), (9, .int (q_I v110)), (10, .int (q_I v119)), (11, .int (q_I k)), (12, .int (q_I v119)), (13, .int (q_I b2))] (Nat.le_of_ble_eq_true rfl) rfl ?_
                                          have hpo : v194 = q_dpo d b2 := by
                                            unfold q_dpo
                                            rw [if_neg c164, if_pos c177]; exact e194
                                          have hpR : 0 ≤ v194 ∧ v194 ≤ 9 := by omega
                                          refine q_iload F dX9_round_196 0 rfl ?_
                                          refine q_if_le F 219 dX9_round_198 (by decide) (by omega) (fun c198 => ?_) (fun c198 => ?_)
                                          · obtain ⟨v219, e219⟩ : ∃ z_ : Int, z_ = b2 + 1 := ⟨_, rfl⟩
                                            refine q_iinc F dX9_round_219 14 rfl e219 [(13, .int (q_I v219)), (14, .int (q_I v194)), (0, .ref (q_ad G 0)), (1, .int (q_I g)), (2, .int (q_I m)), (3, .int (q_I d)), (4, .int (q_I w)), (5, .int (q_I c)), (6, .int (q_I b)), (7, .int (q_I fi)), (8, .int (q_I y)), (9, .int (q_I v110)), (10, .int (q_I v119)), (11, .int (q_I k)), (12, .int (q_I v119))] (Nat.le_of_ble_eq_true rfl) rfl ?_
                                            refine q_goto F 156 dX9_round_222 (by decide) ?_
                                            refine q_drop [2, 3, 4, 5, 6, 7, 8, 9, 10, 11, 12, 13, 14, 0] rfl ?_
                                            exact ih156_6 _ (by omega) v219 M3 ⟨by omega, m2, m3, q_pc_mo m4 (by omega), by
                                                  rw [e219, show (b2 + 1).toNat = b2.toNat + 1 by omega, q_b3_s, Int.toNat_of_nonneg m1.1, ← hpo]
                                                  exact q_sR_bia0 m5 (fun h => by have := h.1; omega)⟩ rfl
                                          · refine q_aload_n F dX9_round_201 1 rfl ?_
                                            refine q_iload F dX9_round_202 14 rfl ?_
                                            refine q_callVP (n := 1) (T := TX9) F (c_X9_inHouse G hI M3 hm b2 m3 (by omega)) rfl rfl hm.1 gX9_round_X9_inHouse rfl ⟨by decide, by decide, by decide +kernel⟩ rfl ⟨rfl, rfl, Nat.le_of_ble_eq_true rfl, Nat.le_of_ble_eq_true rfl⟩ rfl (Nat.le_of_ble_eq_true rfl) dX9_round_204 (fun h204 => ?_)
                                            refine q_if_eq F 219 dX9_round_207 (by decide) (by omega) (fun c207 => ?_) (fun c207 => ?_)
                                            · obtain ⟨v219, e219⟩ : ∃ z_ : Int, z_ = b2 + 1 := ⟨_, rfl⟩
                                              refine q_iinc F dX9_round_219 14 rfl e219 [(13, .int (q_I v219)), (14, .int (q_I v194)), (0, .ref (q_ad G 0)), (1, .int (q_I g)), (2, .int (q_I m)), (3, .int (q_I d)), (4, .int (q_I w)), (5, .int (q_I c)), (6, .int (q_I b)), (7, .int (q_I fi)), (8, .int (q_I y)), (9, .int (q_I v110)), (10, .int (q_I v119)), (11, .int (q_I k)), (12, .int (q_I v119))] (Nat.le_of_ble_eq_true rfl) rfl ?_
                                              refine q_goto F 156 dX9_round_222 (by decide) ?_
                                              refine q_drop [2, 3, 4, 5, 6, 7, 8, 9, 10, 11, 12, 13, 14, 0] rfl ?_
                                              exact ih156_6 _ (by omega) v219 M3 ⟨by omega, m2, m3, q_pc_mo m4 (by omega), by
                                                    rw [e219, show (b2 + 1).toNat = b2.toNat + 1 by omega, q_b3_s, Int.toNat_of_nonneg m1.1, ← hpo]
                                                    exact q_sR_bia0 m5 (fun h => h.2 (by show q_set (q_ins (M3 9) (M 0 0) b2) = 0; rw [← t3]; exact c207))⟩ rfl
                                            · refine q_aload_n F dX9_round_210 1 rfl ?_
                                              refine q_iload F dX9_round_211 14 rfl ?_
                                              refine q_iload F dX9_round_213 0 rfl ?_
                                              refine q_callVI (n := 2) (T := TX9) F (c_X9_dish G hI M3 hm b2 v194 (3 * k + b2) m3 m4 (by omega) (by omega)) rfl rfl hm.1 gX9_round_X9_dish rfl ⟨by decide, by decide, by decide +kernel⟩ rfl ⟨rfl, rfl, Nat.le_of_ble_eq_true rfl, Nat.le_of_ble_eq_true rfl⟩ rfl (Nat.le_of_ble_eq_true rfl) dX9_round_215 (fun r215 N215 h215 p215 => ?_)
                                              obtain ⟨-, ⟨l, hl1, -⟩, hf1, hf2⟩ := p215
                                              have kz215 : q_kz M3 N215 := q_kz_dish hf1 hf2
                                              refine q_pop F dX9_round_218 rfl ?_
                                              obtain ⟨v219, e219⟩ : ∃ z_ : Int, z_ = b2 + 1 := ⟨_, rfl⟩
                                              refine q_iinc F dX9_round_219 14 rfl e219 [(13, .int (q_I v219)), (14, .int (q_I v194)), (0, .ref (q_ad G 0)), (1, .int (q_I g)), (2, .int (q_I m)), (3, .int (q_I d)), (4, .int (q_I w)), (5, .int (q_I c)), (6, .int (q_I b)), (7, .int (q_I fi)), (8, .int (q_I y)), (9, .int (q_I v110)), (10, .int (q_I v119)), (11, .int (q_I k)), (12, .int (q_I v119))] (Nat.le_of_ble_eq_true rfl) rfl ?_
                                              refine q_goto F 156 dX9_round_222 (by decide) ?_
                                              refine q_drop [2, 3, 4, 5, 6, 7, 8, 9, 10, 11, 12, 13, 14, 0] rfl ?_
                                              exact ih156_6 _ (by omega) v219 N215 ⟨by omega, q_kz_tr m2 kz215, q_zv_dish m3 kz215 hl1, by
                                                    have := q_pc_dish m4 hl1
                                                    rw [e219]
                                                    exact q_pc_mo this (by omega), by
                                                    rw [e219, show (b2 + 1).toNat = b2.toNat + 1 by omega, q_b3_s, Int.toNat_of_nonneg m1.1, ← hpo, hl1, t3, ke3]
                                                    exact q_sR_bia1 m5 (by omega) (by show ¬ q_set (q_ins (M3 9) (M 0 0) b2) = 0; rw [← t3]; exact c207)⟩ rfl
                                      · refine q_iload_n F dX9_round_167 3 rfl ?_
                                        refine q_bipush F dX9_round_168 (by decide) ?_
                                        refine q_idiv F dX9_round_170 (by omega) ?_
                                        refine q_goto F 194 dX9_round_171 (by decide) ?_
                                        refine q_nm (fun v194 e194 => ?_)
                                        refine q_istore F dX9_round_194 [(14, .int (q_I v194)), (0, .ref (q_ad G 0)), (1, .int (q_I g)), (2, .int (q_I m)), (3, .int (q_I d)), (4, .int (q_I w)), (5, .int (q_I c)), (6, .int (q_I b)), (7, .int (q_I fi)), (8, .int (q_I y)), (9, .int (q_I v110)), (10, .int (q_I v119)), (11, .int (q_I k)), (12, .int (q_I v119)), (13, .int (q_I b2))] (Nat.le_of_ble_eq_true rfl) rfl ?_
                                        have hpo : v194 = q_dpo d b2 := by
                                          unfold q_dpo
                                          rw [if_pos c164]; exact e194
                                        have hpR : 0 ≤ v194 ∧ v194 ≤ 9 := by omega
                                        refine q_iload F dX9_round_196 0 rfl ?_
                                        refine q_if_le F 219 dX9_round_198 (by decide) (by omega) (fun c198 => ?_) (fun c198 => ?_)
                                        · obtain ⟨v219, e219⟩ : ∃ z_ : Int, z_ = b2 + 1 := ⟨_, rfl⟩
                                          refine q_iinc F dX9_round_219 14 rfl e219 [(13, .int (q_I v219)), (14, .int (q_I v194)), (0, .ref (q_ad G 0)), (1, .int (q_I g)), (2, .int (q_I m)), (3, .int (q_I d)), (4, .int (q_I w)), (5, .int (q_I c)), (6, .int (q_I b)), (7, .int (q_I fi)), (8, .int (q_I y)), (9, .int (q_I v110)), (10, .int (q_I v119)), (11, .int (q_I k)), (12, .int (q_I v119))] (Nat.le_of_ble_eq_true rfl) rfl ?_
                                          refine q_goto F 156 dX9_round_222 (by decide) ?_
                                          refine q_drop [2, 3, 4, 5, 6, 7, 8, 9, 10, 11, 12, 13, 14, 0] rfl ?_
                                          exact ih156_6 _ (by omega) v219 M3 ⟨by omega, m2, m3, q_pc_mo m4 (by omega), by
                                                rw [e219, show (b2 + 1).toNat = b2.toNat + 1 by omega, q_b3_s, Int.toNat_of_nonneg m1.1, ← hpo]
                                                exact q_sR_bia0 m5 (fun h => by have := h.1; omega)⟩ rfl
                                        · refine q_aload_n F dX9_round_201 1 rfl ?_
                                          refine q_iload F dX9_round_202 14 rfl ?_
                                          refine q_callVP (n := 1) (T := TX9) F (c_X9_inHouse G hI M3 hm b2 m3 (by omega)) rfl rfl hm.1 gX9_round_X9_inHouse rfl ⟨by decide, by decide, by decide +kernel⟩ rfl ⟨rfl, rfl, Nat.le_of_ble_eq_true rfl, Nat.le_of_ble_eq_true rfl⟩ rfl (Nat.le_of_ble_eq_true rfl) dX9_round_204 (fun h204 => ?_)
                                          refine q_if_eq F 219 dX9_round_207 (by decide) (by omega) (fun c207 => ?_) (fun c207 => ?_)
                                          · obtain ⟨v219, e219⟩ : ∃ z_ : Int, z_ = b2 + 1 := ⟨_, rfl⟩
                                            refine q_iinc F dX9_round_219 14 rfl e219 [(13, .int (q_I v219)), (14, .int (q_I v194)), (0, .ref (q_ad G 0)), (1, .int (q_I g)), (2, .int (q_I m)), (3, .int (q_I d)), (4, .int (q_I w)), (5, .int (q_I c)), (6, .int (q_I b)), (7, .int (q_I fi)), (8, .int (q_I y)), (9, .int (q_I v110)), (10, .int (q_I v119)), (11, .int (q_I k)), (12, .int (q_I v119))] (Nat.le_of_ble_eq_true rfl) rfl ?_
                                            refine q_goto F 156 dX9_round_222 (by decide) ?_
                                            refine q_drop [2, 3, 4, 5, 6, 7, 8, 9, 10, 11, 12, 13, 14, 0] rfl ?_
                                            exact ih156_6 _ (by omega) v219 M3 ⟨by omega, m2, m3, q_pc_mo m4 (by omega), by
                                                  rw [e219, show (b2 + 1).toNat = b2.toNat + 1 by omega, q_b3_s, Int.toNat_of_nonneg m1.1, ← hpo]
                                                  exact q_sR_bia0 m5 (fun h => h.2 (by show q_set (q_ins (M3 9) (M 0 0) b2) = 0; rw [← t3]; exact c207))⟩ rfl
                                          · refine q_aload_n F dX9_round_210 1 rfl ?_
                                            refine q_iload F dX9_round_211 14 rfl ?_
                                            refine q_iload F dX9_round_213 0 rfl ?_
                                            refine q_callVI (n := 2) (T := TX9) F (c_X9_dish G hI M3 hm b2 v194 (3 * k + b2) m3 m4 (by omega) (by omega)) rfl rfl hm.1 gX9_round_X9_dish rfl ⟨by decide, by decide, by decide +kernel⟩ rfl ⟨rfl, rfl, Nat.le_of_ble_eq_true rfl, Nat.le_of_ble_eq_true rfl⟩ rfl (Nat.le_of_ble_eq_true rfl) dX9_round_215 (fun r215 N215 h215 p215 => ?_)
                                            obtain ⟨-, ⟨l, hl1, -⟩, hf1, hf2⟩ := p215
                                            have kz215 : q_kz M3 N215 := q_kz_dish hf1 hf2
                                            refine q_pop F dX9_round_218 rfl ?_
                                            obtain ⟨v219, e219⟩ : ∃ z_ : Int, z_ = b2 + 1 := ⟨_, rfl⟩
                                            refine q_iinc F dX9_round_219 14 rfl e219 [(13, .int (q_I v219)), (14, .int (q_I v194)), (0, .ref (q_ad G 0)), (1, .int (q_I g)), (2, .int (q_I m)), (3, .int (q_I d)), (4, .int (q_I w)), (5, .int (q_I c)), (6, .int (q_I b)), (7, .int (q_I fi)), (8, .int (q_I y)), (9, .int (q_I v110)), (10, .int (q_I v119)), (11, .int (q_I k)), (12, .int (q_I v119))] (Nat.le_of_ble_eq_true rfl) rfl ?_
                                            refine q_goto F 156 dX9_round_222 (by decide) ?_
                                            refine q_drop [2, 3, 4, 5, 6, 7, 8, 9, 10, 11, 12, 13, 14, 0] rfl ?_
                                            exact ih156_6 _ (by omega) v219 N215 ⟨by omega, q_kz_tr m2 kz215, q_zv_dish m3 kz215 hl1, by
                                                  have := q_pc_dish m4 hl1
                                                  rw [e219]
                                                  exact q_pc_mo this (by omega), by
                                                  rw [e219, show (b2 + 1).toNat = b2.toNat + 1 by omega, q_b3_s, Int.toNat_of_nonneg m1.1, ← hpo, hl1, t3, ke3]
                                                  exact q_sR_bia1 m5 (by omega) (by show ¬ q_set (q_ins (M3 9) (M 0 0) b2) = 0; rw [← t3]; exact c207)⟩ rfl
                                refine q_drop [4, 5, 6, 7, 8, 9, 10, 11, 12, 3, 1, 13, 2, 0] rfl ?_
                                exact lp156_6 _ 0 M2 ⟨by omega, hW0.1, hW0.2.1, q_pc_mo hW0.2.2.1 (by omega), hW0.2.2.2⟩ rfl
                              · refine q_aload_n F dX9_round_146 3 rfl ?_
                                refine q_iload_n F dX9_round_147 4 rfl ?_
                                refine q_iload F dX9_round_148 1 rfl ?_
                                refine q_callVV (n := 2) (T := TX9) F (c_X9_go G hI M2 hm g v119 ⟨hgi, hxh, by omega⟩) rfl rfl hm.1 gX9_round_X9_go rfl ⟨by decide, by decide, by decide +kernel⟩ rfl ⟨rfl, rfl, Nat.le_of_ble_eq_true rfl, Nat.le_of_ble_eq_true rfl⟩ rfl (Nat.le_of_ble_eq_true rfl) dX9_round_150 (fun N150 p150 => ?_)
                                have hW0 : q_kz M N150 ∧ q_zv N150 ∧ q_pc N150 (3 * k) ∧ q_sR (M 0 0) (q_v9 N150) (q_wg (M 0 0) (q_wk (q_hrT (M 0 0)) (M 0 0) (M 0 4) d g (fun x => y / q_pw 3 (m - 1 - x).toNat % 3) k.toNat (q_T0 (M 1) (M 2) (M 3))) g v119) := by
                                  rw [p150]
                                  refine ⟨q_kz_tr i4 (q_kz_tr (q_kz_up (by omega)) (q_kz_up (by omega))), q_zv_go i5 hgi (by omega), q_pc_go i6, ?_⟩
                                  rw [q_v9_go]
                                  unfold q_wg
                                  rw [if_pos]
                                  · exact q_sR_go i7 c5
                                  · rw [← q_sR_W i7]
                                    unfold q_goW
                                    rw [if_pos c5, if_neg (show ¬ qt_a (q_v9 M2) g = v119 from c143)]
                                refine q_iconst F dX9_round_153 ?_
                                refine q_istore F dX9_round_154 [(13, .int (q_I 0)), (10, .int (q_I v119)), (12, .int (q_I v119)), (9, .int (q_I v110)), (0, .ref (q_ad G 0)), (1, .int (q_I g)), (2, .int (q_I m)), (3, .int (q_I d)), (4, .int (q_I w)), (5, .int (q_I c)), (6, .int (q_I b)), (7, .int (q_I fi)), (8, .int (q_I y)), (11, .int (q_I k))] (Nat.le_of_ble_eq_true rfl) rfl ?_
                                have lp156_7 : ∀ (k156_7 : Nat) (b2 : Int) (M3 : q_M), ((0 ≤ b2 ∧ b2 ≤ 3) ∧ q_kz M M3 ∧ q_zv M3 ∧ q_pc M3 (3 * k + b2) ∧ q_sR (M 0 0) (q_v9 M3) (q_b3 (M 0 0) (M 0 4) d (q_wg (M 0 0) (q_wk (q_hrT (M 0 0)) (M 0 0) (M 0 4) d g (fun x => y / q_pw 3 (m - 1 - x).toNat % 3) k.toNat (q_T0 (M 1) (M 2) (M 3))) g v119) b2.toNat)) → (3 - b2).toNat = k156_7 → q_Y G E 15 M3 [(0, .ref (q_ad G 0)), (1, .int (q_I g)), (2, .int (q_I m)), (3, .int (q_I d)), (4, .int (q_I w)), (5, .int (q_I c)), (6, .int (q_I b)), (7, .int (q_I fi)), (8, .int (q_I y)), (9, .int (q_I v110)), (10, .int (q_I v119)), (11, .int (q_I k)), (12, .int (q_I v119)), (13, .int (q_I b2))] 156 [] := by
                                  intro k156_7
                                  induction k156_7 using Nat.strongRecOn with
                                  | _ k156_7 ih156_7 =>
                                    intro b2  M3 hi156 hk156
                                    refine q_MRof (fun hM156 => ?_)
                                    obtain ⟨m1, m2, m3, m4, m5⟩ := id hi156
                                    have t3 : M3 0 0 = M 0 0 := m2.2.1
                                    have ke3 : M3 0 4 = M 0 4 := m2.2.2.1
                                    refine q_iload F dX9_round_156 13 rfl ?_
                                    refine q_iconst F dX9_round_158 ?_
                                    refine q_icmp_ge F 225 dX9_round_159 (by decide) (by omega) (fun c159 => ?_) (fun c159 => ?_)
                                    · refine q_aload_n F dX9_round_225 0 rfl ?_
                                      refine q_callVV (n := 0) (T := TX9) F (c_X9_hour G hI M3 hm m3) rfl rfl hm.1 gX9_round_X9_hour rfl ⟨by decide, by decide, by decide +kernel⟩ rfl ⟨rfl, rfl, Nat.le_of_ble_eq_true rfl, Nat.le_of_ble_eq_true rfl⟩ rfl (Nat.le_of_ble_eq_true rfl) dX9_round_226 (fun N226 p226 => ?_)
                                      obtain ⟨v229, e229⟩ : ∃ z_ : Int, z_ = k + 1 := ⟨_, rfl⟩
                                      refine q_iinc F dX9_round_229 11 rfl e229 [(11, .int (q_I v229)), (0, .ref (q_ad G 0)), (1, .int (q_I g)), (2, .int (q_I m)), (3, .int (q_I d)), (4, .int (q_I w)), (5, .int (q_I c)), (6, .int (q_I b)), (7, .int (q_I fi)), (8, .int (q_I y)), (9, .int (q_I v110)), (10, .int (q_I v119)), (12, .int (q_I v119)), (13, .int (q_I b2))] (Nat.le_of_ble_eq_true rfl) rfl ?_
                                      refine q_goto F 100 dX9_round_232 (by decide) ?_
                                      refine q_drop [1, 2, 3, 4, 5, 6, 7, 8, 9, 10, 11, 0] rfl ?_
                                      exact ih100_3 _ (by omega) v110 v119 v229 N226 ⟨by omega, by rw [h110, e229, show m - 1 - k = m - (k + 1) by omega], by
                                            rw [e229, if_neg (show ¬ k + 1 = 0 by omega)]
                                            rw [h119, c123, show m - 1 - 0 = m - 1 by omega], q_kz_tr m2 (q_kz_fr p226.1 (by omega)), q_zv_ho m3 p226.1 p226.2, q_pc_ho (by rw [e229]; exact q_pc_mo m4 (by omega)) p226.1, by
                                            rw [e229, show (k + 1).toNat = k.toNat + 1 by omega, q_wk_s, q_v9_ho (th := M 0 0) p226.1 (by rw [p226.2, m2.2.1])]
                                            refine q_sR_ho ?_
                                            rw [show b2.toNat = 3 by omega] at m5
                                            rw [Int.toNat_of_nonneg i1.1, ← h119]
                                            exact m5⟩ rfl
                                    · refine q_iload F dX9_round_162 13 rfl ?_
                                      refine q_if_ne F 174 dX9_round_164 (by decide) (by omega) (fun c164 => ?_) (fun c164 => ?_)
                                      · refine q_iload F dX9_round_174 13 rfl ?_
                                        refine q_iconst F dX9_round_176 ?_
                                        refine q_icmp_ne F 190 dX9_round_177 (by decide) (by omega) (fun c177 => ?_) (fun c177 => ?_)
                                        · refine q_iload_n F dX9_round_190 3 rfl ?_
                                          refine q_bipush F dX9_round_191 (by decide) ?_
                                          refine q_irem F dX9_round_193 (by omega) ?_
                                          refine q_nm (fun v194 e194 => ?_)
                                          refine q_istore F dX9_round_194 [(14, .int (q_I v194)), (0, .ref (q_ad G 0)), (1, .int (q_I g)), (2, .int (q_I m)), (3, .int (q_I d)), (4, .int (q_I w)), (5, .int (q_I c)), (6, .int (q_I b)), (7, .int (q_I fi)), (8, .int (q_I y)), (9, .int (q_I v110)), (10, .int (q_I v119)), (11, .int (q_I k)), (12, .int (q_I v119)), (13, .int (q_I b2))] (Nat.le_of_ble_eq_true rfl) rfl ?_
                                          have hpo : v194 = q_dpo d b2 := by
                                            unfold q_dpo
                                            rw [if_neg c164, if_neg c177]; exact e194
                                          have hpR : 0 ≤ v194 ∧ v194 ≤ 9 := by omega
                                          refine q_iload F dX9_round_196 0 rfl ?_
                                          refine q_if_le F 219 dX9_round_198 (by decide) (by omega) (fun c198 => ?_) (fun c198 => ?_)
                                          · obtain ⟨v219, e219⟩ : ∃ z_ : Int, z_ = b2 + 1 := ⟨_, rfl⟩
                                            refine q_iinc F dX9_round_219 14 rfl e219 [(13, .int (q_I v219)), (14, .int (q_I v194)), (0, .ref (q_ad G 0)), (1, .int (q_I g)), (2, .int (q_I m)), (3, .int (q_I d)), (4, .int (q_I w)), (5, .int (q_I c)), (6, .int (q_I b)), (7, .int (q_I fi)), (8, .int (q_I y)), (9, .int (q_I v110)), (10, .int (q_I v119)), (11, .int (q_I k)), (12, .int (q_I v119))] (Nat.le_of_ble_eq_true rfl) rfl ?_
                                            refine q_goto F 156 dX9_round_222 (by decide) ?_
                                            refine q_drop [2, 3, 4, 5, 6, 7, 8, 9, 10, 11, 12, 13, 14, 0] rfl ?_
                                            exact ih156_7 _ (by omega) v219 M3 ⟨by omega, m2, m3, q_pc_mo m4 (by omega), by
                                                  rw [e219, show (b2 + 1).toNat = b2.toNat + 1 by omega, q_b3_s, Int.toNat_of_nonneg m1.1, ← hpo]
                                                  exact q_sR_bia0 m5 (fun h => by have := h.1; omega)⟩ rfl
                                          · refine q_aload_n F dX9_round_201 1 rfl ?_
                                            refine q_iload F dX9_round_202 14 rfl ?_
                                            refine q_callVP (n := 1) (T := TX9) F (c_X9_inHouse G hI M3 hm b2 m3 (by omega)) rfl rfl hm.1 gX9_round_X9_inHouse rfl ⟨by decide, by decide, by decide +kernel⟩ rfl ⟨rfl, rfl, Nat.le_of_ble_eq_true rfl, Nat.le_of_ble_eq_true rfl⟩ rfl (Nat.le_of_ble_eq_true rfl) dX9_round_204 (fun h204 => ?_)
                                            refine q_if_eq F 219 dX9_round_207 (by decide) (by omega) (fun c207 => ?_) (fun c207 => ?_)
                                            · obtain ⟨v219, e219⟩ : ∃ z_ : Int, z_ = b2 + 1 := ⟨_, rfl⟩
                                              refine q_iinc F dX9_round_219 14 rfl e219 [(13, .int (q_I v219)), (14, .int (q_I v194)), (0, .ref (q_ad G 0)), (1, .int (q_I g)), (2, .int (q_I m)), (3, .int (q_I d)), (4, .int (q_I w)), (5, .int (q_I c)), (6, .int (q_I b)), (7, .int (q_I fi)), (8, .int (q_I y)), (9, .int (q_I v110)), (10, .int (q_I v119)), (11, .int (q_I k)), (12, .int (q_I v119))] (Nat.le_of_ble_eq_true rfl) rfl ?_
                                              refine q_goto F 156 dX9_round_222 (by decide) ?_
                                              refine q_drop [2, 3, 4, 5, 6, 7, 8, 9, 10, 11, 12, 13, 14, 0] rfl ?_
                                              exact ih156_7 _ (by omega) v219 M3 ⟨by omega, m2, m3, q_pc_mo m4 (by omega), by
                                                    rw [e219, show (b2 + 1).toNat = b2.toNat + 1 by omega, q_b3_s, Int.toNat_of_nonneg m1.1, ← hpo]
                                                    exact q_sR_bia0 m5 (fun h => h.2 (by show q_set (q_ins (M3 9) (M 0 0) b2) = 0; rw [← t3]; exact c207))⟩ rfl
                                            · refine q_aload_n F dX9_round_210 1 rfl ?_
                                              refine q_iload F dX9_round_211 14 rfl ?_
                                              refine q_iload F dX9_round_213 0 rfl ?_
                                              refine q_callVI (n := 2) (T := TX9) F (c_X9_dish G hI M3 hm b2 v194 (3 * k + b2) m3 m4 (by omega) (by omega)) rfl rfl hm.1 gX9_round_X9_dish rfl ⟨by decide, by decide, by decide +kernel⟩ rfl ⟨rfl, rfl, Nat.le_of_ble_eq_true rfl, Nat.le_of_ble_eq_true rfl⟩ rfl (Nat.le_of_ble_eq_true rfl) dX9_round_215 (fun r215 N215 h215 p215 => ?_)
                                              obtain ⟨-, ⟨l, hl1, -⟩, hf1, hf2⟩ := p215
                                              have kz215 : q_kz M3 N215 := q_kz_dish hf1 hf2
                                              refine q_pop F dX9_round_218 rfl ?_
                                              obtain ⟨v219, e219⟩ : ∃ z_ : Int, z_ = b2 + 1 := ⟨_, rfl⟩
                                              refine q_iinc F dX9_round_219 14 rfl e219 [(13, .int (q_I v219)), (14, .int (q_I v194)), (0, .ref (q_ad G 0)), (1, .int (q_I g)), (2, .int (q_I m)), (3, .int (q_I d)), (4, .int (q_I w)), (5, .int (q_I c)), (6, .int (q_I b)), (7, .int (q_I fi)), (8, .int (q_I y)), (9, .int (q_I v110)), (10, .int (q_I v119)), (11, .int (q_I k)), (12, .int (q_I v119))] (Nat.le_of_ble_eq_true rfl) rfl ?_
                                              refine q_goto F 156 dX9_round_222 (by decide) ?_
                                              refine q_drop [2, 3, 4, 5, 6, 7, 8, 9, 10, 11, 12, 13, 14, 0] rfl ?_
                                              exact ih156_7 _ (by omega) v219 N215 ⟨by omega, q_kz_tr m2 kz215, q_zv_dish m3 kz215 hl1, by
                                                    have := q_pc_dish m4 hl1
                                                    rw [e219]
                                                    exact q_pc_mo this (by omega), by
                                                    rw [e219, show (b2 + 1).toNat = b2.toNat + 1 by omega, q_b3_s, Int.toNat_of_nonneg m1.1, ← hpo, hl1, t3, ke3]
                                                    exact q_sR_bia1 m5 (by omega) (by show ¬ q_set (q_ins (M3 9) (M 0 0) b2) = 0; rw [← t3]; exact c207)⟩ rfl
                                        · refine q_iload_n F dX9_round_180 3 rfl ?_
                                          refine q_bipush F dX9_round_181 (by decide) ?_
                                          refine q_idiv F dX9_round_183 (by omega) ?_
                                          refine q_bipush F dX9_round_184 (by decide) ?_
                                          refine q_irem F dX9_round_186 (by omega) ?_
                                          refine q_goto F 194 dX9_round_187 (by decide) ?_
                                          refine q_nm (fun v194 e194 => ?_)
                                          refine q_istore F dX9_round_194 [(14, .int (q_I v194)), (0, .ref (q_ad G 0)), (1, .int (q_I g)), (2, .int (q_I m)), (3, .int (q_I d)), (4, .int (q_I w)), (5, .int (q_I c)), (6, .int (q_I b)), (7, .int (q_I fi)), (8, .int (q_I y)), (9, .int (q_I v110)), (10, .int (q_I v119)), (11, .int (q_I k)), (12, .int (q_I v119)), (13, .int (q_I b2))] (Nat.le_of_ble_eq_true rfl) rfl ?_
                                          have hpo : v194 = q_dpo d b2 := by
                                            unfold q_dpo
                                            rw [if_neg c164, if_pos c177]; exact e194
                                          have hpR : 0 ≤ v194 ∧ v194 ≤ 9 := by omega
                                          refine q_iload F dX9_round_196 0 rfl ?_
                                          refine q_if_le F 219 dX9_round_198 (by decide) (by omega) (fun c198 => ?_) (fun c198 => ?_)
                                          · obtain ⟨v219, e219⟩ : ∃ z_ : Int, z_ = b2 + 1 := ⟨_, rfl⟩
                                            refine q_iinc F dX9_round_219 14 rfl e219 [(13, .int (q_I v219)), (14, .int (q_I v194)), (0, .ref (q_ad G 0)), (1, .int (q_I g)), (2, .int (q_I m)), (3, .int (q_I d)), (4, .int (q_I w)), (5, .int (q_I c)), (6, .int (q_I b)), (7, .int (q_I fi)), (8, .int (q_I y)), (9, .int (q_I v110)), (10, .int (q_I v119)), (11, .int (q_I k)), (12, .int (q_I v119))] (Nat.le_of_ble_eq_true rfl) rfl ?_
                                            refine q_goto F 156 dX9_round_222 (by decide) ?_
                                            refine q_drop [2, 3, 4, 5, 6, 7, 8, 9, 10, 11, 12, 13, 14, 0] rfl ?_
                                            exact ih156_7 _ (by omega) v219 M3 ⟨by omega, m2, m3, q_pc_mo m4 (by omega), by
                                                  rw [e219, show (b2 + 1).toNat = b2.toNat + 1 by omega, q_b3_s, Int.toNat_of_nonneg m1.1, ← hpo]
                                                  exact q_sR_bia0 m5 (fun h => by have := h.1; omega)⟩ rfl
                                          · refine q_aload_n F dX9_round_201 1 rfl ?_
                                            refine q_iload F dX9_round_202 14 rfl ?_
                                            refine q_callVP (n := 1) (T := TX9) F (c_X9_inHouse G hI M3 hm b2 m3 (by omega)) rfl rfl hm.1 gX9_round_X9_inHouse rfl ⟨by decide, by decide, by decide +kernel⟩ rfl ⟨rfl, rfl, Nat.le_of_ble_eq_true rfl, Nat.le_of_ble_eq_true rfl⟩ rfl (Nat.le_of_ble_eq_true rfl) dX9_round_204 (fun h204 => ?_)
                                            refine q_if_eq F 219 dX9_round_207 (by decide) (by omega) (fun c207 => ?_) (fun c207 => ?_)
                                            · obtain ⟨v219, e219⟩ : ∃ z_ : Int, z_ = b2 + 1 := ⟨_, rfl⟩
                                              refine q_iinc F dX9_round_219 14 rfl e219 [(13, .int (q_I v219)), (14, .int (q_I v194)), (0, .ref (q_ad G 0)), (1, .int (q_I g)), (2, .int (q_I m)), (3, .int (q_I d)), (4, .int (q_I w)), (5, .int (q_I c)), (6, .int (q_I b)), (7, .int (q_I fi)), (8, .int (q_I y)), (9, .int (q_I v110)), (10, .int (q_I v119)), (11, .int (q_I k)), (12, .int (q_I v119))] (Nat.le_of_ble_eq_true rfl) rfl ?_
                                              refine q_goto F 156 dX9_round_222 (by decide) ?_
                                              refine q_drop [2, 3, 4, 5, 6, 7, 8, 9, 10, 11, 12, 13, 14, 0] rfl ?_
                                              exact ih156_7 _ (by omega) v219 M3 ⟨by omega, m2, m3, q_pc_mo m4 (by omega), by
                                                    rw [e219, show (b2 + 1).toNat = b2.toNat + 1 by omega, q_b3_s, Int.toNat_of_nonneg m1.1, ← hpo]
                                                    exact q_sR_bia0 m5 (fun h => h.2 (by show q_set (q_ins (M3 9) (M 0 0) b2) = 0; rw [← t3]; exact c207))⟩ rfl
                                            · refine q_aload_n F dX9_round_210 1 rfl ?_
                                              refine q_iload F dX9_round_211 14 rfl ?_
                                              refine q_iload F dX9_round_213 0 rfl ?_
                                              refine q_callVI (n := 2) (T := TX9) F (c_X9_dish G hI M3 hm b2 v194 (3 * k + b2) m3 m4 (by omega) (by omega)) rfl rfl hm.1 gX9_round_X9_dish rfl ⟨by decide, by decide, by decide +kernel⟩ rfl ⟨rfl, rfl, Nat.le_of_ble_eq_true rfl, Nat.le_of_ble_eq_true rfl⟩ rfl (Nat.le_of_ble_eq_true rfl) dX9_round_215 (fun r215 N215 h215 p215 => ?_)
                                              obtain ⟨-, ⟨l, hl1, -⟩, hf1, hf2⟩ := p215
                                              have kz215 : q_kz M3 N215 := q_kz_dish hf1 hf2
                                              refine q_pop F dX9_round_218 rfl ?_
                                              obtain ⟨v219, e219⟩ : ∃ z_ : Int, z_ = b2 + 1 := ⟨_, rfl⟩
                                              refine q_iinc F dX9_round_219 14 rfl e219 [(13, .int (q_I v219)), (14, .int (q_I v194)), (0, .ref (q_ad G 0)), (1, .int (q_I g)), (2, .int (q_I m)), (3, .int (q_I d)), (4, .int (q_I w)), (5, .int (q_I c)), (6, .int (q_I b)), (7, .int (q_I fi)), (8, .int (q_I y)), (9, .int (q_I v110)), (10, .int (q_I v119)), (11, .int (q_I k)), (12, .int (q_I v119))] (Nat.le_of_ble_eq_true rfl) rfl ?_
                                              refine q_goto F 156 dX9_round_222 (by decide) ?_
                                              refine q_drop [2, 3, 4, 5, 6, 7, 8, 9, 10, 11, 12, 13, 14, 0] rfl ?_
                                              exact ih156_7 _ (by omega) v219 N215 ⟨by omega, q_kz_tr m2 kz215, q_zv_dish m3 kz215 hl1, by
                                                    have := q_pc_dish m4 hl1
                                                    rw [e219]
                                                    exact q_pc_mo this (by omega), by
                                                    rw [e219, show (b2 + 1).toNat = b2.toNat + 1 by omega, q_b3_s, Int.toNat_of_nonneg m1.1, ← hpo, hl1, t3, ke3]
                                                    exact q_sR_bia1 m5 (by omega) (by show ¬ q_set (q_ins (M3 9) (M 0 0) b2) = 0; rw [← t3]; exact c207)⟩ rfl
                                      · refine q_iload_n F dX9_round_167 3 rfl ?_
                                        refine q_bipush F dX9_round_168 (by decide) ?_
                                        refine q_idiv F dX9_round_170 (by omega) ?_
                                        refine q_goto F 194 dX9_round_171 (by decide) ?_
                                        refine q_nm (fun v194 e194 => ?_)
                                        refine q_istore F dX9_round_194 [(14, .int (q_I v194)), (0, .ref (q_ad G 0)), (1, .int (q_I g)), (2, .int (q_I m)), (3, .int (q_I d)), (4, .int (q_I w)), (5, .int (q_I c)), (6, .int (q_I b)), (7, .int (q_I fi)), (8, .int (q_I y)), (9, .int (q_I v110)), (10, .int (q_I v119)), (11, .int (q_I k)), (12, .int (q_I v119)), (13, .int (q_I b2))] (Nat.le_of_ble_eq_true rfl) rfl ?_
                                        have hpo : v194 = q_dpo d b2 := by
                                          unfold q_dpo
                                          rw [if_pos c164]; exact e194
                                        have hpR : 0 ≤ v194 ∧ v194 ≤ 9 := by omega
                                        refine q_iload F dX9_round_196 0 rfl ?_
                                        refine q_if_le F 219 dX9_round_198 (by decide) (by omega) (fun c198 => ?_) (fun c198 => ?_)
                                        · obtain ⟨v219, e219⟩ : ∃ z_ : Int, z_ = b2 + 1 := ⟨_, rfl⟩
                                          refine q_iinc F dX9_round_219 14 rfl e219 [(13, .int (q_I v219)), (14, .int (q_I v194)), (0, .ref (q_ad G 0)), (1, .int (q_I g)), (2, .int (q_I m)), (3, .int (q_I d)), (4, .int (q_I w)), (5, .int (q_I c)), (6, .int (q_I b)), (7, .int (q_I fi)), (8, .int (q_I y)), (9, .int (q_I v110)), (10, .int (q_I v119)), (11, .int (q_I k)), (12, .int (q_I v119))] (Nat.le_of_ble_eq_true rfl) rfl ?_
                                          refine q_goto F 156 dX9_round_222 (by decide) ?_
                                          refine q_drop [2, 3, 4, 5, 6, 7, 8, 9, 10, 11, 12, 13, 14, 0] rfl ?_
                                          exact ih156_7 _ (by omega) v219 M3 ⟨by omega, m2, m3, q_pc_mo m4 (by omega), by
                                                rw [e219, show (b2 + 1).toNat = b2.toNat + 1 by omega, q_b3_s, Int.toNat_of_nonneg m1.1, ← hpo]
                                                exact q_sR_bia0 m5 (fun h => by have := h.1; omega)⟩ rfl
                                        · refine q_aload_n F dX9_round_201 1 rfl ?_
                                          refine q_iload F dX9_round_202 14 rfl ?_
                                          refine q_callVP (n := 1) (T := TX9) F (c_X9_inHouse G hI M3 hm b2 m3 (by omega)) rfl rfl hm.1 gX9_round_X9_inHouse rfl ⟨by decide, by decide, by decide +kernel⟩ rfl ⟨rfl, rfl, Nat.le_of_ble_eq_true rfl, Nat.le_of_ble_eq_true rfl⟩ rfl (Nat.le_of_ble_eq_true rfl) dX9_round_204 (fun h204 => ?_)
                                          refine q_if_eq F 219 dX9_round_207 (by decide) (by omega) (fun c207 => ?_) (fun c207 => ?_)
                                          · obtain ⟨v219, e219⟩ : ∃ z_ : Int, z_ = b2 + 1 := ⟨_, rfl⟩
                                            refine q_iinc F dX9_round_219 14 rfl e219 [(13, .int (q_I v219)), (14, .int (q_I v194)), (0, .ref (q_ad G 0)), (1, .int (q_I g)), (2, .int (q_I m)), (3, .int (q_I d)), (4, .int (q_I w)), (5, .int (q_I c)), (6, .int (q_I b)), (7, .int (q_I fi)), (8, .int (q_I y)), (9, .int (q_I v110)), (10, .int (q_I v119)), (11, .int (q_I k)), (12, .int (q_I v119))] (Nat.le_of_ble_eq_true rfl) rfl ?_
                                            refine q_goto F 156 dX9_round_222 (by decide) ?_
                                            refine q_drop [2, 3, 4, 5, 6, 7, 8, 9, 10, 11, 12, 13, 14, 0] rfl ?_
                                            exact ih156_7 _ (by omega) v219 M3 ⟨by omega, m2, m3, q_pc_mo m4 (by omega), by
                                                  rw [e219, show (b2 + 1).toNat = b2.toNat + 1 by omega, q_b3_s, Int.toNat_of_nonneg m1.1, ← hpo]
                                                  exact q_sR_bia0 m5 (fun h => h.2 (by show q_set (q_ins (M3 9) (M 0 0) b2) = 0; rw [← t3]; exact c207))⟩ rfl
                                          · refine q_aload_n F dX9_round_210 1 rfl ?_
                                            refine q_iload F dX9_round_211 14 rfl ?_
                                            refine q_iload F dX9_round_213 0 rfl ?_
                                            refine q_callVI (n := 2) (T := TX9) F (c_X9_dish G hI M3 hm b2 v194 (3 * k + b2) m3 m4 (by omega) (by omega)) rfl rfl hm.1 gX9_round_X9_dish rfl ⟨by decide, by decide, by decide +kernel⟩ rfl ⟨rfl, rfl, Nat.le_of_ble_eq_true rfl, Nat.le_of_ble_eq_true rfl⟩ rfl (Nat.le_of_ble_eq_true rfl) dX9_round_215 (fun r215 N215 h215 p215 => ?_)
                                            obtain ⟨-, ⟨l, hl1, -⟩, hf1, hf2⟩ := p215
                                            have kz215 : q_kz M3 N215 := q_kz_dish hf1 hf2
                                            refine q_pop F dX9_round_218 rfl ?_
                                            obtain ⟨v219, e219⟩ : ∃ z_ : Int, z_ = b2 + 1 := ⟨_, rfl⟩
                                            refine q_iinc F dX9_round_219 14 rfl e219 [(13, .int (q_I v219)), (14, .int (q_I v194)), (0, .ref (q_ad G 0)), (1, .int (q_I g)), (2, .int (q_I m)), (3, .int (q_I d)), (4, .int (q_I w)), (5, .int (q_I c)), (6, .int (q_I b)), (7, .int (q_I fi)), (8, .int (q_I y)), (9, .int (q_I v110)), (10, .int (q_I v119)), (11, .int (q_I k)), (12, .int (q_I v119))] (Nat.le_of_ble_eq_true rfl) rfl ?_
                                            refine q_goto F 156 dX9_round_222 (by decide) ?_
                                            refine q_drop [2, 3, 4, 5, 6, 7, 8, 9, 10, 11, 12, 13, 14, 0] rfl ?_
                                            exact ih156_7 _ (by omega) v219 N215 ⟨by omega, q_kz_tr m2 kz215, q_zv_dish m3 kz215 hl1, by
                                                  have := q_pc_dish m4 hl1
                                                  rw [e219]
                                                  exact q_pc_mo this (by omega), by
                                                  rw [e219, show (b2 + 1).toNat = b2.toNat + 1 by omega, q_b3_s, Int.toNat_of_nonneg m1.1, ← hpo, hl1, t3, ke3]
                                                  exact q_sR_bia1 m5 (by omega) (by show ¬ q_set (q_ins (M3 9) (M 0 0) b2) = 0; rw [← t3]; exact c207)⟩ rfl
                                refine q_drop [4, 5, 6, 7, 8, 9, 10, 11, 12, 3, 1, 13, 2, 0] rfl ?_
                                exact lp156_7 _ 0 N150 ⟨by omega, hW0.1, hW0.2.1, q_pc_mo hW0.2.2.1 (by omega), hW0.2.2.2⟩ rfl
                      refine q_drop [3, 4, 5, 6, 7, 8, 9, 10, 11, 2, 1, 0] rfl ?_
                      exact lp100_3 _ c (-6) 0 N94 ⟨by omega, by rw [hC, show m - 0 = m by omega], rfl, kz94, zv94, pc94, sR94⟩ rfl
                refine q_drop [3, 4, 5, 6, 7, 8, 2, 1, 0] rfl ?_
                exact lp78_2 _ 1000000 (-6) 0 M ⟨by omega, by omega, by omega, rfl, q_kz_rf⟩ rfl
              · refine q_iload F dX9_round_55 5 rfl ?_
                refine q_iconst F dX9_round_57 ?_
                refine q_imul F dX9_round_58 ?_
                refine q_nm (fun v59 e59 => ?_)
                refine q_istore F dX9_round_59 [(5, .int (q_I v59)), (0, .ref (q_ad G 0)), (1, .int (q_I g)), (2, .int (q_I m)), (3, .int (q_I d)), (4, .int (q_I w)), (6, .int (q_I k0))] (Nat.le_of_ble_eq_true rfl) rfl ?_
                obtain ⟨v61, e61⟩ : ∃ z_ : Int, z_ = k0 + 1 := ⟨_, rfl⟩
                refine q_iinc F dX9_round_61 6 rfl e61 [(6, .int (q_I v61)), (5, .int (q_I v59)), (0, .ref (q_ad G 0)), (1, .int (q_I g)), (2, .int (q_I m)), (3, .int (q_I d)), (4, .int (q_I w))] (Nat.le_of_ble_eq_true rfl) rfl ?_
                refine q_goto F 49 dX9_round_64 (by decide) ?_
                refine q_drop [2, 3, 4, 5, 6, 1, 0] rfl ?_
                exact ih49_1 _ (by omega) v59 v61 ⟨by omega, by rw [e59, hi49.2, show v61.toNat = k0.toNat + 1 by omega]; rfl⟩ rfl
          refine q_drop [2, 3, 4, 5, 6, 1, 0] rfl ?_
          exact lp49_1 _ 1 0 ⟨by omega, rfl⟩ rfl
        · refine q_bipush F dX9_round_40 (by decide) ?_
          exact q_iret F FI dX9_round_42 (by omega) ⟨by unfold S_round; rw [if_pos c5, if_neg (fun h => absurd h.2.2 (q_df c37))], q_kz_rf⟩
  · refine q_iconst F dX9_round_8 ?_
    exact q_iret F FI dX9_round_9 (by omega) ⟨by unfold S_round; rw [if_neg (by simp [c5])], q_kz_rf⟩

set_option maxHeartbeats 4000000 in
set_option maxRecDepth 100000 in
theorem c_X9_rules (G : q_G) (hI : q_inj G) (M : q_M) (hm : q_mo G) (pl : Int) (p : Int) (ru : Int) (w : Int) (hplR : -2147483648 ≤ pl ∧ pl ≤ 2147483647) (hpR : -2147483648 ≤ p ∧ p ≤ 2147483647) (hruR : -2147483648 ≤ ru ∧ ru ≤ 2147483647) (hwR : -2147483648 ≤ w ∧ w ≤ 2147483647) (hZ : q_Z M) : q_CI G yX9_rules wsX9_rules ({ frames := 3, cells := 0, slots := 0, locals := 71 } : Room) [.ref (q_ad G 0), .int (q_I pl), .int (q_I p), .int (q_I ru), .int (q_I w)] M (fun z M' => z = S_rules (M 1) (M 2) (M 3) (M 0 0) (M 0 4) pl p ru w ∧ q_kz M M') := by
  refine q_CI.of hI (by decide) rfl RX9 rfl [(0, .ref (q_ad G 0)), (1, .int (q_I pl)), (2, .int (q_I p)), (3, .int (q_I ru)), (4, .int (q_I w))] rfl (Nat.le_of_ble_eq_true rfl) (fun E F FI => ?_)
  have huX9 : ∀ w ∈ wsX90, w ∈ wsX9_rules := by decide +kernel
  refine q_MRof (fun hM => ?_)
  obtain ⟨⟨xt, xk⟩, ⟨xh, xf, xa⟩, xF, xs, xp⟩ := id hZ
  have hz := hZ.1
  refine q_iload_n F dX9_rules_0 1 rfl ?_
  refine q_iconst F dX9_rules_1 ?_
  refine q_iconst F dX9_rules_2 ?_
  refine q_callSP (n := 3) F (c_X9_in G hI M pl 0 2 (by omega)) rfl gX9_rules_X9_in ⟨by decide, by decide, by decide +kernel⟩ rfl ⟨rfl, rfl, Nat.le_of_ble_eq_true rfl, Nat.le_of_ble_eq_true rfl⟩ rfl (Nat.le_of_ble_eq_true rfl) dX9_rules_3 (fun h3 => ?_)
  refine q_ifb_ne F 11 dX9_rules_6 (by decide) (fun c6 => ?_) (fun c6 => ?_)
  · have d1 := q_dt c6
    refine q_iload_n F dX9_rules_11 2 rfl ?_
    refine q_iconst F dX9_rules_12 ?_
    refine q_bipush F dX9_rules_13 (by decide) ?_
    refine q_callSP (n := 3) F (c_X9_in G hI M p 1 9 (by omega)) rfl gX9_rules_X9_in ⟨by decide, by decide, by decide +kernel⟩ rfl ⟨rfl, rfl, Nat.le_of_ble_eq_true rfl, Nat.le_of_ble_eq_true rfl⟩ rfl (Nat.le_of_ble_eq_true rfl) dX9_rules_15 (fun h15 => ?_)
    refine q_ifb_eq F 40 dX9_rules_18 (by decide) (fun c18 => ?_) (fun c18 => ?_)
    · refine q_bipush F dX9_rules_40 (by decide) ?_
      exact q_iret F FI dX9_rules_42 (by omega) ⟨by unfold S_rules; rw [if_pos (q_dt c6), if_neg (fun h => absurd h.1 (q_df c18))], q_kz_rf⟩
    · refine q_iload_n F dX9_rules_21 3 rfl ?_
      refine q_iconst F dX9_rules_22 ?_
      refine q_iconst F dX9_rules_23 ?_
      refine q_callSP (n := 3) F (c_X9_in G hI M ru 0 2 (by omega)) rfl gX9_rules_X9_in ⟨by decide, by decide, by decide +kernel⟩ rfl ⟨rfl, rfl, Nat.le_of_ble_eq_true rfl, Nat.le_of_ble_eq_true rfl⟩ rfl (Nat.le_of_ble_eq_true rfl) dX9_rules_24 (fun h24 => ?_)
      refine q_ifb_eq F 40 dX9_rules_27 (by decide) (fun c27 => ?_) (fun c27 => ?_)
      · refine q_bipush F dX9_rules_40 (by decide) ?_
        exact q_iret F FI dX9_rules_42 (by omega) ⟨by unfold S_rules; rw [if_pos (q_dt c6), if_neg (fun h => absurd h.2.1 (q_df c27))], q_kz_rf⟩
      · refine q_iload F dX9_rules_30 4 rfl ?_
        refine q_iconst F dX9_rules_32 ?_
        refine q_iconst F dX9_rules_33 ?_
        refine q_callSP (n := 3) F (c_X9_in G hI M w 0 1 (by omega)) rfl gX9_rules_X9_in ⟨by decide, by decide, by decide +kernel⟩ rfl ⟨rfl, rfl, Nat.le_of_ble_eq_true rfl, Nat.le_of_ble_eq_true rfl⟩ rfl (Nat.le_of_ble_eq_true rfl) dX9_rules_34 (fun h34 => ?_)
        refine q_ifb_ne F 43 dX9_rules_37 (by decide) (fun c37 => ?_) (fun c37 => ?_)
        · have d2 := q_dt c18
          have d3 := q_dt c27
          have d4 := q_dt c37
          refine q_aload_n F dX9_rules_43 0 rfl ?_
          refine q_callVV (n := 0) (T := TX9) F (c_X9_asNow G hI M hm) rfl rfl hm.1 gX9_rules_X9_asNow rfl ⟨by decide, by decide, by decide +kernel⟩ rfl ⟨rfl, rfl, Nat.le_of_ble_eq_true rfl, Nat.le_of_ble_eq_true rfl⟩ rfl (Nat.le_of_ble_eq_true rfl) dX9_rules_44 (fun N44 p44 => ?_)
          have zv44 := q_an_zv p44 hZ
          refine q_aload_n F dX9_rules_47 0 rfl ?_
          refine q_iload_n F dX9_rules_48 1 rfl ?_
          refine q_iload_n F dX9_rules_49 2 rfl ?_
          refine q_iload_n F dX9_rules_50 3 rfl ?_
          refine q_callVP (n := 3) (T := TX9) F (c_X9_servedBy G hI N44 hm pl p ru zv44 (by omega)) rfl rfl hm.1 gX9_rules_X9_servedBy rfl ⟨by decide, by decide, by decide +kernel⟩ rfl ⟨rfl, rfl, Nat.le_of_ble_eq_true rfl, Nat.le_of_ble_eq_true rfl⟩ rfl (Nat.le_of_ble_eq_true rfl) dX9_rules_51 (fun h51 => ?_)
          refine q_nm (fun v54 e54 => ?_)
          refine q_istore F dX9_rules_54 [(5, .int (q_I v54)), (0, .ref (q_ad G 0)), (1, .int (q_I pl)), (2, .int (q_I p)), (3, .int (q_I ru)), (4, .int (q_I w))] (Nat.le_of_ble_eq_true rfl) rfl ?_
          have hv54 : 0 ≤ v54 ∧ v54 ≤ 63 := by rw [e54]; exact q_set_R _
          have hR : ∀ x, 0 ≤ x → x < 6 → 0 ≤ (fun x => if q_ins (N44 9) (N44 0 0) pl x = true then q_left (N44 7) v54 x else 0) x ∧ (fun x => if q_ins (N44 9) (N44 0 0) pl x = true then q_left (N44 7) v54 x else 0) x ≤ 20 := fun x h0 h1 => by
            have := q_left_R (s := v54) zv44.2.1 h0 h1
            show 0 ≤ (if q_ins (N44 9) (N44 0 0) pl x = true then q_left (N44 7) v54 x else 0) ∧ (if q_ins (N44 9) (N44 0 0) pl x = true then q_left (N44 7) v54 x else 0) ≤ 20
            split <;> omega
          have hres := q_rules9 (w := w) p44 e54 d1 ⟨d2, d3, d4⟩
          refine q_iconst F dX9_rules_56 ?_
          refine q_istore F dX9_rules_57 [(6, .int (q_I 0)), (5, .int (q_I v54)), (0, .ref (q_ad G 0)), (1, .int (q_I pl)), (2, .int (q_I p)), (3, .int (q_I ru)), (4, .int (q_I w))] (Nat.le_of_ble_eq_true rfl) rfl ?_
          refine q_iconst F dX9_rules_59 ?_
          refine q_istore F dX9_rules_60 [(7, .int (q_I 0)), (6, .int (q_I 0)), (5, .int (q_I v54)), (0, .ref (q_ad G 0)), (1, .int (q_I pl)), (2, .int (q_I p)), (3, .int (q_I ru)), (4, .int (q_I w))] (Nat.le_of_ble_eq_true rfl) rfl ?_
          refine q_iconst F dX9_rules_62 ?_
          refine q_istore F dX9_rules_63 [(8, .int (q_I 0)), (7, .int (q_I 0)), (6, .int (q_I 0)), (5, .int (q_I v54)), (0, .ref (q_ad G 0)), (1, .int (q_I pl)), (2, .int (q_I p)), (3, .int (q_I ru)), (4, .int (q_I w))] (Nat.le_of_ble_eq_true rfl) rfl ?_
          have lp65_1 : ∀ (k65_1 : Nat) (sm : Int) (mo : Int) (x : Int), ((0 ≤ x ∧ x ≤ 6) ∧ sm = q_s6 (q_lz (fun x => if q_ins (N44 9) (N44 0 0) pl x = true then q_left (N44 7) v54 x else 0) x) ∧ mo = q_m6 (q_lz (fun x => if q_ins (N44 9) (N44 0 0) pl x = true then q_left (N44 7) v54 x else 0) x)) → (6 - x).toNat = k65_1 → q_Y G E 10 N44 [(0, .ref (q_ad G 0)), (1, .int (q_I pl)), (2, .int (q_I p)), (3, .int (q_I ru)), (4, .int (q_I w)), (5, .int (q_I v54)), (6, .int (q_I sm)), (7, .int (q_I mo)), (8, .int (q_I x))] 65 [] := by
            intro k65_1
            induction k65_1 using Nat.strongRecOn with
            | _ k65_1 ih65_1 =>
              intro sm mo x   hi65 hk65
              obtain ⟨i1, i2, i3⟩ := id hi65
              have hsm := q_s6_B (f := (fun x => if q_ins (N44 9) (N44 0 0) pl x = true then q_left (N44 7) v54 x else 0)) (g := x) hR
              rw [← i2] at hsm
              have hmo := q_m6_B (f := (fun x => if q_ins (N44 9) (N44 0 0) pl x = true then q_left (N44 7) v54 x else 0)) (g := x) hR
              rw [← i3] at hmo
              have hnx : 0 ≤ x → x < 6 → _ := zv44.2.1 x
              refine q_iload F dX9_rules_65 8 rfl ?_
              refine q_bipush F dX9_rules_67 (by decide) ?_
              refine q_icmp_ge F 171 dX9_rules_69 (by decide) (by omega) (fun c69 => ?_) (fun c69 => ?_)
              · refine q_iload F dX9_rules_171 4 rfl ?_
                refine q_if_ne F 181 dX9_rules_173 (by decide) (by omega) (fun c173 => ?_) (fun c173 => ?_)
                · refine q_iload F dX9_rules_181 7 rfl ?_
                  exact q_iret F FI dX9_rules_183 (by omega) ⟨by rw [hres, if_neg c173, i3, show x = 6 by omega, q_m6_6], q_an_kz p44⟩
                · refine q_iload F dX9_rules_176 6 rfl ?_
                  refine q_goto F 183 dX9_rules_178 (by decide) ?_
                  exact q_iret F FI dX9_rules_183 (by omega) ⟨by rw [hres, if_pos c173, i2, show x = 6 by omega, q_s6_6], q_an_kz p44⟩
              · refine q_iload F dX9_rules_72 5 rfl ?_
                refine q_iload F dX9_rules_74 8 rfl ?_
                refine q_callSP (n := 2) F (c_X9_has G hI N44 v54 x (by omega)) rfl gX9_rules_X9_has ⟨by decide, by decide, by decide +kernel⟩ rfl ⟨rfl, rfl, Nat.le_of_ble_eq_true rfl, Nat.le_of_ble_eq_true rfl⟩ rfl (Nat.le_of_ble_eq_true rfl) dX9_rules_76 (fun h76 => ?_)
                refine q_ifb_ne F 92 dX9_rules_79 (by decide) (fun c79 => ?_) (fun c79 => ?_)
                · refine q_aload_n F dX9_rules_92 0 rfl ?_
                  refine q_getr (T := TX9) (ref := "LeastHungryModel") F huX9 rfl hm.1 10 (by decide) (by decide +kernel) rfl rfl dX9_rules_93 ?_
                  refine q_iload F dX9_rules_96 8 rfl ?_
                  refine q_iald F hm.2.2.2.2.2.2.2.1 (Nat.le_of_ble_eq_true rfl) (by omega) dX9_rules_98 (fun h98 => ?_)
                  refine q_iconst F dX9_rules_99 ?_
                  refine q_icmp_le F 115 dX9_rules_100 (by decide) (by omega) (fun c100 => ?_) (fun c100 => ?_)
                  · refine q_iconst F dX9_rules_115 ?_
                    refine q_istore F dX9_rules_116 [(9, .int (q_I 0)), (0, .ref (q_ad G 0)), (1, .int (q_I pl)), (2, .int (q_I p)), (3, .int (q_I ru)), (4, .int (q_I w)), (5, .int (q_I v54)), (6, .int (q_I sm)), (7, .int (q_I mo)), (8, .int (q_I x))] (Nat.le_of_ble_eq_true rfl) rfl ?_
                    have hlf : q_left (N44 7) v54 x = 0 := by
                      unfold q_left
                      rw [if_pos c79]
                      omega
                    refine q_iload F dX9_rules_118 7 rfl ?_
                    refine q_aload_n F dX9_rules_120 1 rfl ?_
                    refine q_iload F dX9_rules_121 9 rfl ?_
                    refine q_iload_n F dX9_rules_123 2 rfl ?_
                    refine q_callVP (n := 2) (T := TX9) F (c_X9_isIn G hI N44 hm x pl zv44 (by omega) (by omega)) rfl rfl hm.1 gX9_rules_X9_isIn rfl ⟨by decide, by decide, by decide +kernel⟩ rfl ⟨rfl, rfl, Nat.le_of_ble_eq_true rfl, Nat.le_of_ble_eq_true rfl⟩ rfl (Nat.le_of_ble_eq_true rfl) dX9_rules_124 (fun h124 => ?_)
                    refine q_ifb_eq F 135 dX9_rules_127 (by decide) (fun c127 => ?_) (fun c127 => ?_)
                    · refine q_iconst F dX9_rules_135 ?_
                      refine q_iadd F dX9_rules_136 ?_
                      refine q_nm (fun v137 e137 => ?_)
                      refine q_istore F dX9_rules_137 [(6, .int (q_I v137)), (9, .int (q_I 0)), (0, .ref (q_ad G 0)), (1, .int (q_I pl)), (2, .int (q_I p)), (3, .int (q_I ru)), (4, .int (q_I w)), (5, .int (q_I v54)), (7, .int (q_I mo)), (8, .int (q_I x))] (Nat.le_of_ble_eq_true rfl) rfl ?_
                      refine q_aload_n F dX9_rules_139 2 rfl ?_
                      refine q_iload F dX9_rules_140 9 rfl ?_
                      refine q_iload_n F dX9_rules_142 3 rfl ?_
                      refine q_callVP (n := 2) (T := TX9) F (c_X9_isIn G hI N44 hm x pl zv44 (by omega) (by omega)) rfl rfl hm.1 gX9_rules_X9_isIn rfl ⟨by decide, by decide, by decide +kernel⟩ rfl ⟨rfl, rfl, Nat.le_of_ble_eq_true rfl, Nat.le_of_ble_eq_true rfl⟩ rfl (Nat.le_of_ble_eq_true rfl) dX9_rules_143 (fun h143 => ?_)
                      refine q_ifb_eq F 161 dX9_rules_146 (by decide) (fun c146 => ?_) (fun c146 => ?_)
                      rotate_left
                      · exact absurd (c127.symm.trans c146) (by decide)
                      refine q_iload F dX9_rules_161 8 rfl ?_
                      refine q_istore F dX9_rules_163 [(7, .int (q_I mo)), (6, .int (q_I v137)), (9, .int (q_I 0)), (0, .ref (q_ad G 0)), (1, .int (q_I pl)), (2, .int (q_I p)), (3, .int (q_I ru)), (4, .int (q_I w)), (5, .int (q_I v54)), (8, .int (q_I x))] (Nat.le_of_ble_eq_true rfl) rfl ?_
                      obtain ⟨v165, e165⟩ : ∃ z_ : Int, z_ = x + 1 := ⟨_, rfl⟩
                      refine q_iinc F dX9_rules_165 9 rfl e165 [(8, .int (q_I v165)), (7, .int (q_I mo)), (6, .int (q_I v137)), (9, .int (q_I 0)), (0, .ref (q_ad G 0)), (1, .int (q_I pl)), (2, .int (q_I p)), (3, .int (q_I ru)), (4, .int (q_I w)), (5, .int (q_I v54))] (Nat.le_of_ble_eq_true rfl) rfl ?_
                      refine q_goto F 65 dX9_rules_168 (by decide) ?_
                      refine q_drop [4, 5, 6, 7, 8, 9, 2, 1, 0] rfl ?_
                      exact ih65_1 _ (by omega) v137 mo v165 ⟨by omega, by
                            have hfx : (if q_ins (N44 9) (N44 0 0) pl x = true then q_left (N44 7) v54 x else 0) = 0 := by
                              rw [c127]
                              rfl
                            have hst := q_s6_step (fun x => if q_ins (N44 9) (N44 0 0) pl x = true then q_left (N44 7) v54 x else 0) (g := x) (by omega) (by omega)
                            rw [hfx, ← i2] at hst
                            rw [e165, hst, e137], by
                            have hfx : (if q_ins (N44 9) (N44 0 0) pl x = true then q_left (N44 7) v54 x else 0) = 0 := by
                              rw [c127]
                              rfl
                            have hst := q_m6_step (fun x => if q_ins (N44 9) (N44 0 0) pl x = true then q_left (N44 7) v54 x else 0) (g := x) (fun x h0 h1 => (hR x h0 h1).1) (by omega) (by omega)
                            rw [hfx, ← i3] at hst
                            rw [e165, hst]
                            omega⟩ rfl
                    · refine q_iload F dX9_rules_130 0 rfl ?_
                      refine q_goto F 136 dX9_rules_132 (by decide) ?_
                      refine q_iadd F dX9_rules_136 ?_
                      refine q_nm (fun v137 e137 => ?_)
                      refine q_istore F dX9_rules_137 [(6, .int (q_I v137)), (9, .int (q_I 0)), (0, .ref (q_ad G 0)), (1, .int (q_I pl)), (2, .int (q_I p)), (3, .int (q_I ru)), (4, .int (q_I w)), (5, .int (q_I v54)), (7, .int (q_I mo)), (8, .int (q_I x))] (Nat.le_of_ble_eq_true rfl) rfl ?_
                      refine q_aload_n F dX9_rules_139 2 rfl ?_
                      refine q_iload F dX9_rules_140 9 rfl ?_
                      refine q_iload_n F dX9_rules_142 3 rfl ?_
                      refine q_callVP (n := 2) (T := TX9) F (c_X9_isIn G hI N44 hm x pl zv44 (by omega) (by omega)) rfl rfl hm.1 gX9_rules_X9_isIn rfl ⟨by decide, by decide, by decide +kernel⟩ rfl ⟨rfl, rfl, Nat.le_of_ble_eq_true rfl, Nat.le_of_ble_eq_true rfl⟩ rfl (Nat.le_of_ble_eq_true rfl) dX9_rules_143 (fun h143 => ?_)
                      refine q_ifb_eq F 161 dX9_rules_146 (by decide) (fun c146 => ?_) (fun c146 => ?_)
                      · exact absurd (c127.symm.trans c146) (by decide)
                      refine q_iload F dX9_rules_149 1 rfl ?_
                      refine q_iload F dX9_rules_151 8 rfl ?_
                      refine q_icmp_le F 161 dX9_rules_153 (by decide) (by omega) (fun c153 => ?_) (fun c153 => ?_)
                      · refine q_iload F dX9_rules_161 8 rfl ?_
                        refine q_istore F dX9_rules_163 [(7, .int (q_I mo)), (6, .int (q_I v137)), (9, .int (q_I 0)), (0, .ref (q_ad G 0)), (1, .int (q_I pl)), (2, .int (q_I p)), (3, .int (q_I ru)), (4, .int (q_I w)), (5, .int (q_I v54)), (8, .int (q_I x))] (Nat.le_of_ble_eq_true rfl) rfl ?_
                        obtain ⟨v165, e165⟩ : ∃ z_ : Int, z_ = x + 1 := ⟨_, rfl⟩
                        refine q_iinc F dX9_rules_165 9 rfl e165 [(8, .int (q_I v165)), (7, .int (q_I mo)), (6, .int (q_I v137)), (9, .int (q_I 0)), (0, .ref (q_ad G 0)), (1, .int (q_I pl)), (2, .int (q_I p)), (3, .int (q_I ru)), (4, .int (q_I w)), (5, .int (q_I v54))] (Nat.le_of_ble_eq_true rfl) rfl ?_
                        refine q_goto F 65 dX9_rules_168 (by decide) ?_
                        refine q_drop [4, 5, 6, 7, 8, 9, 2, 1, 0] rfl ?_
                        exact ih65_1 _ (by omega) v137 mo v165 ⟨by omega, by
                              have hfx : (if q_ins (N44 9) (N44 0 0) pl x = true then q_left (N44 7) v54 x else 0) = 0 := by
                                rw [c127, if_pos rfl, hlf]
                              have hst := q_s6_step (fun x => if q_ins (N44 9) (N44 0 0) pl x = true then q_left (N44 7) v54 x else 0) (g := x) (by omega) (by omega)
                              rw [hfx, ← i2] at hst
                              rw [e165, hst, e137], by
                              have hfx : (if q_ins (N44 9) (N44 0 0) pl x = true then q_left (N44 7) v54 x else 0) = 0 := by
                                rw [c127, if_pos rfl, hlf]
                              have hst := q_m6_step (fun x => if q_ins (N44 9) (N44 0 0) pl x = true then q_left (N44 7) v54 x else 0) (g := x) (fun x h0 h1 => (hR x h0 h1).1) (by omega) (by omega)
                              rw [hfx, ← i3] at hst
                              rw [e165, hst]
                              omega⟩ rfl
                      · refine q_iload F dX9_rules_156 1 rfl ?_
                        refine q_goto F 163 dX9_rules_158 (by decide) ?_
                        refine q_istore F dX9_rules_163 [(7, .int (q_I 0)), (6, .int (q_I v137)), (9, .int (q_I 0)), (0, .ref (q_ad G 0)), (1, .int (q_I pl)), (2, .int (q_I p)), (3, .int (q_I ru)), (4, .int (q_I w)), (5, .int (q_I v54)), (8, .int (q_I x))] (Nat.le_of_ble_eq_true rfl) rfl ?_
                        obtain ⟨v165, e165⟩ : ∃ z_ : Int, z_ = x + 1 := ⟨_, rfl⟩
                        refine q_iinc F dX9_rules_165 9 rfl e165 [(8, .int (q_I v165)), (7, .int (q_I 0)), (6, .int (q_I v137)), (9, .int (q_I 0)), (0, .ref (q_ad G 0)), (1, .int (q_I pl)), (2, .int (q_I p)), (3, .int (q_I ru)), (4, .int (q_I w)), (5, .int (q_I v54))] (Nat.le_of_ble_eq_true rfl) rfl ?_
                        refine q_goto F 65 dX9_rules_168 (by decide) ?_
                        refine q_drop [4, 5, 6, 7, 8, 9, 2, 1, 0] rfl ?_
                        exact ih65_1 _ (by omega) v137 0 v165 ⟨by omega, by
                              have hfx : (if q_ins (N44 9) (N44 0 0) pl x = true then q_left (N44 7) v54 x else 0) = 0 := by
                                rw [c127, if_pos rfl, hlf]
                              have hst := q_s6_step (fun x => if q_ins (N44 9) (N44 0 0) pl x = true then q_left (N44 7) v54 x else 0) (g := x) (by omega) (by omega)
                              rw [hfx, ← i2] at hst
                              rw [e165, hst, e137], by
                              have hfx : (if q_ins (N44 9) (N44 0 0) pl x = true then q_left (N44 7) v54 x else 0) = 0 := by
                                rw [c127, if_pos rfl, hlf]
                              have hst := q_m6_step (fun x => if q_ins (N44 9) (N44 0 0) pl x = true then q_left (N44 7) v54 x else 0) (g := x) (fun x h0 h1 => (hR x h0 h1).1) (by omega) (by omega)
                              rw [hfx, ← i3] at hst
                              rw [e165, hst]
                              omega⟩ rfl
                  · refine q_aload_n F dX9_rules_103 0 rfl ?_
                    refine q_getr (T := TX9) (ref := "LeastHungryModel") F huX9 rfl hm.1 10 (by decide) (by decide +kernel) rfl rfl dX9_rules_104 ?_
                    refine q_iload F dX9_rules_107 8 rfl ?_
                    refine q_iald F hm.2.2.2.2.2.2.2.1 (Nat.le_of_ble_eq_true rfl) (by omega) dX9_rules_109 (fun h109 => ?_)
                    refine q_iconst F dX9_rules_110 ?_
                    refine q_isub F dX9_rules_111 ?_
                    refine q_goto F 116 dX9_rules_112 (by decide) ?_
                    refine q_nm (fun v116 e116 => ?_)
                    refine q_istore F dX9_rules_116 [(9, .int (q_I v116)), (0, .ref (q_ad G 0)), (1, .int (q_I pl)), (2, .int (q_I p)), (3, .int (q_I ru)), (4, .int (q_I w)), (5, .int (q_I v54)), (6, .int (q_I sm)), (7, .int (q_I mo)), (8, .int (q_I x))] (Nat.le_of_ble_eq_true rfl) rfl ?_
                    have hlf : q_left (N44 7) v54 x = v116 := by
                      unfold q_left
                      rw [if_pos c79, e116]; omega
                    have hlR := q_left_R (s := v54) zv44.2.1 i1.1 c69
                    rw [hlf] at hlR
                    refine q_iload F dX9_rules_118 7 rfl ?_
                    refine q_aload_n F dX9_rules_120 1 rfl ?_
                    refine q_iload F dX9_rules_121 9 rfl ?_
                    refine q_iload_n F dX9_rules_123 2 rfl ?_
                    refine q_callVP (n := 2) (T := TX9) F (c_X9_isIn G hI N44 hm x pl zv44 (by omega) (by omega)) rfl rfl hm.1 gX9_rules_X9_isIn rfl ⟨by decide, by decide, by decide +kernel⟩ rfl ⟨rfl, rfl, Nat.le_of_ble_eq_true rfl, Nat.le_of_ble_eq_true rfl⟩ rfl (Nat.le_of_ble_eq_true rfl) dX9_rules_124 (fun h124 => ?_)
                    refine q_ifb_eq F 135 dX9_rules_127 (by decide) (fun c127 => ?_) (fun c127 => ?_)
                    · refine q_iconst F dX9_rules_135 ?_
                      refine q_iadd F dX9_rules_136 ?_
                      refine q_nm (fun v137 e137 => ?_)
                      refine q_istore F dX9_rules_137 [(6, .int (q_I v137)), (9, .int (q_I v116)), (0, .ref (q_ad G 0)), (1, .int (q_I pl)), (2, .int (q_I p)), (3, .int (q_I ru)), (4, .int (q_I w)), (5, .int (q_I v54)), (7, .int (q_I mo)), (8, .int (q_I x))] (Nat.le_of_ble_eq_true rfl) rfl ?_
                      refine q_aload_n F dX9_rules_139 2 rfl ?_
                      refine q_iload F dX9_rules_140 9 rfl ?_
                      refine q_iload_n F dX9_rules_142 3 rfl ?_
                      refine q_callVP (n := 2) (T := TX9) F (c_X9_isIn G hI N44 hm x pl zv44 (by omega) (by omega)) rfl rfl hm.1 gX9_rules_X9_isIn rfl ⟨by decide, by decide, by decide +kernel⟩ rfl ⟨rfl, rfl, Nat.le_of_ble_eq_true rfl, Nat.le_of_ble_eq_true rfl⟩ rfl (Nat.le_of_ble_eq_true rfl) dX9_rules_143 (fun h143 => ?_)
                      refine q_ifb_eq F 161 dX9_rules_146 (by decide) (fun c146 => ?_) (fun c146 => ?_)
                      rotate_left
                      · exact absurd (c127.symm.trans c146) (by decide)
                      refine q_iload F dX9_rules_161 8 rfl ?_
                      refine q_istore F dX9_rules_163 [(7, .int (q_I mo)), (6, .int (q_I v137)), (9, .int (q_I v116)), (0, .ref (q_ad G 0)), (1, .int (q_I pl)), (2, .int (q_I p)), (3, .int (q_I ru)), (4, .int (q_I w)), (5, .int (q_I v54)), (8, .int (q_I x))] (Nat.le_of_ble_eq_true rfl) rfl ?_
                      obtain ⟨v165, e165⟩ : ∃ z_ : Int, z_ = x + 1 := ⟨_, rfl⟩
                      refine q_iinc F dX9_rules_165 9 rfl e165 [(8, .int (q_I v165)), (7, .int (q_I mo)), (6, .int (q_I v137)), (9, .int (q_I v116)), (0, .ref (q_ad G 0)), (1, .int (q_I pl)), (2, .int (q_I p)), (3, .int (q_I ru)), (4, .int (q_I w)), (5, .int (q_I v54))] (Nat.le_of_ble_eq_true rfl) rfl ?_
                      refine q_goto F 65 dX9_rules_168 (by decide) ?_
                      refine q_drop [4, 5, 6, 7, 8, 9, 2, 1, 0] rfl ?_
                      exact ih65_1 _ (by omega) v137 mo v165 ⟨by omega, by
                            have hfx : (if q_ins (N44 9) (N44 0 0) pl x = true then q_left (N44 7) v54 x else 0) = 0 := by
                              rw [c127]
                              rfl
                            have hst := q_s6_step (fun x => if q_ins (N44 9) (N44 0 0) pl x = true then q_left (N44 7) v54 x else 0) (g := x) (by omega) (by omega)
                            rw [hfx, ← i2] at hst
                            rw [e165, hst, e137], by
                            have hfx : (if q_ins (N44 9) (N44 0 0) pl x = true then q_left (N44 7) v54 x else 0) = 0 := by
                              rw [c127]
                              rfl
                            have hst := q_m6_step (fun x => if q_ins (N44 9) (N44 0 0) pl x = true then q_left (N44 7) v54 x else 0) (g := x) (fun x h0 h1 => (hR x h0 h1).1) (by omega) (by omega)
                            rw [hfx, ← i3] at hst
                            rw [e165, hst]
                            omega⟩ rfl
                    · refine q_iload F dX9_rules_130 0 rfl ?_
                      refine q_goto F 136 dX9_rules_132 (by decide) ?_
                      refine q_iadd F dX9_rules_136 ?_
                      refine q_nm (fun v137 e137 => ?_)
                      refine q_istore F dX9_rules_137 [(6, .int (q_I v137)), (9, .int (q_I v116)), (0, .ref (q_ad G 0)), (1, .int (q_I pl)), (2, .int (q_I p)), (3, .int (q_I ru)), (4, .int (q_I w)), (5, .int (q_I v54)), (7, .int (q_I mo)), (8, .int (q_I x))] (Nat.le_of_ble_eq_true rfl) rfl ?_
                      refine q_aload_n F dX9_rules_139 2 rfl ?_
                      refine q_iload F dX9_rules_140 9 rfl ?_
                      refine q_iload_n F dX9_rules_142 3 rfl ?_
                      refine q_callVP (n := 2) (T := TX9) F (c_X9_isIn G hI N44 hm x pl zv44 (by omega) (by omega)) rfl rfl hm.1 gX9_rules_X9_isIn rfl ⟨by decide, by decide, by decide +kernel⟩ rfl ⟨rfl, rfl, Nat.le_of_ble_eq_true rfl, Nat.le_of_ble_eq_true rfl⟩ rfl (Nat.le_of_ble_eq_true rfl) dX9_rules_143 (fun h143 => ?_)
                      refine q_ifb_eq F 161 dX9_rules_146 (by decide) (fun c146 => ?_) (fun c146 => ?_)
                      · exact absurd (c127.symm.trans c146) (by decide)
                      refine q_iload F dX9_rules_149 1 rfl ?_
                      refine q_iload F dX9_rules_151 8 rfl ?_
                      refine q_icmp_le F 161 dX9_rules_153 (by decide) (by omega) (fun c153 => ?_) (fun c153 => ?_)
                      · refine q_iload F dX9_rules_161 8 rfl ?_
                        refine q_istore F dX9_rules_163 [(7, .int (q_I mo)), (6, .int (q_I v137)), (9, .int (q_I v116)), (0, .ref (q_ad G 0)), (1, .int (q_I pl)), (2, .int (q_I p)), (3, .int (q_I ru)), (4, .int (q_I w)), (5, .int (q_I v54)), (8, .int (q_I x))] (Nat.le_of_ble_eq_true rfl) rfl ?_
                        obtain ⟨v165, e165⟩ : ∃ z_ : Int, z_ = x + 1 := ⟨_, rfl⟩
                        refine q_iinc F dX9_rules_165 9 rfl e165 [(8, .int (q_I v165)), (7, .int (q_I mo)), (6, .int (q_I v137)), (9, .int (q_I v116)), (0, .ref (q_ad G 0)), (1, .int (q_I pl)), (2, .int (q_I p)), (3, .int (q_I ru)), (4, .int (q_I w)), (5, .int (q_I v54))] (Nat.le_of_ble_eq_true rfl) rfl ?_
                        refine q_goto F 65 dX9_rules_168 (by decide) ?_
                        refine q_drop [4, 5, 6, 7, 8, 9, 2, 1, 0] rfl ?_
                        exact ih65_1 _ (by omega) v137 mo v165 ⟨by omega, by
                              have hfx : (if q_ins (N44 9) (N44 0 0) pl x = true then q_left (N44 7) v54 x else 0) = v116 := by
                                rw [c127, if_pos rfl, hlf]
                              have hst := q_s6_step (fun x => if q_ins (N44 9) (N44 0 0) pl x = true then q_left (N44 7) v54 x else 0) (g := x) (by omega) (by omega)
                              rw [hfx, ← i2] at hst
                              rw [e165, hst, e137], by
                              have hfx : (if q_ins (N44 9) (N44 0 0) pl x = true then q_left (N44 7) v54 x else 0) = v116 := by
                                rw [c127, if_pos rfl, hlf]
                              have hst := q_m6_step (fun x => if q_ins (N44 9) (N44 0 0) pl x = true then q_left (N44 7) v54 x else 0) (g := x) (fun x h0 h1 => (hR x h0 h1).1) (by omega) (by omega)
                              rw [hfx, ← i3] at hst
                              rw [e165, hst]
                              omega⟩ rfl
                      · refine q_iload F dX9_rules_156 1 rfl ?_
                        refine q_goto F 163 dX9_rules_158 (by decide) ?_
                        refine q_istore F dX9_rules_163 [(7, .int (q_I v116)), (6, .int (q_I v137)), (9, .int (q_I v116)), (0, .ref (q_ad G 0)), (1, .int (q_I pl)), (2, .int (q_I p)), (3, .int (q_I ru)), (4, .int (q_I w)), (5, .int (q_I v54)), (8, .int (q_I x))] (Nat.le_of_ble_eq_true rfl) rfl ?_
                        obtain ⟨v165, e165⟩ : ∃ z_ : Int, z_ = x + 1 := ⟨_, rfl⟩
                        refine q_iinc F dX9_rules_165 9 rfl e165 [(8, .int (q_I v165)), (7, .int (q_I v116)), (6, .int (q_I v137)), (9, .int (q_I v116)), (0, .ref (q_ad G 0)), (1, .int (q_I pl)), (2, .int (q_I p)), (3, .int (q_I ru)), (4, .int (q_I w)), (5, .int (q_I v54))] (Nat.le_of_ble_eq_true rfl) rfl ?_
                        refine q_goto F 65 dX9_rules_168 (by decide) ?_
                        refine q_drop [4, 5, 6, 7, 8, 9, 2, 1, 0] rfl ?_
                        exact ih65_1 _ (by omega) v137 v116 v165 ⟨by omega, by
                              have hfx : (if q_ins (N44 9) (N44 0 0) pl x = true then q_left (N44 7) v54 x else 0) = v116 := by
                                rw [c127, if_pos rfl, hlf]
                              have hst := q_s6_step (fun x => if q_ins (N44 9) (N44 0 0) pl x = true then q_left (N44 7) v54 x else 0) (g := x) (by omega) (by omega)
                              rw [hfx, ← i2] at hst
                              rw [e165, hst, e137], by
                              have hfx : (if q_ins (N44 9) (N44 0 0) pl x = true then q_left (N44 7) v54 x else 0) = v116 := by
                                rw [c127, if_pos rfl, hlf]
                              have hst := q_m6_step (fun x => if q_ins (N44 9) (N44 0 0) pl x = true then q_left (N44 7) v54 x else 0) (g := x) (fun x h0 h1 => (hR x h0 h1).1) (by omega) (by omega)
                              rw [hfx, ← i3] at hst
                              rw [e165, hst]
                              omega⟩ rfl
                · refine q_aload_n F dX9_rules_82 0 rfl ?_
                  refine q_getr (T := TX9) (ref := "LeastHungryModel") F huX9 rfl hm.1 10 (by decide) (by decide +kernel) rfl rfl dX9_rules_83 ?_
                  refine q_iload F dX9_rules_86 8 rfl ?_
                  refine q_iald F hm.2.2.2.2.2.2.2.1 (Nat.le_of_ble_eq_true rfl) (by omega) dX9_rules_88 (fun h88 => ?_)
                  refine q_goto F 116 dX9_rules_89 (by decide) ?_
                  refine q_nm (fun v116 e116 => ?_)
                  refine q_istore F dX9_rules_116 [(9, .int (q_I v116)), (0, .ref (q_ad G 0)), (1, .int (q_I pl)), (2, .int (q_I p)), (3, .int (q_I ru)), (4, .int (q_I w)), (5, .int (q_I v54)), (6, .int (q_I sm)), (7, .int (q_I mo)), (8, .int (q_I x))] (Nat.le_of_ble_eq_true rfl) rfl ?_
                  have hlf : q_left (N44 7) v54 x = v116 := by
                    unfold q_left
                    rw [if_neg (by simp [c79]), e116]
                  have hlR := q_left_R (s := v54) zv44.2.1 i1.1 c69
                  rw [hlf] at hlR
                  refine q_iload F dX9_rules_118 7 rfl ?_
                  refine q_aload_n F dX9_rules_120 1 rfl ?_
                  refine q_iload F dX9_rules_121 9 rfl ?_
                  refine q_iload_n F dX9_rules_123 2 rfl ?_
                  refine q_callVP (n := 2) (T := TX9) F (c_X9_isIn G hI N44 hm x pl zv44 (by omega) (by omega)) rfl rfl hm.1 gX9_rules_X9_isIn rfl ⟨by decide, by decide, by decide +kernel⟩ rfl ⟨rfl, rfl, Nat.le_of_ble_eq_true rfl, Nat.le_of_ble_eq_true rfl⟩ rfl (Nat.le_of_ble_eq_true rfl) dX9_rules_124 (fun h124 => ?_)
                  refine q_ifb_eq F 135 dX9_rules_127 (by decide) (fun c127 => ?_) (fun c127 => ?_)
                  · refine q_iconst F dX9_rules_135 ?_
                    refine q_iadd F dX9_rules_136 ?_
                    refine q_nm (fun v137 e137 => ?_)
                    refine q_istore F dX9_rules_137 [(6, .int (q_I v137)), (9, .int (q_I v116)), (0, .ref (q_ad G 0)), (1, .int (q_I pl)), (2, .int (q_I p)), (3, .int (q_I ru)), (4, .int (q_I w)), (5, .int (q_I v54)), (7, .int (q_I mo)), (8, .int (q_I x))] (Nat.le_of_ble_eq_true rfl) rfl ?_
                    refine q_aload_n F dX9_rules_139 2 rfl ?_
                    refine q_iload F dX9_rules_140 9 rfl ?_
                    refine q_iload_n F dX9_rules_142 3 rfl ?_
                    refine q_callVP (n := 2) (T := TX9) F (c_X9_isIn G hI N44 hm x pl zv44 (by omega) (by omega)) rfl rfl hm.1 gX9_rules_X9_isIn rfl ⟨by decide, by decide, by decide +kernel⟩ rfl ⟨rfl, rfl, Nat.le_of_ble_eq_true rfl, Nat.le_of_ble_eq_true rfl⟩ rfl (Nat.le_of_ble_eq_true rfl) dX9_rules_143 (fun h143 => ?_)
                    refine q_ifb_eq F 161 dX9_rules_146 (by decide) (fun c146 => ?_) (fun c146 => ?_)
                    rotate_left
                    · exact absurd (c127.symm.trans c146) (by decide)
                    refine q_iload F dX9_rules_161 8 rfl ?_
                    refine q_istore F dX9_rules_163 [(7, .int (q_I mo)), (6, .int (q_I v137)), (9, .int (q_I v116)), (0, .ref (q_ad G 0)), (1, .int (q_I pl)), (2, .int (q_I p)), (3, .int (q_I ru)), (4, .int (q_I w)), (5, .int (q_I v54)), (8, .int (q_I x))] (Nat.le_of_ble_eq_true rfl) rfl ?_
                    obtain ⟨v165, e165⟩ : ∃ z_ : Int, z_ = x + 1 := ⟨_, rfl⟩
                    refine q_iinc F dX9_rules_165 9 rfl e165 [(8, .int (q_I v165)), (7, .int (q_I mo)), (6, .int (q_I v137)), (9, .int (q_I v116)), (0, .ref (q_ad G 0)), (1, .int (q_I pl)), (2, .int (q_I p)), (3, .int (q_I ru)), (4, .int (q_I w)), (5, .int (q_I v54))] (Nat.le_of_ble_eq_true rfl) rfl ?_
                    refine q_goto F 65 dX9_rules_168 (by decide) ?_
                    refine q_drop [4, 5, 6, 7, 8, 9, 2, 1, 0] rfl ?_
                    exact ih65_1 _ (by omega) v137 mo v165 ⟨by omega, by
                          have hfx : (if q_ins (N44 9) (N44 0 0) pl x = true then q_left (N44 7) v54 x else 0) = 0 := by
                            rw [c127]
                            rfl
                          have hst := q_s6_step (fun x => if q_ins (N44 9) (N44 0 0) pl x = true then q_left (N44 7) v54 x else 0) (g := x) (by omega) (by omega)
                          rw [hfx, ← i2] at hst
                          rw [e165, hst, e137], by
                          have hfx : (if q_ins (N44 9) (N44 0 0) pl x = true then q_left (N44 7) v54 x else 0) = 0 := by
                            rw [c127]
                            rfl
                          have hst := q_m6_step (fun x => if q_ins (N44 9) (N44 0 0) pl x = true then q_left (N44 7) v54 x else 0) (g := x) (fun x h0 h1 => (hR x h0 h1).1) (by omega) (by omega)
                          rw [hfx, ← i3] at hst
                          rw [e165, hst]
                          omega⟩ rfl
                  · refine q_iload F dX9_rules_130 0 rfl ?_
                    refine q_goto F 136 dX9_rules_132 (by decide) ?_
                    refine q_iadd F dX9_rules_136 ?_
                    refine q_nm (fun v137 e137 => ?_)
                    refine q_istore F dX9_rules_137 [(6, .int (q_I v137)), (9, .int (q_I v116)), (0, .ref (q_ad G 0)), (1, .int (q_I pl)), (2, .int (q_I p)), (3, .int (q_I ru)), (4, .int (q_I w)), (5, .int (q_I v54)), (7, .int (q_I mo)), (8, .int (q_I x))] (Nat.le_of_ble_eq_true rfl) rfl ?_
                    refine q_aload_n F dX9_rules_139 2 rfl ?_
                    refine q_iload F dX9_rules_140 9 rfl ?_
                    refine q_iload_n F dX9_rules_142 3 rfl ?_
                    refine q_callVP (n := 2) (T := TX9) F (c_X9_isIn G hI N44 hm x pl zv44 (by omega) (by omega)) rfl rfl hm.1 gX9_rules_X9_isIn rfl ⟨by decide, by decide, by decide +kernel⟩ rfl ⟨rfl, rfl, Nat.le_of_ble_eq_true rfl, Nat.le_of_ble_eq_true rfl⟩ rfl (Nat.le_of_ble_eq_true rfl) dX9_rules_143 (fun h143 => ?_)
                    refine q_ifb_eq F 161 dX9_rules_146 (by decide) (fun c146 => ?_) (fun c146 => ?_)
                    · exact absurd (c127.symm.trans c146) (by decide)
                    refine q_iload F dX9_rules_149 1 rfl ?_
                    refine q_iload F dX9_rules_151 8 rfl ?_
                    refine q_icmp_le F 161 dX9_rules_153 (by decide) (by omega) (fun c153 => ?_) (fun c153 => ?_)
                    · refine q_iload F dX9_rules_161 8 rfl ?_
                      refine q_istore F dX9_rules_163 [(7, .int (q_I mo)), (6, .int (q_I v137)), (9, .int (q_I v116)), (0, .ref (q_ad G 0)), (1, .int (q_I pl)), (2, .int (q_I p)), (3, .int (q_I ru)), (4, .int (q_I w)), (5, .int (q_I v54)), (8, .int (q_I x))] (Nat.le_of_ble_eq_true rfl) rfl ?_
                      obtain ⟨v165, e165⟩ : ∃ z_ : Int, z_ = x + 1 := ⟨_, rfl⟩
                      refine q_iinc F dX9_rules_165 9 rfl e165 [(8, .int (q_I v165)), (7, .int (q_I mo)), (6, .int (q_I v137)), (9, .int (q_I v116)), (0, .ref (q_ad G 0)), (1, .int (q_I pl)), (2, .int (q_I p)), (3, .int (q_I ru)), (4, .int (q_I w)), (5, .int (q_I v54))] (Nat.le_of_ble_eq_true rfl) rfl ?_
                      refine q_goto F 65 dX9_rules_168 (by decide) ?_
                      refine q_drop [4, 5, 6, 7, 8, 9, 2, 1, 0] rfl ?_
                      exact ih65_1 _ (by omega) v137 mo v165 ⟨by omega, by
                            have hfx : (if q_ins (N44 9) (N44 0 0) pl x = true then q_left (N44 7) v54 x else 0) = v116 := by
                              rw [c127, if_pos rfl, hlf]
                            have hst := q_s6_step (fun x => if q_ins (N44 9) (N44 0 0) pl x = true then q_left (N44 7) v54 x else 0) (g := x) (by omega) (by omega)
                            rw [hfx, ← i2] at hst
                            rw [e165, hst, e137], by
                            have hfx : (if q_ins (N44 9) (N44 0 0) pl x = true then q_left (N44 7) v54 x else 0) = v116 := by
                              rw [c127, if_pos rfl, hlf]
                            have hst := q_m6_step (fun x => if q_ins (N44 9) (N44 0 0) pl x = true then q_left (N44 7) v54 x else 0) (g := x) (fun x h0 h1 => (hR x h0 h1).1) (by omega) (by omega)
                            rw [hfx, ← i3] at hst
                            rw [e165, hst]
                            omega⟩ rfl
                    · refine q_iload F dX9_rules_156 1 rfl ?_
                      refine q_goto F 163 dX9_rules_158 (by decide) ?_
                      refine q_istore F dX9_rules_163 [(7, .int (q_I v116)), (6, .int (q_I v137)), (9, .int (q_I v116)), (0, .ref (q_ad G 0)), (1, .int (q_I pl)), (2, .int (q_I p)), (3, .int (q_I ru)), (4, .int (q_I w)), (5, .int (q_I v54)), (8, .int (q_I x))] (Nat.le_of_ble_eq_true rfl) rfl ?_
                      obtain ⟨v165, e165⟩ : ∃ z_ : Int, z_ = x + 1 := ⟨_, rfl⟩
                      refine q_iinc F dX9_rules_165 9 rfl e165 [(8, .int (q_I v165)), (7, .int (q_I v116)), (6, .int (q_I v137)), (9, .int (q_I v116)), (0, .ref (q_ad G 0)), (1, .int (q_I pl)), (2, .int (q_I p)), (3, .int (q_I ru)), (4, .int (q_I w)), (5, .int (q_I v54))] (Nat.le_of_ble_eq_true rfl) rfl ?_
                      refine q_goto F 65 dX9_rules_168 (by decide) ?_
                      refine q_drop [4, 5, 6, 7, 8, 9, 2, 1, 0] rfl ?_
                      exact ih65_1 _ (by omega) v137 v116 v165 ⟨by omega, by
                            have hfx : (if q_ins (N44 9) (N44 0 0) pl x = true then q_left (N44 7) v54 x else 0) = v116 := by
                              rw [c127, if_pos rfl, hlf]
                            have hst := q_s6_step (fun x => if q_ins (N44 9) (N44 0 0) pl x = true then q_left (N44 7) v54 x else 0) (g := x) (by omega) (by omega)
                            rw [hfx, ← i2] at hst
                            rw [e165, hst, e137], by
                            have hfx : (if q_ins (N44 9) (N44 0 0) pl x = true then q_left (N44 7) v54 x else 0) = v116 := by
                              rw [c127, if_pos rfl, hlf]
                            have hst := q_m6_step (fun x => if q_ins (N44 9) (N44 0 0) pl x = true then q_left (N44 7) v54 x else 0) (g := x) (fun x h0 h1 => (hR x h0 h1).1) (by omega) (by omega)
                            rw [hfx, ← i3] at hst
                            rw [e165, hst]
                            omega⟩ rfl
          refine q_drop [4, 5, 6, 7, 8, 3, 2, 1, 0] rfl ?_
          exact lp65_1 _ 0 0 0 ⟨by omega, (q_s6_0 _).symm, (q_m6_0 _).symm⟩ rfl
        · refine q_bipush F dX9_rules_40 (by decide) ?_
          exact q_iret F FI dX9_rules_42 (by omega) ⟨by unfold S_rules; rw [if_pos (q_dt c6), if_neg (fun h => absurd h.2.2 (q_df c37))], q_kz_rf⟩
  · refine q_iconst F dX9_rules_9 ?_
    exact q_iret F FI dX9_rules_10 (by omega) ⟨by unfold S_rules; rw [if_neg (q_df c6)], q_kz_rf⟩
