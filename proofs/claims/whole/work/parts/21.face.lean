/-! the class's face: answers as functions of what is kept -/
def q_ww (M : q_M) : Prop := ∀ i, 0 ≤ i → i < 384 → 0 ≤ M (56 + 1) i ∧ M (56 + 1) i ≤ 50000
def q_iv (M : q_M) (b : Nat) : Prop := (M b 5 = 0 ∨ M b 5 = 1) ∧ q_cv M (b + 1) ∧ q_fm (M (b + 6)) ∧ q_sv M b
def q_X (M : q_M) : Prop := q_cv M (1 + 1) ∧ q_fm (M (1 + 6)) ∧ q_sv M 1 ∧ q_pv M 28 ∧ q_ww M ∧ q_iv M 10 ∧ q_iv M 19
def q_kp (M M' : q_M) : Prop := ∀ j, j < 30 → j ≠ 6 → M' j = M j
theorem q_kp_rf {M : q_M} : q_kp M M := fun _ _ _ => rfl
theorem q_cv_eq {M M' : q_M} {c : Nat} (h : q_cv M c) (e : ∀ j, c ≤ j → j ≤ c + 3 → M' j = M j) : q_cv M' c := by
  unfold q_cv
  rw [e c (by omega) (by omega), e (c + 1) (by omega) (by omega), e (c + 2) (by omega) (by omega), e (c + 3) (by omega) (by omega)]
  exact h
theorem q_X_kp {M M' : q_M} (h : q_X M) (k : q_kp M M') (w : q_ww M') : q_X M' := by
  obtain ⟨h1, h2, h3, h4, -, h6, h7⟩ := h
  have iv : ∀ b, b = 10 ∨ b = 19 → q_iv M b → q_iv M' b := fun b hb h => by
    unfold q_iv q_sv
    rw [k b (by omega) (by omega), k (b + 6) (by omega) (by omega), k (b + 7) (by omega) (by omega), k (b + 8) (by omega) (by omega)]
    exact ⟨h.1, q_cv_eq h.2.1 (fun j h1 h2 => k j (by omega) (by omega)), h.2.2.1, h.2.2.2⟩
  refine ⟨q_cv_eq h1 (fun j h1 h2 => k j (by omega) (by omega)), by rw [k _ (by omega) (by omega)]; exact h2, ?_, ?_, w, iv 10 (Or.inl rfl) h6, iv 19 (Or.inr rfl) h7⟩
  · unfold q_sv
    rw [k 1 (by omega) (by omega), k (1 + 7) (by omega) (by omega), k (1 + 8) (by omega) (by omega)]
    exact h3
  · unfold q_pv
    rw [k 28 (by omega) (by omega), k (28 + 1) (by omega) (by omega)]
    exact h4
def S_state (h f a : Int → Int) (th g w : Int) : Int := if q_has th g = true then (if w = 0 then h g else if w = 1 then q_shn h f g else if w = 2 then a g else -2) else -1
def S_bar (flt : Int) (r : Int × Int × q_T) : Prop := flt = -6 ∧ r.1 = -6
def S_judge (flt w : Int) (r : Int × Int × q_T) : Int := if 0 ≤ w ∧ w ≤ 1 then (if flt = -6 then (if w = 0 then r.1 else r.2.1) else -5) else -2
def S_done (flt : Int) (r : Int × Int × q_T) : Int := if flt = -6 ∧ r.1 = -6 then qt_k r.2.2 else -5
def S_behind (th g w flt : Int) (r : Int × Int × q_T) : Int := if q_has th g = true then (if 0 ≤ w ∧ w ≤ 3 then (if flt = -6 ∧ r.1 = -6 then (if w = 0 then qt_h r.2.2 g else if w = 1 then qt_p r.2.2 g else if w = 2 then qt_c r.2.2 g else qt_a r.2.2 g) else -5) else -2) else -1
def S_star (th : Int) (h : Int → Int) : Int := q_set (fun x => decide (h x = 20) && q_has th x)
def S_waste (th w flt : Int) (r : Int × Int × q_T) : Int := if 0 ≤ w ∧ w ≤ 2 then (if flt = -6 ∧ r.1 = -6 then (if w = 0 then qt_l r.2.2 else if w = 1 then qt_u r.2.2 else S_star th (qt_h r.2.2)) else -5) else -2
def S_served (h f a : Int → Int) (th ke pl p : Int) : Int := if 0 ≤ pl ∧ pl ≤ 2 then (if 1 ≤ p ∧ p ≤ 9 then q_set (q_tk h f a th ke pl p) else -2) else -1
def S_feign (h f a : Int → Int) (th ke g p : Int) : Int := if q_has th g = true then (if 1 ≤ p ∧ p ≤ 9 then q_first (q_fgP h f a th ke g p) 10 0 else -2) else -1
def S_rests (h f a : Int → Int) (th ke pl p i : Int) : Int := if 0 ≤ pl ∧ pl ≤ 2 then (if 1 ≤ p ∧ p ≤ 9 then (if 4 < q_cnt (q_has (q_set (q_ins a th pl))) then -4 else q_R3 h f a th ke (q_set (q_ins a th pl)) pl p i) else -2) else -1
def q_bsN (v : Int → Int) (f : Int → Int) (b0 : Int) : Nat → Int × Int
  | 0 => (b0, -6)
  | n + 1 => if v n < (q_bsN v f b0 n).1 then (v n, f n) else q_bsN v f b0 n
theorem q_bsN_s (v f : Int → Int) (b0 : Int) (n : Nat) : q_bsN v f b0 (n + 1) = if v n < (q_bsN v f b0 n).1 then (v n, f n) else q_bsN v f b0 n := rfl
def q_rnd (h f a : Int → Int) (th ke g m d b0 : Int) : Int × Int := q_bsN (fun y => qt_h (q_wk (q_hrT th) th ke d g (fun x => y / q_pw 3 (m - 1 - x).toNat % 3) m.toNat (q_T0 h f a)) g) (fun y => if m = 0 then -6 else y / q_pw 3 (m - 1).toNat % 3) b0 (q_pw 3 m.toNat).toNat
def S_round (h f a : Int → Int) (th ke g m d w : Int) : Int := if q_has th g = true then (if (0 ≤ m ∧ m ≤ 5) ∧ (0 ≤ d ∧ d ≤ 999) ∧ (0 ≤ w ∧ w ≤ 1) then (if w = 0 then (q_rnd h f a th ke g m d 21).1 else (q_rnd h f a th ke g m d 21).2) else -2) else -1
def S_rules (h f a : Int → Int) (th ke pl p ru w : Int) : Int := if 0 ≤ pl ∧ pl ≤ 2 then (if (1 ≤ p ∧ p ≤ 9) ∧ (0 ≤ ru ∧ ru ≤ 2) ∧ (0 ≤ w ∧ w ≤ 1) then (if w = 0 then q_s6 (fun x => if q_has (q_set (q_ins a th pl)) x = true then q_left h (q_set (q_ru h f a th ke ru pl p)) x else 0) else q_m6 (fun x => if q_has (q_set (q_ins a th pl)) x = true then q_left h (q_set (q_ru h f a th ke ru pl p)) x else 0)) else -2) else -1
/-- the table of worlds, as the class lays it: how many; least, greatest; of a dish's sets the most -/
def q_WN (a : Int → Int) (th : Int) : Nat := (q_pw 6 (q_cnt (q_has (q_set (q_ins a th 0)))).toNat).toNat
def q_Wf (h f a : Int → Int) (th ke : Int) (d s : Int → Int) (n : Int) : Int → Bool := q_fitR h f a th ke (q_set (q_ins a th 0)) d s n
def q_Wc (h f a : Int → Int) (th ke : Int) (d s : Int → Int) (n : Int) : Int := q_ctN (q_Wf h f a th ke d s n) (q_WN a th)
def q_Wl (h f a : Int → Int) (th ke : Int) (d s : Int → Int) (n g : Int) : Int := q_mnN (q_Wf h f a th ke d s n) (fun r => q_H6 (q_set (q_ins a th 0)) h r g) 20 (q_WN a th)
def q_Wg (h f a : Int → Int) (th ke : Int) (d s : Int → Int) (n g : Int) : Int := q_mxP (q_Wf h f a th ke d s n) (fun r => q_H6 (q_set (q_ins a th 0)) h r g) 0 (q_WN a th)
def q_Wt (h f a : Int → Int) (th ke : Int) (d s : Int → Int) (n p q : Int) : Int := q_ctN (fun r => q_Wf h f a th ke d s n r && decide (q_T6 h f a th ke (q_set (q_ins a th 0)) r p = q)) (q_WN a th)
def q_Wm (h f a : Int → Int) (th ke : Int) (d s : Int → Int) (n p : Int) : Int := q_mxN (q_Wt h f a th ke d s n p) 64
def S_worlds (h f a : Int → Int) (th ke : Int) (d s : Int → Int) (n g w : Int) : Int := if g = -1 ∨ q_ins a th 0 g = true then (if 0 ≤ w ∧ w ≤ 1 then (if 4 < q_cnt (q_has (q_set (q_ins a th 0))) then -4 else if g = -1 then q_Wc h f a th ke d s n else if q_Wc h f a th ke d s n = 0 then -6 else if w = 0 then q_Wl h f a th ke d s n g else q_Wg h f a th ke d s n g) else -2) else -1
def S_tells (h f a : Int → Int) (th ke : Int) (d s : Int → Int) (n w : Int) : Int := if 0 ≤ w ∧ w ≤ 1 then (if 4 < q_cnt (q_has (q_set (q_ins a th 0))) then -4 else if q_Wc h f a th ke d s n = 0 then -6 else if w = 0 then q_best (q_Wm h f a th ke d s n) 8 else q_Wm h f a th ke d s n (q_best (q_Wm h f a th ke d s n) 8)) else -2
def S_gain (h a : Int → Int) (th n : Int) : Int := q_first (fun g => q_hun h a th 0 g && q_gn h (q_set (q_hun h a th 0)) n g) 6 0
def S_portions (h a : Int → Int) (th n w : Int) : Int := if (0 ≤ n ∧ n ≤ 999999) ∧ (0 ≤ w ∧ w ≤ 1) then (if w = 1 then S_gain h a th n else if S_gain h a th n = -6 then 1 else 0) else -2
def S_seats (F a : Int → Int) (th pl i : Int) : Int := if 0 ≤ pl ∧ pl ≤ 2 then (if i = -1 then q_rows F (q_set (q_ins a th pl)) else if 0 ≤ i ∧ i < q_cnt (q_has (q_set (q_ins a th pl))) ∧ ¬ q_rows F (q_set (q_ins a th pl)) = 0 then (q_sit F (q_set (q_ins a th pl)) (i.toNat + 1)).2.2 else -6) else -1
def q_blo (f a : Int → Int) (th pl : Int) : Int := q_pw 10 (q_cnt (q_has (q_set (fun x => q_ins a th pl x && decide (0 < f x))))).toNat
def S_belch (h f a : Int → Int) (th g p t w : Int) : Int := if q_has th g = true then (if (1 ≤ p ∧ p ≤ 9) ∧ (0 ≤ t ∧ t ≤ 10) ∧ (0 ≤ w ∧ w ≤ 1) then (if w = 0 then (q_lo 6 (q_ch h f a th (a g) g p t, q_blo f a th (a g))).1 else (q_lo 6 (q_ch h f a th (a g) g p t, q_blo f a th (a g))).2) else -1000000000000000002) else -1000000000000000001
def q_hs (P : Int → Bool) : Nat → Int
  | 0 => 0
  | n + 1 => if P (n + 1) = true then n + 1 else q_hs P n
theorem q_hs_s (P : Int → Bool) (n : Nat) : q_hs P (n + 1) = if P (n + 1) = true then ((n : Int) + 1) else q_hs P n := rfl
def q_hsP (R : Int → Int × Int × q_T) (th v : Int) : Bool := decide (q_and (S_star th (qt_h (R v).2.2)) (q_xor (S_star th (qt_h (R 0).2.2)) (-1)) = 0)
def S_host (th flt : Int) (R : Int → Int × Int × q_T) : Int := if flt = -6 ∧ (R 0).1 = -6 then q_hs (q_hsP R th) 9 else -5
def S_year (h f a : Int → Int) (th ke seed m w : Int) : Int := if (0 ≤ seed ∧ seed ≤ 9999) ∧ (1 ≤ m ∧ m ≤ 99) ∧ (0 ≤ w ∧ w ≤ 2) then (if w = 0 then q_s6 (qt_p (q_yr (q_hrT th) th ke m.toNat (seed, q_T0 h f a)).2) else if w = 1 then qt_l (q_yr (q_hrT th) th ke m.toNat (seed, q_T0 h f a)).2 else q_s6 (fun x => if q_has th x = true then qt_h (q_yr (q_hrT th) th ke m.toNat (seed, q_T0 h f a)).2 x else 0)) else -2
def S_fds (F : Int → Int) : Int := q_s6 (fun x => q_cnt (q_has (F x))) / 2
def S_told (f F : Int → Int) (th ke n sz w : Int) : Int := if w = 0 then sz else if w = 1 then th else if w = 2 then ke else if w = 3 then n else if w = 4 then S_fds F else if (0 ≤ w ∧ w ≤ 15) ∧ q_has th (w - 10) = true then f (w - 10) else -2
theorem q_dt {P : Prop} {i : Decidable P} (h : @decide P i = true) : P := of_decide_eq_true h
theorem q_df {P : Prop} {i : Decidable P} (h : @decide P i = false) : ¬ P := of_decide_eq_false h
theorem q_pl_kp {M M' : q_M} (h : ∀ j : Nat, (j < 30 ∨ 30 + 8 < j) → M' j = M j) (w : q_ww M) : q_kp M M' ∧ q_ww M' :=
  ⟨fun j hj _ => h j (by omega), fun i h0 h1 => by rw [h _ (by omega)]; exact w i h0 h1⟩
theorem q_fr_kp {M M' : q_M} {k : Nat} (h : ∀ j, j ≠ k → M' j = M j) (hk : k = 6 ∨ (30 ≤ k ∧ k ≠ 57)) (w : q_ww M) : q_kp M M' ∧ q_ww M' :=
  ⟨fun j hj h6 => h j (by omega), fun i h0 h1 => by rw [h _ (by omega)]; exact w i h0 h1⟩
theorem q_row_fm {F : Int → Int} {g v : Int} (h : q_fm F) (hv : 0 ≤ v ∧ v ≤ 63) : q_fm (q_row F g v) := fun x h0 h1 => by
  unfold q_row
  split
  · exact hv
  · exact h x h0 h1
theorem q_mxN_congr {f k : Int → Int} : ∀ n : Nat, (∀ x : Int, 0 ≤ x → x < n → f x = k x) → q_mxN f n = q_mxN k n
  | 0, _ => rfl
  | n + 1, h => by
    unfold q_mxN
    rw [q_mxN_congr n (fun x h0 h1 => h x h0 (by omega)), h n (by omega) (by omega)]
theorem q_best_congr {f k : Int → Int} : ∀ n : Nat, (∀ x : Int, 1 ≤ x → x ≤ n + 1 → f x = k x) → q_best f n = q_best k n
  | 0, _ => rfl
  | n + 1, h => by
    have hR := q_best_R k n
    unfold q_best
    rw [q_best_congr n (fun x h0 h1 => h x h0 (by omega)), h (n + 2) (by omega) (by omega), h (q_best k n) (by omega) (by omega)]
theorem q_pw3_243 {n : Nat} (h : n ≤ 5) : 1 ≤ q_pw 3 n ∧ q_pw 3 n ≤ 243 := by
  rcases (show n = 0 ∨ n = 1 ∨ n = 2 ∨ n = 3 ∨ n = 4 ∨ n = 5 by omega) with rfl | rfl | rfl | rfl | rfl | rfl <;> decide
theorem q_ins_in {a : Int → Int} {th pl x : Int} (h : q_ins a th pl x = true) : 0 ≤ x ∧ x < 6 := by
  unfold q_ins at h
  simp only [Bool.and_eq_true] at h
  exact q_has_in h.2
/-- a book is as another was -/
def q_ig (M M' : q_M) (b o : Nat) (k : Int) : Prop := (∀ j, (j < b ∨ b + 8 < j ∨ j = b + 5) → M' j = M j) ∧ (M' b 4 = M o 4 ∧ M' b 5 = k) ∧ (M' (b + 1) 4 = M (o + 1) 4 ∧ M' (b + 1) 5 = M (o + 1) 5) ∧ (∀ x, 0 ≤ x → x < 6 → (M' (b + 1 + 1) x = M (o + 1 + 1) x ∧ M' (b + 1 + 2) x = M (o + 1 + 2) x ∧ M' (b + 1 + 3) x = M (o + 1 + 3) x) ∧ M' (b + 6) x = M (o + 6) x) ∧ ∀ i, 0 ≤ i → i < 8 → M' (b + 7) i = M (o + 7) i ∧ M' (b + 8) i = M (o + 8) i
theorem q_ig_up {M M' N : q_M} {b o : Nat} {k : Int} (h : q_ig M M' b o k) (e : N = q_up M' b 5 1) : q_ig M N b o 1 := by
  obtain ⟨h1, h2, h3, h4, h5⟩ := h
  subst e
  refine ⟨fun j hj => by rw [q_up_ne (by omega)]; exact h1 j hj, ⟨by rw [q_up_at, if_neg (by decide)]; exact h2.1, by rw [q_up_at, if_pos rfl]⟩, by rw [q_up_ne (by omega)]; exact h3, fun x x0 x1 => ?_, fun i i0 i1 => ?_⟩
  · rw [q_up_ne (by omega), q_up_ne (by omega), q_up_ne (by omega), q_up_ne (by omega)]
    exact h4 x x0 x1
  · rw [q_up_ne (by omega), q_up_ne (by omega)]
    exact h5 i i0 i1
set_option maxHeartbeats 4000000 in
set_option maxRecDepth 100000 in
theorem c_X0_become (G : q_G) (hI : q_inj G) (M : q_M) (b : Nat) (hb : q_bk G b) (o : Nat) (ho : q_bk G o) (hd : o + 8 < b ∨ b + 8 < o) : q_CV G yX0_become wsX0_become ({ frames := 3, cells := 0, slots := 0, locals := 68 } : Room) [.ref (q_ad G b), .ref (q_ad G o)] M (fun M' => (∀ j, (j < b ∨ b + 8 < j ∨ j = b + 5) → M' j = M j) ∧ (M' b 4 = M o 4 ∧ M' b 5 = M b 5) ∧ (M' (b + 1) 4 = M (o + 1) 4 ∧ M' (b + 1) 5 = M (o + 1) 5) ∧ (∀ x, 0 ≤ x → x < 6 → (M' (b + 1 + 1) x = M (o + 1 + 1) x ∧ M' (b + 1 + 2) x = M (o + 1 + 2) x ∧ M' (b + 1 + 3) x = M (o + 1 + 3) x) ∧ M' (b + 6) x = M (o + 6) x) ∧ ∀ i, 0 ≤ i → i < 8 → M' (b + 7) i = M (o + 7) i ∧ M' (b + 8) i = M (o + 8) i) := by
  refine q_CV.of hI (by decide) rfl RX0 rfl [(0, .ref (q_ad G b)), (1, .ref (q_ad G o))] rfl (Nat.le_of_ble_eq_true rfl) (fun E F FV => ?_)
  have huX0 : ∀ w ∈ wsX00, w ∈ wsX0_become := by decide +kernel
  refine q_MRof (fun hM => ?_)
  refine q_aload_n F dX0_become_0 0 rfl ?_
  refine q_getr (T := TX0) (ref := "LeastHungry$Book") F huX0 rfl hb.1 0 (by decide) (by decide +kernel) rfl rfl dX0_become_1 ?_
  refine q_aload_n F dX0_become_4 1 rfl ?_
  refine q_getr (T := TX0) (ref := "LeastHungry$Book") F huX0 rfl ho.1 0 (by decide) (by decide +kernel) rfl rfl dX0_become_5 ?_
  refine q_callVV (n := 1) (T := TX1) F (c_X1_become G hI M (b + 1) hb.2.1 (o + 1) ho.2.1 (by omega)) rfl rfl hb.2.1.1 gX0_become_X1_become rfl ⟨by decide, by decide, by decide +kernel⟩ rfl ⟨rfl, rfl, Nat.le_of_ble_eq_true rfl, Nat.le_of_ble_eq_true rfl⟩ rfl (Nat.le_of_ble_eq_true rfl) dX0_become_8 (fun N8 p8 => ?_)
  refine q_aload_n F dX0_become_11 1 rfl ?_
  refine q_getr (T := TX0) (ref := "LeastHungry$Book") F huX0 rfl ho.1 1 (by decide) (by decide +kernel) rfl rfl dX0_become_12 ?_
  refine q_aload_n F dX0_become_15 0 rfl ?_
  refine q_getr (T := TX0) (ref := "LeastHungry$Book") F huX0 rfl hb.1 1 (by decide) (by decide +kernel) rfl rfl dX0_become_16 ?_
  refine q_callNV (n := 2) F (c_X8_copyRow G hI N8 (o + 6) (b + 6) 6 ho.2.2.1 hb.2.2.1 (by omega)) rfl gX0_become_X8_copyRow_n32 (host := RX8) (by decide +kernel) (by decide +kernel) (by decide +kernel) ⟨by decide, by decide, by decide +kernel⟩ rfl ⟨rfl, rfl, Nat.le_of_ble_eq_true rfl, Nat.le_of_ble_eq_true rfl⟩ rfl (Nat.le_of_ble_eq_true rfl) dX0_become_19 (fun N19 p19 => ?_)
  refine q_aload_n F dX0_become_22 1 rfl ?_
  refine q_getr (T := TX0) (ref := "LeastHungry$Book") F huX0 rfl ho.1 2 (by decide) (by decide +kernel) rfl rfl dX0_become_23 ?_
  refine q_aload_n F dX0_become_26 0 rfl ?_
  refine q_getr (T := TX0) (ref := "LeastHungry$Book") F huX0 rfl hb.1 2 (by decide) (by decide +kernel) rfl rfl dX0_become_27 ?_
  refine q_callNV (n := 2) F (c_X8_copyRow G hI N19 (o + 7) (b + 7) 8 ho.2.2.2.1 hb.2.2.2.1 (by omega)) rfl gX0_become_X8_copyRow_n32 (host := RX8) (by decide +kernel) (by decide +kernel) (by decide +kernel) ⟨by decide, by decide, by decide +kernel⟩ rfl ⟨rfl, rfl, Nat.le_of_ble_eq_true rfl, Nat.le_of_ble_eq_true rfl⟩ rfl (Nat.le_of_ble_eq_true rfl) dX0_become_30 (fun N30 p30 => ?_)
  refine q_aload_n F dX0_become_33 1 rfl ?_
  refine q_getr (T := TX0) (ref := "LeastHungry$Book") F huX0 rfl ho.1 3 (by decide) (by decide +kernel) rfl rfl dX0_become_34 ?_
  refine q_aload_n F dX0_become_37 0 rfl ?_
  refine q_getr (T := TX0) (ref := "LeastHungry$Book") F huX0 rfl hb.1 3 (by decide) (by decide +kernel) rfl rfl dX0_become_38 ?_
  refine q_callNV (n := 2) F (c_X8_copyRow G hI N30 (o + 8) (b + 8) 8 ho.2.2.2.2 hb.2.2.2.2 (by omega)) rfl gX0_become_X8_copyRow_n32 (host := RX8) (by decide +kernel) (by decide +kernel) (by decide +kernel) ⟨by decide, by decide, by decide +kernel⟩ rfl ⟨rfl, rfl, Nat.le_of_ble_eq_true rfl, Nat.le_of_ble_eq_true rfl⟩ rfl (Nat.le_of_ble_eq_true rfl) dX0_become_41 (fun N41 p41 => ?_)
  refine q_aload_n F dX0_become_44 0 rfl ?_
  refine q_aload_n F dX0_become_45 1 rfl ?_
  refine q_geti (T := TX0) (ref := "LeastHungry$Book") F huX0 rfl ho.1 4 (by decide) (by decide +kernel) rfl 4 rfl rfl dX0_become_46 (fun h46 => ?_)
  refine q_puti (T := TX0) (ref := "LeastHungry$Book") F huX0 rfl hb.1 4 (by decide) (by decide +kernel) rfl 4 rfl tyX0 tyX0_ok nmX0 rfl rfl (by decide +kernel) (by omega) dX0_become_49 (fun N49 eN49 => ?_)
  exact q_vret F FV dX0_become_52 (by
      obtain ⟨b1, b2, b3, b4⟩ := p8
      subst eN49 p41 p30 p19
      refine ⟨fun j hj => ?_, ⟨?_, ?_⟩, ⟨?_, ?_⟩, fun x h0 h1 => ⟨⟨?_, ?_, ?_⟩, ?_⟩, fun i h0 h1 => ⟨?_, ?_⟩⟩
      · rw [q_up_ne (by omega), q_cp_ne (by omega), q_cp_ne (by omega), q_cp_ne (by omega)]; exact b1 j (by omega)
      · rw [q_up_at, if_pos rfl, q_cp_ne (by omega), q_cp_ne (by omega), q_cp_ne (by omega), b1 o (by omega)]
      · rw [q_up_at, if_neg (by decide), q_cp_ne (by omega), q_cp_ne (by omega), q_cp_ne (by omega), b1 b (by omega)]
      · rw [q_up_ne (by omega), q_cp_ne (by omega), q_cp_ne (by omega), q_cp_ne (by omega)]; exact b2
      · rw [q_up_ne (by omega), q_cp_ne (by omega), q_cp_ne (by omega), q_cp_ne (by omega)]; exact b3
      · rw [q_up_ne (by omega), q_cp_ne (by omega), q_cp_ne (by omega), q_cp_ne (by omega)]; exact (b4 x h0 h1).1
      · rw [q_up_ne (by omega), q_cp_ne (by omega), q_cp_ne (by omega), q_cp_ne (by omega)]; exact (b4 x h0 h1).2.1
      · rw [q_up_ne (by omega), q_cp_ne (by omega), q_cp_ne (by omega), q_cp_ne (by omega)]; exact (b4 x h0 h1).2.2
      · rw [q_up_ne (by omega), q_cp_ne (by omega), q_cp_ne (by omega), q_cp_at, if_pos (by omega), b1 (o + 6) (by omega)]
      · rw [q_up_ne (by omega), q_cp_ne (by omega), q_cp_at, if_pos (by omega), q_cp_ne (by omega), b1 (o + 7) (by omega)]
      · rw [q_up_ne (by omega), q_cp_at, if_pos (by omega), q_cp_ne (by omega), q_cp_ne (by omega), b1 (o + 8) (by omega)])

set_option maxHeartbeats 4000000 in
set_option maxRecDepth 100000 in
theorem c_X8_isCrowded (G : q_G) (hI : q_inj G) (M : q_M) (hx : q_lh G) (hX : q_X M) (pl : Int) (hplR : -2147483648 ≤ pl ∧ pl ≤ 2147483647) : q_CI G yX8_isCrowded wsX8_isCrowded ({ frames := 2, cells := 0, slots := 0, locals := 44 } : Room) [.ref (q_ad G 0), .int (q_I pl)] M (fun z M' => z = q_b (decide (4 < q_cnt (q_has (q_set (q_ins (M (1 + 1 + 3)) (M (1 + 1) 4) pl))))) ∧ M' = M) := by
  refine q_CI.of hI (by decide) rfl RX8 rfl [(0, .ref (q_ad G 0)), (1, .int (q_I pl))] rfl (Nat.le_of_ble_eq_true rfl) (fun E F FI => ?_)
  have huX0 : ∀ w ∈ wsX00, w ∈ wsX8_isCrowded := by decide +kernel
  have huX8 : ∀ w ∈ wsX80, w ∈ wsX8_isCrowded := by decide +kernel
  refine q_MRof (fun hM => ?_)
  obtain ⟨xv, xf, xs, xp, xw, xi1, xi2⟩ := id hX
  have xv4 := xv.1
  have xv5 := xv.2.1
  refine q_aload_n F dX8_isCrowded_0 0 rfl ?_
  refine q_getr (T := TX8) (ref := "LeastHungry") F huX8 rfl hx.1 0 (by decide) (by decide +kernel) rfl rfl dX8_isCrowded_1 ?_
  refine q_getr (T := TX0) (ref := "LeastHungry$Book") F huX0 rfl hx.2.1.1 0 (by decide) (by decide +kernel) rfl rfl dX8_isCrowded_4 ?_
  refine q_iload_n F dX8_isCrowded_7 1 rfl ?_
  refine q_callVP (n := 1) (T := TX1) F (c_X1_inside G hI M (1 + 1) hx.2.1.2.1 pl (by assumption) (by omega)) rfl rfl hx.2.1.2.1.1 gX8_isCrowded_X1_inside rfl ⟨by decide, by decide, by decide +kernel⟩ rfl ⟨rfl, rfl, Nat.le_of_ble_eq_true rfl, Nat.le_of_ble_eq_true rfl⟩ rfl (Nat.le_of_ble_eq_true rfl) dX8_isCrowded_8 (fun h8 => ?_)
  refine q_callSP (n := 1) F (c_J6_bitCount_0f7a4 G hI M _ (q_set_R _)) rfl gX8_isCrowded_J6_bitCount_0f7a4 ⟨by decide, by decide, by decide +kernel⟩ rfl ⟨rfl, rfl, Nat.le_of_ble_eq_true rfl, Nat.le_of_ble_eq_true rfl⟩ rfl (Nat.le_of_ble_eq_true rfl) dX8_isCrowded_11 (fun h11 => ?_)
  have hcR := q_cnt_R (q_has (q_set (q_ins (M (1 + 1 + 3)) (M (1 + 1) 4) pl)))
  refine q_iconst F dX8_isCrowded_14 ?_
  refine q_icmp_le F 22 dX8_isCrowded_15 (by decide) (by omega) (fun c15 => ?_) (fun c15 => ?_)
  · refine q_iconst F dX8_isCrowded_22 ?_
    exact q_zret F FI dX8_isCrowded_23 (by first | exact q_b01 _ | omega) ⟨(q_b_f (by omega)).symm, rfl⟩
  · refine q_iconst F dX8_isCrowded_18 ?_
    refine q_goto F 23 dX8_isCrowded_19 (by decide) ?_
    exact q_zret F FI dX8_isCrowded_23 (by first | exact q_b01 _ | omega) ⟨(q_b_t (by omega)).symm, rfl⟩

set_option maxHeartbeats 4000000 in
set_option maxRecDepth 100000 in
theorem c_X8_toldFeint (G : q_G) (hI : q_inj G) (M : q_M) (hx : q_lh G) (hX : q_X M) (w : Int) (hwR : -2147483648 ≤ w ∧ w ≤ 2147483647) : q_CI G yX8_toldFeint wsX8_toldFeint ({ frames := 2, cells := 0, slots := 0, locals := 42 } : Room) [.ref (q_ad G 0), .int (q_I w)] M (fun z M' => z = (if (0 ≤ w ∧ w ≤ 15) ∧ q_has (M (1 + 1) 4) (w - 10) = true then (M (1 + 1 + 2)) (w - 10) else -2) ∧ M' = M) := by
  refine q_CI.of hI (by decide) rfl RX8 rfl [(0, .ref (q_ad G 0)), (1, .int (q_I w))] rfl (Nat.le_of_ble_eq_true rfl) (fun E F FI => ?_)
  have huX0 : ∀ w ∈ wsX00, w ∈ wsX8_toldFeint := by decide +kernel
  have huX1 : ∀ w ∈ wsX10, w ∈ wsX8_toldFeint := by decide +kernel
  have huX8 : ∀ w ∈ wsX80, w ∈ wsX8_toldFeint := by decide +kernel
  refine q_MRof (fun hM => ?_)
  obtain ⟨xv, xf, xs, xp, xw, xi1, xi2⟩ := id hX
  have xv4 := xv.1
  have xv5 := xv.2.1
  refine q_iload_n F dX8_toldFeint_0 1 rfl ?_
  refine q_bipush F dX8_toldFeint_1 (by decide) ?_
  refine q_callSP (n := 2) F (c_X8_isWithin G hI M w 15 (by omega)) rfl gX8_toldFeint_X8_isWithin ⟨by decide, by decide, by decide +kernel⟩ rfl ⟨rfl, rfl, Nat.le_of_ble_eq_true rfl, Nat.le_of_ble_eq_true rfl⟩ rfl (Nat.le_of_ble_eq_true rfl) dX8_toldFeint_3 (fun h3 => ?_)
  refine q_ifb_eq F 26 dX8_toldFeint_6 (by decide) (fun c6 => ?_) (fun c6 => ?_)
  · refine q_bipush F dX8_toldFeint_26 (by decide) ?_
    exact q_iret F FI dX8_toldFeint_28 (by omega) ⟨by rw [if_neg (fun h => q_df c6 h.1)], rfl⟩
  · have hw15 := q_dt c6
    refine q_aload_n F dX8_toldFeint_9 0 rfl ?_
    refine q_getr (T := TX8) (ref := "LeastHungry") F huX8 rfl hx.1 0 (by decide) (by decide +kernel) rfl rfl dX8_toldFeint_10 ?_
    refine q_getr (T := TX0) (ref := "LeastHungry$Book") F huX0 rfl hx.2.1.1 0 (by decide) (by decide +kernel) rfl rfl dX8_toldFeint_13 ?_
    refine q_iload_n F dX8_toldFeint_16 1 rfl ?_
    refine q_bipush F dX8_toldFeint_17 (by decide) ?_
    refine q_isub F dX8_toldFeint_19 ?_
    refine q_callVP (n := 1) (T := TX1) F (c_X1_has G hI M (1 + 1) hx.2.1.2.1 _ (by assumption) (by omega)) rfl rfl hx.2.1.2.1.1 gX8_toldFeint_X1_has rfl ⟨by decide, by decide, by decide +kernel⟩ rfl ⟨rfl, rfl, Nat.le_of_ble_eq_true rfl, Nat.le_of_ble_eq_true rfl⟩ rfl (Nat.le_of_ble_eq_true rfl) dX8_toldFeint_20 (fun h20 => ?_)
    refine q_ifb_ne F 29 dX8_toldFeint_23 (by decide) (fun c23 => ?_) (fun c23 => ?_)
    · have hw5 := q_has_in c23
      refine q_aload_n F dX8_toldFeint_29 0 rfl ?_
      refine q_getr (T := TX8) (ref := "LeastHungry") F huX8 rfl hx.1 0 (by decide) (by decide +kernel) rfl rfl dX8_toldFeint_30 ?_
      refine q_getr (T := TX0) (ref := "LeastHungry$Book") F huX0 rfl hx.2.1.1 0 (by decide) (by decide +kernel) rfl rfl dX8_toldFeint_33 ?_
      refine q_getr (T := TX1) (ref := "LeastHungry$Company") F huX1 rfl hx.2.1.2.1.1 1 (by decide) (by decide +kernel) rfl rfl dX8_toldFeint_36 ?_
      refine q_iload_n F dX8_toldFeint_39 1 rfl ?_
      refine q_bipush F dX8_toldFeint_40 (by decide) ?_
      refine q_isub F dX8_toldFeint_42 ?_
      refine q_callSP (n := 2) F (c_X8_at G hI M ((1 + 1) + 2) 6 hx.2.1.2.1.2.2.1 _ (by omega)) rfl gX8_toldFeint_X8_at ⟨by decide, by decide, by decide +kernel⟩ rfl ⟨rfl, rfl, Nat.le_of_ble_eq_true rfl, Nat.le_of_ble_eq_true rfl⟩ rfl (Nat.le_of_ble_eq_true rfl) dX8_toldFeint_43 (fun h43 => ?_)
      exact q_iret F FI dX8_toldFeint_46 (by omega) ⟨by rw [if_pos ⟨q_dt c6, c23⟩], rfl⟩
    · refine q_bipush F dX8_toldFeint_26 (by decide) ?_
      exact q_iret F FI dX8_toldFeint_28 (by omega) ⟨by rw [if_neg (fun h => by have := h.2; simp [c23] at this)], rfl⟩

set_option maxHeartbeats 4000000 in
set_option maxRecDepth 100000 in
theorem c_X8_guest (G : q_G) (hI : q_inj G) (M : q_M) (hx : q_lh G) (hX : q_X M) (g : Int) (h : Int) (f : Int) (a : Int) (hgR : -2147483648 ≤ g ∧ g ≤ 2147483647) (hhR : -2147483648 ≤ h ∧ h ≤ 2147483647) (hfR : -2147483648 ≤ f ∧ f ≤ 2147483647) (haR : -2147483648 ≤ a ∧ a ≤ 2147483647) : q_CI G yX8_guest wsX8_guest ({ frames := 2, cells := 0, slots := 0, locals := 46 } : Room) [.ref (q_ad G 0), .int (q_I g), .int (q_I h), .int (q_I f), .int (q_I a)] M (fun z M' => (¬ (0 ≤ g ∧ g ≤ 5) → z = -1 ∧ M' = M) ∧ (0 ≤ g ∧ g ≤ 5 → ¬ ((0 ≤ h ∧ h ≤ 20) ∧ (0 ≤ f ∧ f ≤ 9) ∧ (0 ≤ a ∧ a ≤ 2)) → z = -2 ∧ M' = M) ∧ (0 ≤ g ∧ g ≤ 5 → (0 ≤ h ∧ h ≤ 20) ∧ (0 ≤ f ∧ f ≤ 9) ∧ (0 ≤ a ∧ a ≤ 2) → z = q_cnt (fun x => q_has (M (1 + 1) 4) x || decide (x = g)) ∧ M' = q_up (q_up (q_up (q_up M (1 + 1 + 1) g h) (1 + 1 + 2) g f) (1 + 1 + 3) g a) (1 + 1) 4 (q_set (fun x => q_has (M (1 + 1) 4) x || decide (x = g))))) := by
  refine q_CI.of hI (by decide) rfl RX8 rfl [(0, .ref (q_ad G 0)), (1, .int (q_I g)), (2, .int (q_I h)), (3, .int (q_I f)), (4, .int (q_I a))] rfl (Nat.le_of_ble_eq_true rfl) (fun E F FI => ?_)
  have huX0 : ∀ w ∈ wsX00, w ∈ wsX8_guest := by decide +kernel
  have huX8 : ∀ w ∈ wsX80, w ∈ wsX8_guest := by decide +kernel
  refine q_MRof (fun hM => ?_)
  obtain ⟨xv, xf, xs, xp, xw, xi1, xi2⟩ := id hX
  have xv4 := xv.1
  have xv5 := xv.2.1
  refine q_iload_n F dX8_guest_0 1 rfl ?_
  refine q_iconst F dX8_guest_1 ?_
  refine q_callSP (n := 2) F (c_X8_isWithin G hI M g 5 (by omega)) rfl gX8_guest_X8_isWithin ⟨by decide, by decide, by decide +kernel⟩ rfl ⟨rfl, rfl, Nat.le_of_ble_eq_true rfl, Nat.le_of_ble_eq_true rfl⟩ rfl (Nat.le_of_ble_eq_true rfl) dX8_guest_2 (fun h2 => ?_)
  refine q_ifb_ne F 10 dX8_guest_5 (by decide) (fun c5 => ?_) (fun c5 => ?_)
  · refine q_iload_n F dX8_guest_10 2 rfl ?_
    refine q_bipush F dX8_guest_11 (by decide) ?_
    refine q_callSP (n := 2) F (c_X8_isWithin G hI M h 20 (by omega)) rfl gX8_guest_X8_isWithin ⟨by decide, by decide, by decide +kernel⟩ rfl ⟨rfl, rfl, Nat.le_of_ble_eq_true rfl, Nat.le_of_ble_eq_true rfl⟩ rfl (Nat.le_of_ble_eq_true rfl) dX8_guest_13 (fun h13 => ?_)
    refine q_ifb_eq F 36 dX8_guest_16 (by decide) (fun c16 => ?_) (fun c16 => ?_)
    · refine q_bipush F dX8_guest_36 (by decide) ?_
      exact q_iret F FI dX8_guest_38 (by omega) ⟨fun h => absurd (q_dt c5) h, fun _ _ => ⟨rfl, rfl⟩, fun _ h => absurd h.1 (q_df c16)⟩
    · refine q_iload_n F dX8_guest_19 3 rfl ?_
      refine q_bipush F dX8_guest_20 (by decide) ?_
      refine q_callSP (n := 2) F (c_X8_isWithin G hI M f 9 (by omega)) rfl gX8_guest_X8_isWithin ⟨by decide, by decide, by decide +kernel⟩ rfl ⟨rfl, rfl, Nat.le_of_ble_eq_true rfl, Nat.le_of_ble_eq_true rfl⟩ rfl (Nat.le_of_ble_eq_true rfl) dX8_guest_22 (fun h22 => ?_)
      refine q_ifb_eq F 36 dX8_guest_25 (by decide) (fun c25 => ?_) (fun c25 => ?_)
      · refine q_bipush F dX8_guest_36 (by decide) ?_
        exact q_iret F FI dX8_guest_38 (by omega) ⟨fun h => absurd (q_dt c5) h, fun _ _ => ⟨rfl, rfl⟩, fun _ h => absurd h.2.1 (q_df c25)⟩
      · refine q_iload F dX8_guest_28 4 rfl ?_
        refine q_callSP (n := 1) F (c_X8_isHouse G hI M a (by omega)) rfl gX8_guest_X8_isHouse ⟨by decide, by decide, by decide +kernel⟩ rfl ⟨rfl, rfl, Nat.le_of_ble_eq_true rfl, Nat.le_of_ble_eq_true rfl⟩ rfl (Nat.le_of_ble_eq_true rfl) dX8_guest_30 (fun h30 => ?_)
        refine q_ifb_ne F 39 dX8_guest_33 (by decide) (fun c33 => ?_) (fun c33 => ?_)
        · have d1 := q_dt c5
          have d2 := q_dt c16
          have d3 := q_dt c25
          have d4 := q_dt c33
          refine q_aload_n F dX8_guest_39 0 rfl ?_
          refine q_getr (T := TX8) (ref := "LeastHungry") F huX8 rfl hx.1 0 (by decide) (by decide +kernel) rfl rfl dX8_guest_40 ?_
          refine q_getr (T := TX0) (ref := "LeastHungry$Book") F huX0 rfl hx.2.1.1 0 (by decide) (by decide +kernel) rfl rfl dX8_guest_43 ?_
          refine q_iload_n F dX8_guest_46 1 rfl ?_
          refine q_iload_n F dX8_guest_47 2 rfl ?_
          refine q_iload_n F dX8_guest_48 3 rfl ?_
          refine q_iload F dX8_guest_49 4 rfl ?_
          refine q_callVI (n := 4) (T := TX1) F (c_X1_welcome G hI M (1 + 1) hx.2.1.2.1 g h f a (by assumption) (by omega) (by omega)) rfl rfl hx.2.1.2.1.1 gX8_guest_X1_welcome rfl ⟨by decide, by decide, by decide +kernel⟩ rfl ⟨rfl, rfl, Nat.le_of_ble_eq_true rfl, Nat.le_of_ble_eq_true rfl⟩ rfl (Nat.le_of_ble_eq_true rfl) dX8_guest_51 (fun r51 N51 h51 p51 => ?_)
          exact q_iret F FI dX8_guest_54 (by omega) ⟨fun h => absurd d1 h, fun _ h => absurd ⟨d2, d3, d4⟩ h, fun _ _ => p51⟩
        · refine q_bipush F dX8_guest_36 (by decide) ?_
          exact q_iret F FI dX8_guest_38 (by omega) ⟨fun h => absurd (q_dt c5) h, fun _ _ => ⟨rfl, rfl⟩, fun _ h => absurd h.2.2 (q_df c33)⟩
  · refine q_iconst F dX8_guest_8 ?_
    exact q_iret F FI dX8_guest_9 (by omega) ⟨fun _ => ⟨rfl, rfl⟩, fun h => absurd h (q_df c5), fun h => absurd h (q_df c5)⟩

set_option maxHeartbeats 4000000 in
set_option maxRecDepth 100000 in
theorem c_X8_leave (G : q_G) (hI : q_inj G) (M : q_M) (hx : q_lh G) (hX : q_X M) (g : Int) (hgR : -2147483648 ≤ g ∧ g ≤ 2147483647) : q_CI G yX8_leave wsX8_leave ({ frames := 3, cells := 0, slots := 0, locals := 69 } : Room) [.ref (q_ad G 0), .int (q_I g)] M (fun z M' => (q_has (M (1 + 1) 4) g = false → z = -1 ∧ M' = M) ∧ (q_has (M (1 + 1) 4) g = true → z = q_cnt (fun x => q_has (M (1 + 1) 4) x && !decide (x = g)) ∧ (∀ j, j ≠ 1 + 6 → j ≠ 1 + 1 → M' j = M j) ∧ (∀ i, i ≠ 4 → M' (1 + 1) i = M (1 + 1) i) ∧ M' (1 + 1) 4 = q_set (fun x => q_has (M (1 + 1) 4) x && !decide (x = g)) ∧ ∀ x, 0 ≤ x → x < 6 → M' (1 + 6) x = q_set (fun y => q_has (M (1 + 6) x) y && !(decide (x = g) || decide (y = g))))) := by
  refine q_CI.of hI (by decide) rfl RX8 rfl [(0, .ref (q_ad G 0)), (1, .int (q_I g))] rfl (Nat.le_of_ble_eq_true rfl) (fun E F FI => ?_)
  have huX0 : ∀ w ∈ wsX00, w ∈ wsX8_leave := by decide +kernel
  have huX8 : ∀ w ∈ wsX80, w ∈ wsX8_leave := by decide +kernel
  refine q_MRof (fun hM => ?_)
  obtain ⟨xv, xf, xs, xp, xw, xi1, xi2⟩ := id hX
  have xv4 := xv.1
  have xv5 := xv.2.1
  refine q_aload_n F dX8_leave_0 0 rfl ?_
  refine q_getr (T := TX8) (ref := "LeastHungry") F huX8 rfl hx.1 0 (by decide) (by decide +kernel) rfl rfl dX8_leave_1 ?_
  refine q_getr (T := TX0) (ref := "LeastHungry$Book") F huX0 rfl hx.2.1.1 0 (by decide) (by decide +kernel) rfl rfl dX8_leave_4 ?_
  refine q_iload_n F dX8_leave_7 1 rfl ?_
  refine q_callVP (n := 1) (T := TX1) F (c_X1_has G hI M (1 + 1) hx.2.1.2.1 g (by assumption) (by omega)) rfl rfl hx.2.1.2.1.1 gX8_leave_X1_has rfl ⟨by decide, by decide, by decide +kernel⟩ rfl ⟨rfl, rfl, Nat.le_of_ble_eq_true rfl, Nat.le_of_ble_eq_true rfl⟩ rfl (Nat.le_of_ble_eq_true rfl) dX8_leave_8 (fun h8 => ?_)
  refine q_ifb_ne F 16 dX8_leave_11 (by decide) (fun c11 => ?_) (fun c11 => ?_)
  · have hgi := q_has_in c11
    refine q_aload_n F dX8_leave_16 0 rfl ?_
    refine q_getr (T := TX8) (ref := "LeastHungry") F huX8 rfl hx.1 0 (by decide) (by decide +kernel) rfl rfl dX8_leave_17 ?_
    refine q_iload_n F dX8_leave_20 1 rfl ?_
    refine q_callVV (n := 1) (T := TX0) F (c_X0_endFeudsOf G hI M 1 hx.2.1 g (by assumption) (by omega)) rfl rfl hx.2.1.1 gX8_leave_X0_endFeudsOf rfl ⟨by decide, by decide, by decide +kernel⟩ rfl ⟨rfl, rfl, Nat.le_of_ble_eq_true rfl, Nat.le_of_ble_eq_true rfl⟩ rfl (Nat.le_of_ble_eq_true rfl) dX8_leave_21 (fun N21 p21 => ?_)
    have xv21 : q_cv N21 (1 + 1) := q_cv_fr xv p21.1 (by omega)
    refine q_aload_n F dX8_leave_24 0 rfl ?_
    refine q_getr (T := TX8) (ref := "LeastHungry") F huX8 rfl hx.1 0 (by decide) (by decide +kernel) rfl rfl dX8_leave_25 ?_
    refine q_getr (T := TX0) (ref := "LeastHungry$Book") F huX0 rfl hx.2.1.1 0 (by decide) (by decide +kernel) rfl rfl dX8_leave_28 ?_
    refine q_iload_n F dX8_leave_31 1 rfl ?_
    refine q_callVI (n := 1) (T := TX1) F (c_X1_dismiss G hI N21 (1 + 1) hx.2.1.2.1 g xv21 (by omega)) rfl rfl hx.2.1.2.1.1 gX8_leave_X1_dismiss rfl ⟨by decide, by decide, by decide +kernel⟩ rfl ⟨rfl, rfl, Nat.le_of_ble_eq_true rfl, Nat.le_of_ble_eq_true rfl⟩ rfl (Nat.le_of_ble_eq_true rfl) dX8_leave_32 (fun r32 N32 h32 p32 => ?_)
    exact q_iret F FI dX8_leave_35 (by omega) ⟨fun h => absurd (c11.symm.trans h) (by decide), fun _ => by
      have e2 : N21 (1 + 1) = M (1 + 1) := p21.1 _ (by omega)
      rw [p32.2, e2]
      refine ⟨by rw [p32.1, e2], fun j h1 h2 => by rw [q_up_ne h2, p21.1 j h1], fun i hi => by rw [q_up_at, if_neg hi, e2], by rw [q_up_at, if_pos rfl], fun x h0 h1 => by rw [q_up_ne (by omega)]; exact p21.2 x h0 h1⟩⟩
  · refine q_iconst F dX8_leave_14 ?_
    exact q_iret F FI dX8_leave_15 (by omega) ⟨fun _ => ⟨rfl, rfl⟩, fun h => absurd (c11.symm.trans h) (by decide)⟩

set_option maxHeartbeats 4000000 in
set_option maxRecDepth 100000 in
theorem c_X8_keen (G : q_G) (hI : q_inj G) (M : q_M) (hx : q_lh G) (hX : q_X M) (v : Int) (hvR : -2147483648 ≤ v ∧ v ≤ 2147483647) : q_CI G yX8_keen wsX8_keen ({ frames := 1, cells := 0, slots := 0, locals := 21 } : Room) [.ref (q_ad G 0), .int (q_I v)] M (fun z M' => (¬ (0 ≤ v ∧ v ≤ 9) → z = -2 ∧ M' = M) ∧ (0 ≤ v ∧ v ≤ 9 → z = (M (1 + 1) 5) ∧ M' = q_up M (1 + 1) 5 v)) := by
  refine q_CI.of hI (by decide) rfl RX8 rfl [(0, .ref (q_ad G 0)), (1, .int (q_I v))] rfl (Nat.le_of_ble_eq_true rfl) (fun E F FI => ?_)
  have huX0 : ∀ w ∈ wsX00, w ∈ wsX8_keen := by decide +kernel
  have huX1 : ∀ w ∈ wsX10, w ∈ wsX8_keen := by decide +kernel
  have huX8 : ∀ w ∈ wsX80, w ∈ wsX8_keen := by decide +kernel
  refine q_MRof (fun hM => ?_)
  obtain ⟨xv, xf, xs, xp, xw, xi1, xi2⟩ := id hX
  have xv4 := xv.1
  have xv5 := xv.2.1
  refine q_iload_n F dX8_keen_0 1 rfl ?_
  refine q_bipush F dX8_keen_1 (by decide) ?_
  refine q_callSP (n := 2) F (c_X8_isWithin G hI M v 9 (by omega)) rfl gX8_keen_X8_isWithin ⟨by decide, by decide, by decide +kernel⟩ rfl ⟨rfl, rfl, Nat.le_of_ble_eq_true rfl, Nat.le_of_ble_eq_true rfl⟩ rfl (Nat.le_of_ble_eq_true rfl) dX8_keen_3 (fun h3 => ?_)
  refine q_ifb_ne F 12 dX8_keen_6 (by decide) (fun c6 => ?_) (fun c6 => ?_)
  · refine q_aload_n F dX8_keen_12 0 rfl ?_
    refine q_getr (T := TX8) (ref := "LeastHungry") F huX8 rfl hx.1 0 (by decide) (by decide +kernel) rfl rfl dX8_keen_13 ?_
    refine q_getr (T := TX0) (ref := "LeastHungry$Book") F huX0 rfl hx.2.1.1 0 (by decide) (by decide +kernel) rfl rfl dX8_keen_16 ?_
    refine q_geti (T := TX1) (ref := "LeastHungry$Company") F huX1 rfl hx.2.1.2.1.1 5 (by decide) (by decide +kernel) rfl 5 rfl rfl dX8_keen_19 (fun h19 => ?_)
    refine q_nm (fun v22 e22 => ?_)
    refine q_istore_n F dX8_keen_22 [(2, .int (q_I v22)), (0, .ref (q_ad G 0)), (1, .int (q_I v))] (Nat.le_of_ble_eq_true rfl) rfl ?_
    refine q_aload_n F dX8_keen_23 1 rfl ?_
    refine q_getr (T := TX8) (ref := "LeastHungry") F huX8 rfl hx.1 0 (by decide) (by decide +kernel) rfl rfl dX8_keen_24 ?_
    refine q_getr (T := TX0) (ref := "LeastHungry$Book") F huX0 rfl hx.2.1.1 0 (by decide) (by decide +kernel) rfl rfl dX8_keen_27 ?_
    refine q_iload_n F dX8_keen_30 2 rfl ?_
    refine q_puti (T := TX1) (ref := "LeastHungry$Company") F huX1 rfl hx.2.1.2.1.1 5 (by decide) (by decide +kernel) rfl 5 rfl tyX1 tyX1_ok nmX1 rfl rfl (by decide +kernel) (by omega) dX8_keen_31 (fun N31 eN31 => ?_)
    refine q_iload_n F dX8_keen_34 0 rfl ?_
    exact q_iret F FI dX8_keen_35 (by omega) ⟨fun h => absurd (q_dt c6) h, fun _ => ⟨e22, eN31⟩⟩
  · refine q_bipush F dX8_keen_9 (by decide) ?_
    exact q_iret F FI dX8_keen_11 (by omega) ⟨fun _ => ⟨rfl, rfl⟩, fun h => absurd h (q_df c6)⟩

set_option maxHeartbeats 4000000 in
set_option maxRecDepth 100000 in
theorem c_X8_feud (G : q_G) (hI : q_inj G) (M : q_M) (hx : q_lh G) (hX : q_X M) (g : Int) (o : Int) (w : Int) (hgR : -2147483648 ≤ g ∧ g ≤ 2147483647) (hoR : -2147483648 ≤ o ∧ o ≤ 2147483647) (hwR : -2147483648 ≤ w ∧ w ≤ 2147483647) (hw01 : w = 0 ∨ w = 1) : q_CI G yX8_feud wsX8_feud ({ frames := 2, cells := 0, slots := 0, locals := 47 } : Room) [.ref (q_ad G 0), .int (q_I g), .int (q_I o), .int (q_I w)] M (fun z M' => (¬ (q_has (M (1 + 1) 4) g = true ∧ q_has (M (1 + 1) 4) o = true ∧ ¬ g = o) → z = -1 ∧ M' = M) ∧ (q_has (M (1 + 1) 4) g = true ∧ q_has (M (1 + 1) 4) o = true ∧ ¬ g = o → z = S_fds (M' (1 + 6)) ∧ q_fr (1 + 6) M M' ∧ M' (1 + 6) = q_row (q_row (M (1 + 6)) g (q_fset (M (1 + 6)) g o w)) o (q_fset (M (1 + 6)) o g w))) := by
  refine q_CI.of hI (by decide) rfl RX8 rfl [(0, .ref (q_ad G 0)), (1, .int (q_I g)), (2, .int (q_I o)), (3, .int (q_I w))] rfl (Nat.le_of_ble_eq_true rfl) (fun E F FI => ?_)
  have huX0 : ∀ w ∈ wsX00, w ∈ wsX8_feud := by decide +kernel
  have huX8 : ∀ w ∈ wsX80, w ∈ wsX8_feud := by decide +kernel
  refine q_MRof (fun hM => ?_)
  obtain ⟨xv, xf, xs, xp, xw, xi1, xi2⟩ := id hX
  have xv4 := xv.1
  have xv5 := xv.2.1
  refine q_aload_n F dX8_feud_0 0 rfl ?_
  refine q_getr (T := TX8) (ref := "LeastHungry") F huX8 rfl hx.1 0 (by decide) (by decide +kernel) rfl rfl dX8_feud_1 ?_
  refine q_getr (T := TX0) (ref := "LeastHungry$Book") F huX0 rfl hx.2.1.1 0 (by decide) (by decide +kernel) rfl rfl dX8_feud_4 ?_
  refine q_iload_n F dX8_feud_7 1 rfl ?_
  refine q_callVP (n := 1) (T := TX1) F (c_X1_has G hI M (1 + 1) hx.2.1.2.1 g (by assumption) (by omega)) rfl rfl hx.2.1.2.1.1 gX8_feud_X1_has rfl ⟨by decide, by decide, by decide +kernel⟩ rfl ⟨rfl, rfl, Nat.le_of_ble_eq_true rfl, Nat.le_of_ble_eq_true rfl⟩ rfl (Nat.le_of_ble_eq_true rfl) dX8_feud_8 (fun h8 => ?_)
  refine q_ifb_eq F 33 dX8_feud_11 (by decide) (fun c11 => ?_) (fun c11 => ?_)
  · refine q_iconst F dX8_feud_33 ?_
    exact q_iret F FI dX8_feud_34 (by omega) ⟨fun _ => ⟨rfl, rfl⟩, fun h => absurd h.1 (by simp [c11])⟩
  · refine q_aload_n F dX8_feud_14 0 rfl ?_
    refine q_getr (T := TX8) (ref := "LeastHungry") F huX8 rfl hx.1 0 (by decide) (by decide +kernel) rfl rfl dX8_feud_15 ?_
    refine q_getr (T := TX0) (ref := "LeastHungry$Book") F huX0 rfl hx.2.1.1 0 (by decide) (by decide +kernel) rfl rfl dX8_feud_18 ?_
    refine q_iload_n F dX8_feud_21 2 rfl ?_
    refine q_callVP (n := 1) (T := TX1) F (c_X1_has G hI M (1 + 1) hx.2.1.2.1 o (by assumption) (by omega)) rfl rfl hx.2.1.2.1.1 gX8_feud_X1_has rfl ⟨by decide, by decide, by decide +kernel⟩ rfl ⟨rfl, rfl, Nat.le_of_ble_eq_true rfl, Nat.le_of_ble_eq_true rfl⟩ rfl (Nat.le_of_ble_eq_true rfl) dX8_feud_22 (fun h22 => ?_)
    refine q_ifb_eq F 33 dX8_feud_25 (by decide) (fun c25 => ?_) (fun c25 => ?_)
    · refine q_iconst F dX8_feud_33 ?_
      exact q_iret F FI dX8_feud_34 (by omega) ⟨fun _ => ⟨rfl, rfl⟩, fun h => absurd h.2.1 (by simp [c25])⟩
    · refine q_iload_n F dX8_feud_28 1 rfl ?_
      refine q_iload_n F dX8_feud_29 2 rfl ?_
      refine q_icmp_ne F 35 dX8_feud_30 (by decide) (by omega) (fun c30 => ?_) (fun c30 => ?_)
      · have hg1 := q_has_in c11
        have hg2 := q_has_in c25
        refine q_aload_n F dX8_feud_35 0 rfl ?_
        refine q_getr (T := TX8) (ref := "LeastHungry") F huX8 rfl hx.1 0 (by decide) (by decide +kernel) rfl rfl dX8_feud_36 ?_
        refine q_iload_n F dX8_feud_39 1 rfl ?_
        refine q_iload_n F dX8_feud_40 2 rfl ?_
        refine q_iload_n F dX8_feud_41 3 rfl ?_
        refine q_callVV (n := 3) (T := TX0) F (c_X0_setFeud G hI M 1 hx.2.1 g o w (by assumption) (by omega)) rfl rfl hx.2.1.1 gX8_feud_X0_setFeud rfl ⟨by decide, by decide, by decide +kernel⟩ rfl ⟨rfl, rfl, Nat.le_of_ble_eq_true rfl, Nat.le_of_ble_eq_true rfl⟩ rfl (Nat.le_of_ble_eq_true rfl) dX8_feud_42 (fun N42 p42 => ?_)
        have xf42 : q_fm (N42 (1 + 6)) := by rw [p42.2]; exact q_row_fm (q_row_fm xf (q_set_R _)) (q_set_R _)
        refine q_aload_n F dX8_feud_45 0 rfl ?_
        refine q_getr (T := TX8) (ref := "LeastHungry") F huX8 rfl hx.1 0 (by decide) (by decide +kernel) rfl rfl dX8_feud_46 ?_
        refine q_callVP (n := 0) (T := TX0) F (c_X0_countFeuds G hI N42 1 hx.2.1 xf42) rfl rfl hx.2.1.1 gX8_feud_X0_countFeuds rfl ⟨by decide, by decide, by decide +kernel⟩ rfl ⟨rfl, rfl, Nat.le_of_ble_eq_true rfl, Nat.le_of_ble_eq_true rfl⟩ rfl (Nat.le_of_ble_eq_true rfl) dX8_feud_49 (fun h49 => ?_)
        exact q_iret F FI dX8_feud_52 h49 ⟨fun h => absurd ⟨c11, c25, c30⟩ h, fun _ => ⟨rfl, p42.1, p42.2⟩⟩
      · refine q_iconst F dX8_feud_33 ?_
        exact q_iret F FI dX8_feud_34 (by omega) ⟨fun _ => ⟨rfl, rfl⟩, fun h => absurd c30 h.2.2⟩

set_option maxHeartbeats 4000000 in
set_option maxRecDepth 100000 in
theorem c_X8_say (G : q_G) (hI : q_inj G) (M : q_M) (hx : q_lh G) (hX : q_X M) (s : Int) (hsR : -2147483648 ≤ s ∧ s ≤ 2147483647) : q_CI G yX8_say wsX8_say ({ frames := 2, cells := 0, slots := 0, locals := 43 } : Room) [.ref (q_ad G 0), .int (q_I s)] M (fun z M' => (¬ (33 ≤ s ∧ s ≤ 126) → z = -2 ∧ M' = M) ∧ (33 ≤ s ∧ s ≤ 126 → 60 ≤ M 28 1 → z = -4 ∧ M' = M) ∧ (33 ≤ s ∧ s ≤ 126 → M 28 1 < 60 → z = M 28 1 + 1 ∧ M' = q_up (q_up M (28 + 1) (M 28 1) s) 28 1 (M 28 1 + 1))) := by
  refine q_CI.of hI (by decide) rfl RX8 rfl [(0, .ref (q_ad G 0)), (1, .int (q_I s))] rfl (Nat.le_of_ble_eq_true rfl) (fun E F FI => ?_)
  have huX8 : ∀ w ∈ wsX80, w ∈ wsX8_say := by decide +kernel
  refine q_MRof (fun hM => ?_)
  obtain ⟨xv, xf, xs, xp, xw, xi1, xi2⟩ := id hX
  have xv4 := xv.1
  have xv5 := xv.2.1
  refine q_iload_n F dX8_say_0 1 rfl ?_
  refine q_bipush F dX8_say_1 (by decide) ?_
  refine q_icmp_lt F 12 dX8_say_3 (by decide) (by omega) (fun c3 => ?_) (fun c3 => ?_)
  · refine q_bipush F dX8_say_12 (by decide) ?_
    exact q_iret F FI dX8_say_14 (by omega) ⟨fun _ => ⟨rfl, rfl⟩, fun h => absurd h (by omega), fun h => absurd h (by omega)⟩
  · refine q_iload_n F dX8_say_6 1 rfl ?_
    refine q_bipush F dX8_say_7 (by decide) ?_
    refine q_icmp_le F 15 dX8_say_9 (by decide) (by omega) (fun c9 => ?_) (fun c9 => ?_)
    · refine q_aload_n F dX8_say_15 0 rfl ?_
      refine q_getr (T := TX8) (ref := "LeastHungry") F huX8 rfl hx.1 3 (by decide) (by decide +kernel) rfl rfl dX8_say_16 ?_
      refine q_iload_n F dX8_say_19 1 rfl ?_
      refine q_callVI (n := 1) (T := TX3) F (c_X3_add G hI M 28 hx.2.2.2.2.1 s (by assumption) (by omega)) rfl rfl hx.2.2.2.2.1.1 gX8_say_X3_add rfl ⟨by decide, by decide, by decide +kernel⟩ rfl ⟨rfl, rfl, Nat.le_of_ble_eq_true rfl, Nat.le_of_ble_eq_true rfl⟩ rfl (Nat.le_of_ble_eq_true rfl) dX8_say_20 (fun r20 N20 h20 p20 => ?_)
      exact q_iret F FI dX8_say_23 (by omega) ⟨fun h => absurd h (by omega), fun _ => p20.1, fun _ => p20.2⟩
    · refine q_bipush F dX8_say_12 (by decide) ?_
      exact q_iret F FI dX8_say_14 (by omega) ⟨fun _ => ⟨rfl, rfl⟩, fun h => absurd h (by omega), fun h => absurd h (by omega)⟩

set_option maxHeartbeats 4000000 in
set_option maxRecDepth 100000 in
theorem c_X8_wipe (G : q_G) (hI : q_inj G) (M : q_M) (hx : q_lh G) (hX : q_X M) : q_CI G yX8_wipe wsX8_wipe ({ frames := 1, cells := 0, slots := 0, locals := 21 } : Room) [.ref (q_ad G 0)] M (fun z M' => z = M 28 1 ∧ M' = q_up M 28 1 0) := by
  refine q_CI.of hI (by decide) rfl RX8 rfl [(0, .ref (q_ad G 0))] rfl (Nat.le_of_ble_eq_true rfl) (fun E F FI => ?_)
  have huX8 : ∀ w ∈ wsX80, w ∈ wsX8_wipe := by decide +kernel
  refine q_MRof (fun hM => ?_)
  obtain ⟨xv, xf, xs, xp, xw, xi1, xi2⟩ := id hX
  have xv4 := xv.1
  have xv5 := xv.2.1
  refine q_aload_n F dX8_wipe_0 0 rfl ?_
  refine q_getr (T := TX8) (ref := "LeastHungry") F huX8 rfl hx.1 3 (by decide) (by decide +kernel) rfl rfl dX8_wipe_1 ?_
  refine q_callVI (n := 0) (T := TX3) F (c_X3_clear G hI M 28 hx.2.2.2.2.1) rfl rfl hx.2.2.2.2.1.1 gX8_wipe_X3_clear rfl ⟨by decide, by decide, by decide +kernel⟩ rfl ⟨rfl, rfl, Nat.le_of_ble_eq_true rfl, Nat.le_of_ble_eq_true rfl⟩ rfl (Nat.le_of_ble_eq_true rfl) dX8_wipe_4 (fun r4 N4 h4 p4 => ?_)
  exact q_iret F FI dX8_wipe_7 (by omega) p4

set_option maxHeartbeats 4000000 in
set_option maxRecDepth 100000 in
theorem c_X8_fault (G : q_G) (hI : q_inj G) (M : q_M) (hx : q_lh G) (hX : q_X M) : q_CI G yX8_fault wsX8_fault ({ frames := 3, cells := 0, slots := 0, locals := 64 } : Room) [.ref (q_ad G 0)] M (fun z M' => z = (q_flt (M (28 + 1)) (M 28 1) 61 0) ∧ M' = M) := by
  refine q_CI.of hI (by decide) rfl RX8 rfl [(0, .ref (q_ad G 0))] rfl (Nat.le_of_ble_eq_true rfl) (fun E F FI => ?_)
  have huX8 : ∀ w ∈ wsX80, w ∈ wsX8_fault := by decide +kernel
  refine q_MRof (fun hM => ?_)
  obtain ⟨xv, xf, xs, xp, xw, xi1, xi2⟩ := id hX
  have xv4 := xv.1
  have xv5 := xv.2.1
  refine q_aload_n F dX8_fault_0 0 rfl ?_
  refine q_getr (T := TX8) (ref := "LeastHungry") F huX8 rfl hx.1 3 (by decide) (by decide +kernel) rfl rfl dX8_fault_1 ?_
  refine q_callVP (n := 0) (T := TX3) F (c_X3_firstFault G hI M 28 hx.2.2.2.2.1 (by assumption)) rfl rfl hx.2.2.2.2.1.1 gX8_fault_X3_firstFault rfl ⟨by decide, by decide, by decide +kernel⟩ rfl ⟨rfl, rfl, Nat.le_of_ble_eq_true rfl, Nat.le_of_ble_eq_true rfl⟩ rfl (Nat.le_of_ble_eq_true rfl) dX8_fault_4 (fun h4 => ?_)
  exact q_iret F FI dX8_fault_7 (by omega) ⟨rfl, rfl⟩

set_option maxHeartbeats 4000000 in
set_option maxRecDepth 100000 in
theorem c_X8_judge (G : q_G) (hI : q_inj G) (M : q_M) (hx : q_lh G) (hX : q_X M) (w : Int) (hwR : -2147483648 ≤ w ∧ w ≤ 2147483647) : q_CI G yX8_judge wsX8_judge ({ frames := 7, cells := 0, slots := 0, locals := 167 } : Room) [.ref (q_ad G 0), .int (q_I w)] M (fun z M' => z = S_judge (q_flt (M (28 + 1)) (M 28 1) 61 0) w (q_NI (M (1 + 1) 4) (M (1 + 1) 5) (M (28 + 1)) (M 28 1) 0 (M (1 + 1 + 1)) (M (1 + 1 + 2)) (M (1 + 1 + 3))) ∧ q_kp M M' ∧ q_ww M') := by
  refine q_CI.of hI (by decide) rfl RX8 rfl [(0, .ref (q_ad G 0)), (1, .int (q_I w))] rfl (Nat.le_of_ble_eq_true rfl) (fun E F FI => ?_)
  have huX0 : ∀ w ∈ wsX00, w ∈ wsX8_judge := by decide +kernel
  have huX6 : ∀ w ∈ wsX60, w ∈ wsX8_judge := by decide +kernel
  have huX8 : ∀ w ∈ wsX80, w ∈ wsX8_judge := by decide +kernel
  refine q_MRof (fun hM => ?_)
  obtain ⟨xv, xf, xs, xp, xw, xi1, xi2⟩ := id hX
  have xv4 := xv.1
  have xv5 := xv.2.1
  refine q_iload_n F dX8_judge_0 1 rfl ?_
  refine q_iconst F dX8_judge_1 ?_
  refine q_callSP (n := 2) F (c_X8_isWithin G hI M w 1 (by omega)) rfl gX8_judge_X8_isWithin ⟨by decide, by decide, by decide +kernel⟩ rfl ⟨rfl, rfl, Nat.le_of_ble_eq_true rfl, Nat.le_of_ble_eq_true rfl⟩ rfl (Nat.le_of_ble_eq_true rfl) dX8_judge_2 (fun h2 => ?_)
  refine q_ifb_ne F 11 dX8_judge_5 (by decide) (fun c5 => ?_) (fun c5 => ?_)
  · refine q_aload_n F dX8_judge_11 0 rfl ?_
    refine q_getr (T := TX8) (ref := "LeastHungry") F huX8 rfl hx.1 3 (by decide) (by decide +kernel) rfl rfl dX8_judge_12 ?_
    refine q_callVP (n := 0) (T := TX3) F (c_X3_firstFault G hI M 28 hx.2.2.2.2.1 (by assumption)) rfl rfl hx.2.2.2.2.1.1 gX8_judge_X3_firstFault rfl ⟨by decide, by decide, by decide +kernel⟩ rfl ⟨rfl, rfl, Nat.le_of_ble_eq_true rfl, Nat.le_of_ble_eq_true rfl⟩ rfl (Nat.le_of_ble_eq_true rfl) dX8_judge_15 (fun h15 => ?_)
    refine q_bipush F dX8_judge_18 (by decide) ?_
    refine q_icmp_eq F 26 dX8_judge_20 (by decide) (by omega) (fun c20 => ?_) (fun c20 => ?_)
    · refine q_aload_n F dX8_judge_26 0 rfl ?_
      refine q_getr (T := TX8) (ref := "LeastHungry") F huX8 rfl hx.1 4 (by decide) (by decide +kernel) rfl rfl dX8_judge_27 ?_
      refine q_aload_n F dX8_judge_30 0 rfl ?_
      refine q_getr (T := TX8) (ref := "LeastHungry") F huX8 rfl hx.1 3 (by decide) (by decide +kernel) rfl rfl dX8_judge_31 ?_
      refine q_aload_n F dX8_judge_34 0 rfl ?_
      refine q_getr (T := TX8) (ref := "LeastHungry") F huX8 rfl hx.1 0 (by decide) (by decide +kernel) rfl rfl dX8_judge_35 ?_
      refine q_getr (T := TX0) (ref := "LeastHungry$Book") F huX0 rfl hx.2.1.1 0 (by decide) (by decide +kernel) rfl rfl dX8_judge_38 ?_
      refine q_iconst F dX8_judge_41 ?_
      refine q_callVI (n := 3) (T := TX6) F (c_X6_play G hI M 30 hx.2.2.2.2.2.1 28 hx.2.2.2.2.1 (1 + 1) hx.2.1.2.1 0 (by assumption) (by assumption) (by omega) (by omega)) rfl rfl hx.2.2.2.2.2.1.1 gX8_judge_X6_play rfl ⟨by decide, by decide, by decide +kernel⟩ rfl ⟨rfl, rfl, Nat.le_of_ble_eq_true rfl, Nat.le_of_ble_eq_true rfl⟩ rfl (Nat.le_of_ble_eq_true rfl) dX8_judge_42 (fun r42 N42 h42 p42 => ?_)
      obtain ⟨b42, rfl, p42⟩ := p42
      have kp := q_pl_kp p42.1 xw
      have q42 := p42.2.2.2.2 c20
      refine q_pop F dX8_judge_45 rfl ?_
      refine q_iload_n F dX8_judge_46 1 rfl ?_
      refine q_if_ne F 60 dX8_judge_47 (by decide) (by omega) (fun c47 => ?_) (fun c47 => ?_)
      · refine q_aload_n F dX8_judge_60 0 rfl ?_
        refine q_getr (T := TX8) (ref := "LeastHungry") F huX8 rfl hx.1 4 (by decide) (by decide +kernel) rfl rfl dX8_judge_61 ?_
        refine q_geti (T := TX6) (ref := "LeastHungry$Trial") F huX6 rfl hx.2.2.2.2.2.1.1 8 (by decide) (by decide +kernel) rfl 8 rfl rfl dX8_judge_64 (fun h64 => ?_)
        exact q_iret F FI dX8_judge_67 (by omega) ⟨by unfold S_judge; rw [if_pos (q_dt c5), if_pos c20, if_neg c47]; exact q42.2.2.1, kp⟩
      · refine q_aload_n F dX8_judge_50 0 rfl ?_
        refine q_getr (T := TX8) (ref := "LeastHungry") F huX8 rfl hx.1 4 (by decide) (by decide +kernel) rfl rfl dX8_judge_51 ?_
        refine q_geti (T := TX6) (ref := "LeastHungry$Trial") F huX6 rfl hx.2.2.2.2.2.1.1 7 (by decide) (by decide +kernel) rfl 7 rfl rfl dX8_judge_54 (fun h54 => ?_)
        refine q_goto F 67 dX8_judge_57 (by decide) ?_
        exact q_iret F FI dX8_judge_67 (by omega) ⟨by unfold S_judge; rw [if_pos (q_dt c5), if_pos c20, if_pos c47]; exact q42.2.1, kp⟩
    · refine q_bipush F dX8_judge_23 (by decide) ?_
      exact q_iret F FI dX8_judge_25 (by omega) ⟨by unfold S_judge; rw [if_pos (q_dt c5), if_neg c20], q_kp_rf, xw⟩
  · refine q_bipush F dX8_judge_8 (by decide) ?_
    exact q_iret F FI dX8_judge_10 (by omega) ⟨by unfold S_judge; rw [if_neg (q_df c5)], q_kp_rf, xw⟩

set_option maxHeartbeats 4000000 in
set_option maxRecDepth 100000 in
theorem c_X8_done (G : q_G) (hI : q_inj G) (M : q_M) (hx : q_lh G) (hX : q_X M) : q_CI G yX8_done wsX8_done ({ frames := 7, cells := 0, slots := 0, locals := 167 } : Room) [.ref (q_ad G 0)] M (fun z M' => z = S_done (q_flt (M (28 + 1)) (M 28 1) 61 0) (q_NI (M (1 + 1) 4) (M (1 + 1) 5) (M (28 + 1)) (M 28 1) 0 (M (1 + 1 + 1)) (M (1 + 1 + 2)) (M (1 + 1 + 3))) ∧ q_ww M' ∧ (¬ S_bar (q_flt (M (28 + 1)) (M 28 1) 61 0) (q_NI (M (1 + 1) 4) (M (1 + 1) 5) (M (28 + 1)) (M 28 1) 0 (M (1 + 1 + 1)) (M (1 + 1 + 2)) (M (1 + 1 + 3))) → q_kp M M') ∧ (S_bar (q_flt (M (28 + 1)) (M 28 1) 61 0) (q_NI (M (1 + 1) 4) (M (1 + 1) 5) (M (28 + 1)) (M 28 1) 0 (M (1 + 1 + 1)) (M (1 + 1 + 2)) (M (1 + 1 + 3))) → (∀ j, j < 30 → j ≠ 6 → (j < 1 + 1 ∨ 1 + 1 + 3 < j) → j ≠ 28 → M' j = M j) ∧ M' 28 1 = 0 ∧ (M' (1 + 1) 4 = (M (1 + 1) 4) ∧ M' (1 + 1) 5 = (M (1 + 1) 5)) ∧ q_cv M' (1 + 1) ∧ ∀ x, q_has (M (1 + 1) 4) x = true → M' (1 + 1 + 1) x = qt_h (q_NI (M (1 + 1) 4) (M (1 + 1) 5) (M (28 + 1)) (M 28 1) 0 (M (1 + 1 + 1)) (M (1 + 1 + 2)) (M (1 + 1 + 3))).2.2 x ∧ M' (1 + 1 + 2) x = qt_f (q_NI (M (1 + 1) 4) (M (1 + 1) 5) (M (28 + 1)) (M 28 1) 0 (M (1 + 1 + 1)) (M (1 + 1 + 2)) (M (1 + 1 + 3))).2.2 x ∧ M' (1 + 1 + 3) x = qt_a (q_NI (M (1 + 1) 4) (M (1 + 1) 5) (M (28 + 1)) (M 28 1) 0 (M (1 + 1 + 1)) (M (1 + 1 + 2)) (M (1 + 1 + 3))).2.2 x)) := by
  refine q_CI.of hI (by decide) rfl RX8 rfl [(0, .ref (q_ad G 0))] rfl (Nat.le_of_ble_eq_true rfl) (fun E F FI => ?_)
  have huX0 : ∀ w ∈ wsX00, w ∈ wsX8_done := by decide +kernel
  have huX6 : ∀ w ∈ wsX60, w ∈ wsX8_done := by decide +kernel
  have huX8 : ∀ w ∈ wsX80, w ∈ wsX8_done := by decide +kernel
  refine q_MRof (fun hM => ?_)
  obtain ⟨xv, xf, xs, xp, xw, xi1, xi2⟩ := id hX
  have xv4 := xv.1
  have xv5 := xv.2.1
  refine q_aload_n F dX8_done_0 0 rfl ?_
  refine q_getr (T := TX8) (ref := "LeastHungry") F huX8 rfl hx.1 4 (by decide) (by decide +kernel) rfl rfl dX8_done_1 ?_
  refine q_aload_n F dX8_done_4 0 rfl ?_
  refine q_getr (T := TX8) (ref := "LeastHungry") F huX8 rfl hx.1 3 (by decide) (by decide +kernel) rfl rfl dX8_done_5 ?_
  refine q_aload_n F dX8_done_8 0 rfl ?_
  refine q_getr (T := TX8) (ref := "LeastHungry") F huX8 rfl hx.1 0 (by decide) (by decide +kernel) rfl rfl dX8_done_9 ?_
  refine q_getr (T := TX0) (ref := "LeastHungry$Book") F huX0 rfl hx.2.1.1 0 (by decide) (by decide +kernel) rfl rfl dX8_done_12 ?_
  refine q_iconst F dX8_done_15 ?_
  refine q_callVI (n := 3) (T := TX6) F (c_X6_play G hI M 30 hx.2.2.2.2.2.1 28 hx.2.2.2.2.1 (1 + 1) hx.2.1.2.1 0 (by assumption) (by assumption) (by omega) (by omega)) rfl rfl hx.2.2.2.2.2.1.1 gX8_done_X6_play rfl ⟨by decide, by decide, by decide +kernel⟩ rfl ⟨rfl, rfl, Nat.le_of_ble_eq_true rfl, Nat.le_of_ble_eq_true rfl⟩ rfl (Nat.le_of_ble_eq_true rfl) dX8_done_16 (fun r16 N16 h16 p16 => ?_)
  obtain ⟨b16, rfl, p16⟩ := p16
  have kp := q_pl_kp p16.1 xw
  refine q_ifb_ne F 25 dX8_done_19 (by decide) (fun c19 => ?_) (fun c19 => ?_)
  · have hfl : (q_flt (M (28 + 1)) (M 28 1) 61 0) = -6 := by
      by_cases h : (q_flt (M (28 + 1)) (M 28 1) 61 0) = -6
      · exact h
      · rw [p16.2.2.2.1 h] at c19
        cases c19
    have q16 := p16.2.2.2.2 hfl
    have hbar : S_bar (q_flt (M (28 + 1)) (M 28 1) 61 0) (q_NI (M (1 + 1) 4) (M (1 + 1) 5) (M (28 + 1)) (M 28 1) 0 (M (1 + 1 + 1)) (M (1 + 1 + 2)) (M (1 + 1 + 3))) := ⟨hfl, by rw [q16.1] at c19; exact q_dt c19⟩
    refine q_aload_n F dX8_done_25 0 rfl ?_
    refine q_getr (T := TX8) (ref := "LeastHungry") F huX8 rfl hx.1 0 (by decide) (by decide +kernel) rfl rfl dX8_done_26 ?_
    refine q_getr (T := TX0) (ref := "LeastHungry$Book") F huX0 rfl hx.2.1.1 0 (by decide) (by decide +kernel) rfl rfl dX8_done_29 ?_
    refine q_aload_n F dX8_done_32 0 rfl ?_
    refine q_getr (T := TX8) (ref := "LeastHungry") F huX8 rfl hx.1 4 (by decide) (by decide +kernel) rfl rfl dX8_done_33 ?_
    refine q_getr (T := TX6) (ref := "LeastHungry$Trial") F huX6 rfl hx.2.2.2.2.2.1.1 0 (by decide) (by decide +kernel) rfl rfl dX8_done_36 ?_
    refine q_callVV (n := 1) (T := TX1) F (c_X1_become G hI N16 (1 + 1) hx.2.1.2.1 (30 + 1) hx.2.2.2.2.2.1.2.1 (by omega)) rfl rfl hx.2.1.2.1.1 gX8_done_X1_become rfl ⟨by decide, by decide, by decide +kernel⟩ rfl ⟨rfl, rfl, Nat.le_of_ble_eq_true rfl, Nat.le_of_ble_eq_true rfl⟩ rfl (Nat.le_of_ble_eq_true rfl) dX8_done_39 (fun N39 p39 => ?_)
    refine q_aload_n F dX8_done_42 0 rfl ?_
    refine q_getr (T := TX8) (ref := "LeastHungry") F huX8 rfl hx.1 3 (by decide) (by decide +kernel) rfl rfl dX8_done_43 ?_
    refine q_callVI (n := 0) (T := TX3) F (c_X3_clear G hI N39 28 hx.2.2.2.2.1) rfl rfl hx.2.2.2.2.1.1 gX8_done_X3_clear rfl ⟨by decide, by decide, by decide +kernel⟩ rfl ⟨rfl, rfl, Nat.le_of_ble_eq_true rfl, Nat.le_of_ble_eq_true rfl⟩ rfl (Nat.le_of_ble_eq_true rfl) dX8_done_46 (fun r46 N46 h46 p46 => ?_)
    refine q_pop F dX8_done_49 rfl ?_
    refine q_aload_n F dX8_done_50 0 rfl ?_
    refine q_getr (T := TX8) (ref := "LeastHungry") F huX8 rfl hx.1 4 (by decide) (by decide +kernel) rfl rfl dX8_done_51 ?_
    refine q_geti (T := TX6) (ref := "LeastHungry$Trial") F huX6 rfl hx.2.2.2.2.2.1.1 5 (by decide) (by decide +kernel) rfl 5 rfl rfl dX8_done_54 (fun h54 => ?_)
    exact q_iret F FI dX8_done_57 (by omega) (by
      obtain ⟨b1, b2, b3, b4⟩ := p39
      obtain ⟨-, d2⟩ := p46
      have fr : ∀ j : Nat, j ≠ 28 → (j < 1 + 1 ∨ 1 + 1 + 3 < j) → N46 j = N16 j := fun j h1 h2 => by rw [d2, q_up_ne h1]; exact b1 j h2
      have c4 : N46 (1 + 1) 4 = M (1 + 1) 4 := by rw [d2, q_up_ne (by omega), b2]; exact p16.2.2.1.1
      have c5 : N46 (1 + 1) 5 = M (1 + 1) 5 := by rw [d2, q_up_ne (by omega), b3]; exact p16.2.2.1.2
      have rr : ∀ x, 0 ≤ x → x < 6 → N46 (1 + 1 + 1) x = N16 (30 + 1 + 1) x ∧ N46 (1 + 1 + 2) x = N16 (30 + 1 + 2) x ∧ N46 (1 + 1 + 3) x = N16 (30 + 1 + 3) x := fun x h0 h1 => by
        rw [d2, q_up_ne (by omega), q_up_ne (by omega), q_up_ne (by omega)]; exact b4 x h0 h1
      have cv := p16.2.1
      refine ⟨?_, fun i h0 h1 => by rw [fr _ (by omega) (by omega)]; exact kp.2 i h0 h1, fun h => absurd hbar h, fun _ => ⟨fun j h1 h2 h3 h4 => by rw [fr j h4 h3]; exact kp.1 j h1 h2, by rw [d2, q_up_at, if_pos rfl], ⟨c4, c5⟩, ⟨by rw [c4]; exact xv4, by rw [c5]; exact xv5, fun x h0 h1 => by rw [(rr x h0 h1).1]; exact cv.2.2.1 x h0 h1, fun x h0 h1 => by rw [(rr x h0 h1).2.1]; exact cv.2.2.2.1 x h0 h1, fun x h0 h1 => by rw [(rr x h0 h1).2.2]; exact cv.2.2.2.2 x h0 h1⟩, fun x hx => ?_⟩⟩
      · unfold S_done
        rw [if_pos (show q_flt (M (28 + 1)) (M 28 1) 61 0 = -6 ∧ _ from hbar), fr 30 (by omega) (by omega)]
        exact q16.2.2.2.2.2.2.1
      · have hi := q_has_in hx
        have hr := rr x hi.1 hi.2
        have hs := q16.2.2.2.1 x hx
        exact ⟨hr.1.trans hs.1, hr.2.1.trans hs.2.1, hr.2.2.trans hs.2.2⟩)
  · refine q_bipush F dX8_done_22 (by decide) ?_
    exact q_iret F FI dX8_done_24 (by omega) (by
      have hnb : ¬ S_bar (q_flt (M (28 + 1)) (M 28 1) 61 0) (q_NI (M (1 + 1) 4) (M (1 + 1) 5) (M (28 + 1)) (M 28 1) 0 (M (1 + 1 + 1)) (M (1 + 1 + 2)) (M (1 + 1 + 3))) := fun h => by
        have := (p16.2.2.2.2 h.1).1
        rw [c19] at this
        exact q_df this.symm h.2
      exact ⟨by unfold S_done; rw [if_neg (show ¬ (q_flt (M (28 + 1)) (M 28 1) 61 0 = -6 ∧ _) from hnb)], kp.2, fun _ => kp.1, fun h => absurd h hnb⟩)

set_option maxHeartbeats 4000000 in
set_option maxRecDepth 100000 in
theorem c_X8_state (G : q_G) (hI : q_inj G) (M : q_M) (hx : q_lh G) (hX : q_X M) (g : Int) (w : Int) (hgR : -2147483648 ≤ g ∧ g ≤ 2147483647) (hwR : -2147483648 ≤ w ∧ w ≤ 2147483647) : q_CI G yX8_state wsX8_state ({ frames := 2, cells := 0, slots := 0, locals := 42 } : Room) [.ref (q_ad G 0), .int (q_I g), .int (q_I w)] M (fun z M' => z = S_state (M (1 + 1 + 1)) (M (1 + 1 + 2)) (M (1 + 1 + 3)) (M (1 + 1) 4) g w ∧ M' = M) := by
  refine q_CI.of hI (by decide) rfl RX8 rfl [(0, .ref (q_ad G 0)), (1, .int (q_I g)), (2, .int (q_I w))] rfl (Nat.le_of_ble_eq_true rfl) (fun E F FI => ?_)
  have huX0 : ∀ w ∈ wsX00, w ∈ wsX8_state := by decide +kernel
  have huX1 : ∀ w ∈ wsX10, w ∈ wsX8_state := by decide +kernel
  have huX8 : ∀ w ∈ wsX80, w ∈ wsX8_state := by decide +kernel
  refine q_MRof (fun hM => ?_)
  obtain ⟨xv, xf, xs, xp, xw, xi1, xi2⟩ := id hX
  have xv4 := xv.1
  have xv5 := xv.2.1
  refine q_aload_n F dX8_state_0 0 rfl ?_
  refine q_getr (T := TX8) (ref := "LeastHungry") F huX8 rfl hx.1 0 (by decide) (by decide +kernel) rfl rfl dX8_state_1 ?_
  refine q_getr (T := TX0) (ref := "LeastHungry$Book") F huX0 rfl hx.2.1.1 0 (by decide) (by decide +kernel) rfl rfl dX8_state_4 ?_
  refine q_iload_n F dX8_state_7 1 rfl ?_
  refine q_callVP (n := 1) (T := TX1) F (c_X1_has G hI M (1 + 1) hx.2.1.2.1 g (by assumption) (by omega)) rfl rfl hx.2.1.2.1.1 gX8_state_X1_has rfl ⟨by decide, by decide, by decide +kernel⟩ rfl ⟨rfl, rfl, Nat.le_of_ble_eq_true rfl, Nat.le_of_ble_eq_true rfl⟩ rfl (Nat.le_of_ble_eq_true rfl) dX8_state_8 (fun h8 => ?_)
  refine q_ifb_ne F 16 dX8_state_11 (by decide) (fun c11 => ?_) (fun c11 => ?_)
  · have hgi := q_has_in c11
    refine q_iload_n F dX8_state_16 2 rfl ?_
    rcases (show w = 0 ∨ w = 1 ∨ w = 2 ∨ (w < 0 ∨ 2 < w) by omega) with c17 | c17 | c17 | c17
    · refine q_tableIn F 0 44 dX8_state_17 c17 (by decide) rfl (by decide) ?_
      refine q_aload_n F dX8_state_44 0 rfl ?_
      refine q_getr (T := TX8) (ref := "LeastHungry") F huX8 rfl hx.1 0 (by decide) (by decide +kernel) rfl rfl dX8_state_45 ?_
      refine q_getr (T := TX0) (ref := "LeastHungry$Book") F huX0 rfl hx.2.1.1 0 (by decide) (by decide +kernel) rfl rfl dX8_state_48 ?_
      refine q_getr (T := TX1) (ref := "LeastHungry$Company") F huX1 rfl hx.2.1.2.1.1 0 (by decide) (by decide +kernel) rfl rfl dX8_state_51 ?_
      refine q_iload_n F dX8_state_54 1 rfl ?_
      refine q_callSP (n := 2) F (c_X8_at G hI M ((1 + 1) + 1) 6 hx.2.1.2.1.2.1 g (by omega)) rfl gX8_state_X8_at ⟨by decide, by decide, by decide +kernel⟩ rfl ⟨rfl, rfl, Nat.le_of_ble_eq_true rfl, Nat.le_of_ble_eq_true rfl⟩ rfl (Nat.le_of_ble_eq_true rfl) dX8_state_55 (fun h55 => ?_)
      exact q_iret F FI dX8_state_58 (by omega) ⟨by unfold S_state; rw [if_pos c11, if_pos c17], rfl⟩
    · refine q_tableIn F 1 59 dX8_state_17 c17 (by decide) rfl (by decide) ?_
      refine q_aload_n F dX8_state_59 0 rfl ?_
      refine q_getr (T := TX8) (ref := "LeastHungry") F huX8 rfl hx.1 0 (by decide) (by decide +kernel) rfl rfl dX8_state_60 ?_
      refine q_getr (T := TX0) (ref := "LeastHungry$Book") F huX0 rfl hx.2.1.1 0 (by decide) (by decide +kernel) rfl rfl dX8_state_63 ?_
      refine q_iload_n F dX8_state_66 1 rfl ?_
      refine q_callVP (n := 1) (T := TX1) F (c_X1_shownBy G hI M (1 + 1) hx.2.1.2.1 g (by assumption) (by omega)) rfl rfl hx.2.1.2.1.1 gX8_state_X1_shownBy rfl ⟨by decide, by decide, by decide +kernel⟩ rfl ⟨rfl, rfl, Nat.le_of_ble_eq_true rfl, Nat.le_of_ble_eq_true rfl⟩ rfl (Nat.le_of_ble_eq_true rfl) dX8_state_67 (fun h67 => ?_)
      exact q_iret F FI dX8_state_70 (by omega) ⟨by unfold S_state; rw [if_pos c11, if_neg (by omega), if_pos c17], rfl⟩
    · refine q_tableIn F 2 71 dX8_state_17 c17 (by decide) rfl (by decide) ?_
      refine q_aload_n F dX8_state_71 0 rfl ?_
      refine q_getr (T := TX8) (ref := "LeastHungry") F huX8 rfl hx.1 0 (by decide) (by decide +kernel) rfl rfl dX8_state_72 ?_
      refine q_getr (T := TX0) (ref := "LeastHungry$Book") F huX0 rfl hx.2.1.1 0 (by decide) (by decide +kernel) rfl rfl dX8_state_75 ?_
      refine q_getr (T := TX1) (ref := "LeastHungry$Company") F huX1 rfl hx.2.1.2.1.1 2 (by decide) (by decide +kernel) rfl rfl dX8_state_78 ?_
      refine q_iload_n F dX8_state_81 1 rfl ?_
      refine q_callSP (n := 2) F (c_X8_at G hI M ((1 + 1) + 3) 6 hx.2.1.2.1.2.2.2.1 g (by omega)) rfl gX8_state_X8_at ⟨by decide, by decide, by decide +kernel⟩ rfl ⟨rfl, rfl, Nat.le_of_ble_eq_true rfl, Nat.le_of_ble_eq_true rfl⟩ rfl (Nat.le_of_ble_eq_true rfl) dX8_state_82 (fun h82 => ?_)
      exact q_iret F FI dX8_state_85 (by omega) ⟨by unfold S_state; rw [if_pos c11, if_neg (by omega), if_neg (by omega), if_pos c17], rfl⟩
    · refine q_tableOut F 86 dX8_state_17 (by omega) (by decide) ?_
      refine q_bipush F dX8_state_86 (by decide) ?_
      exact q_iret F FI dX8_state_88 (by omega) ⟨by unfold S_state; rw [if_pos c11, if_neg (by omega), if_neg (by omega), if_neg (by omega)], rfl⟩
  · refine q_iconst F dX8_state_14 ?_
    exact q_iret F FI dX8_state_15 (by omega) ⟨by unfold S_state; rw [if_neg (by simp [c11])], rfl⟩

set_option maxHeartbeats 4000000 in
set_option maxRecDepth 100000 in
theorem c_X8_behind (G : q_G) (hI : q_inj G) (M : q_M) (hx : q_lh G) (hX : q_X M) (g : Int) (w : Int) (hgR : -2147483648 ≤ g ∧ g ≤ 2147483647) (hwR : -2147483648 ≤ w ∧ w ≤ 2147483647) : q_CI G yX8_behind wsX8_behind ({ frames := 7, cells := 0, slots := 0, locals := 167 } : Room) [.ref (q_ad G 0), .int (q_I g), .int (q_I w)] M (fun z M' => z = S_behind (M (1 + 1) 4) g w (q_flt (M (28 + 1)) (M 28 1) 61 0) (q_NI (M (1 + 1) 4) (M (1 + 1) 5) (M (28 + 1)) (M 28 1) 0 (M (1 + 1 + 1)) (M (1 + 1 + 2)) (M (1 + 1 + 3))) ∧ q_kp M M' ∧ q_ww M') := by
  refine q_CI.of hI (by decide) rfl RX8 rfl [(0, .ref (q_ad G 0)), (1, .int (q_I g)), (2, .int (q_I w))] rfl (Nat.le_of_ble_eq_true rfl) (fun E F FI => ?_)
  have huX0 : ∀ w ∈ wsX00, w ∈ wsX8_behind := by decide +kernel
  have huX1 : ∀ w ∈ wsX10, w ∈ wsX8_behind := by decide +kernel
  have huX6 : ∀ w ∈ wsX60, w ∈ wsX8_behind := by decide +kernel
  have huX8 : ∀ w ∈ wsX80, w ∈ wsX8_behind := by decide +kernel
  refine q_MRof (fun hM => ?_)
  obtain ⟨xv, xf, xs, xp, xw, xi1, xi2⟩ := id hX
  have xv4 := xv.1
  have xv5 := xv.2.1
  refine q_aload_n F dX8_behind_0 0 rfl ?_
  refine q_getr (T := TX8) (ref := "LeastHungry") F huX8 rfl hx.1 0 (by decide) (by decide +kernel) rfl rfl dX8_behind_1 ?_
  refine q_getr (T := TX0) (ref := "LeastHungry$Book") F huX0 rfl hx.2.1.1 0 (by decide) (by decide +kernel) rfl rfl dX8_behind_4 ?_
  refine q_iload_n F dX8_behind_7 1 rfl ?_
  refine q_callVP (n := 1) (T := TX1) F (c_X1_has G hI M (1 + 1) hx.2.1.2.1 g (by assumption) (by omega)) rfl rfl hx.2.1.2.1.1 gX8_behind_X1_has rfl ⟨by decide, by decide, by decide +kernel⟩ rfl ⟨rfl, rfl, Nat.le_of_ble_eq_true rfl, Nat.le_of_ble_eq_true rfl⟩ rfl (Nat.le_of_ble_eq_true rfl) dX8_behind_8 (fun h8 => ?_)
  refine q_ifb_ne F 16 dX8_behind_11 (by decide) (fun c11 => ?_) (fun c11 => ?_)
  · have hgi := q_has_in c11
    refine q_iload_n F dX8_behind_16 2 rfl ?_
    refine q_iconst F dX8_behind_17 ?_
    refine q_callSP (n := 2) F (c_X8_isWithin G hI M w 3 (by omega)) rfl gX8_behind_X8_isWithin ⟨by decide, by decide, by decide +kernel⟩ rfl ⟨rfl, rfl, Nat.le_of_ble_eq_true rfl, Nat.le_of_ble_eq_true rfl⟩ rfl (Nat.le_of_ble_eq_true rfl) dX8_behind_18 (fun h18 => ?_)
    refine q_ifb_ne F 27 dX8_behind_21 (by decide) (fun c21 => ?_) (fun c21 => ?_)
    · refine q_aload_n F dX8_behind_27 0 rfl ?_
      refine q_getr (T := TX8) (ref := "LeastHungry") F huX8 rfl hx.1 4 (by decide) (by decide +kernel) rfl rfl dX8_behind_28 ?_
      refine q_aload_n F dX8_behind_31 0 rfl ?_
      refine q_getr (T := TX8) (ref := "LeastHungry") F huX8 rfl hx.1 3 (by decide) (by decide +kernel) rfl rfl dX8_behind_32 ?_
      refine q_aload_n F dX8_behind_35 0 rfl ?_
      refine q_getr (T := TX8) (ref := "LeastHungry") F huX8 rfl hx.1 0 (by decide) (by decide +kernel) rfl rfl dX8_behind_36 ?_
      refine q_getr (T := TX0) (ref := "LeastHungry$Book") F huX0 rfl hx.2.1.1 0 (by decide) (by decide +kernel) rfl rfl dX8_behind_39 ?_
      refine q_iconst F dX8_behind_42 ?_
      refine q_callVI (n := 3) (T := TX6) F (c_X6_play G hI M 30 hx.2.2.2.2.2.1 28 hx.2.2.2.2.1 (1 + 1) hx.2.1.2.1 0 (by assumption) (by assumption) (by omega) (by omega)) rfl rfl hx.2.2.2.2.2.1.1 gX8_behind_X6_play rfl ⟨by decide, by decide, by decide +kernel⟩ rfl ⟨rfl, rfl, Nat.le_of_ble_eq_true rfl, Nat.le_of_ble_eq_true rfl⟩ rfl (Nat.le_of_ble_eq_true rfl) dX8_behind_43 (fun r43 N43 h43 p43 => ?_)
      obtain ⟨b43, rfl, p43⟩ := p43
      have kp := q_pl_kp p43.1 xw
      refine q_ifb_ne F 52 dX8_behind_46 (by decide) (fun c46 => ?_) (fun c46 => ?_)
      · have hfl : (q_flt (M (28 + 1)) (M 28 1) 61 0) = -6 := by
          by_cases h : (q_flt (M (28 + 1)) (M 28 1) 61 0) = -6
          · exact h
          · rw [p43.2.2.2.1 h] at c46
            cases c46
        have q43 := p43.2.2.2.2 hfl
        have hbar : (q_flt (M (28 + 1)) (M 28 1) 61 0) = -6 ∧ (q_NI (M (1 + 1) 4) (M (1 + 1) 5) (M (28 + 1)) (M 28 1) 0 (M (1 + 1 + 1)) (M (1 + 1 + 2)) (M (1 + 1 + 3))).1 = -6 := ⟨hfl, by rw [q43.1] at c46; exact q_dt c46⟩
        refine q_iload_n F dX8_behind_52 2 rfl ?_
        rcases (show w = 0 ∨ w = 1 ∨ w = 2 ∨ (w < 0 ∨ 2 < w) by omega) with c53 | c53 | c53 | c53
        · refine q_tableIn F 0 80 dX8_behind_53 c53 (by decide) rfl (by decide) ?_
          refine q_aload_n F dX8_behind_80 0 rfl ?_
          refine q_getr (T := TX8) (ref := "LeastHungry") F huX8 rfl hx.1 4 (by decide) (by decide +kernel) rfl rfl dX8_behind_81 ?_
          refine q_getr (T := TX6) (ref := "LeastHungry$Trial") F huX6 rfl hx.2.2.2.2.2.1.1 0 (by decide) (by decide +kernel) rfl rfl dX8_behind_84 ?_
          refine q_getr (T := TX1) (ref := "LeastHungry$Company") F huX1 rfl hx.2.2.2.2.2.1.2.1.1 0 (by decide) (by decide +kernel) rfl rfl dX8_behind_87 ?_
          refine q_iload_n F dX8_behind_90 1 rfl ?_
          refine q_callSP (n := 2) F (c_X8_at G hI N43 ((30 + 1) + 1) 6 hx.2.2.2.2.2.1.2.1.2.1 g (by omega)) rfl gX8_behind_X8_at ⟨by decide, by decide, by decide +kernel⟩ rfl ⟨rfl, rfl, Nat.le_of_ble_eq_true rfl, Nat.le_of_ble_eq_true rfl⟩ rfl (Nat.le_of_ble_eq_true rfl) dX8_behind_91 (fun h91 => ?_)
          exact q_iret F FI dX8_behind_94 (by omega) ⟨by unfold S_behind; rw [if_pos c11, if_pos (q_dt c21), if_pos hbar, if_pos c53]; exact (q43.2.2.2.1 g c11).1, kp⟩
        · refine q_tableIn F 1 95 dX8_behind_53 c53 (by decide) rfl (by decide) ?_
          refine q_aload_n F dX8_behind_95 0 rfl ?_
          refine q_getr (T := TX8) (ref := "LeastHungry") F huX8 rfl hx.1 4 (by decide) (by decide +kernel) rfl rfl dX8_behind_96 ?_
          refine q_getr (T := TX6) (ref := "LeastHungry$Trial") F huX6 rfl hx.2.2.2.2.2.1.1 1 (by decide) (by decide +kernel) rfl rfl dX8_behind_99 ?_
          refine q_iload_n F dX8_behind_102 1 rfl ?_
          refine q_callSP (n := 2) F (c_X8_at G hI N43 (30 + 6) 6 hx.2.2.2.2.2.1.2.2.1 g (by omega)) rfl gX8_behind_X8_at ⟨by decide, by decide, by decide +kernel⟩ rfl ⟨rfl, rfl, Nat.le_of_ble_eq_true rfl, Nat.le_of_ble_eq_true rfl⟩ rfl (Nat.le_of_ble_eq_true rfl) dX8_behind_103 (fun h103 => ?_)
          exact q_iret F FI dX8_behind_106 (by omega) ⟨by unfold S_behind; rw [if_pos c11, if_pos (q_dt c21), if_pos hbar, if_neg (by omega), if_pos c53]; exact (q43.2.2.2.2.1 g hgi.1 hgi.2).1, kp⟩
        · refine q_tableIn F 2 107 dX8_behind_53 c53 (by decide) rfl (by decide) ?_
          refine q_aload_n F dX8_behind_107 0 rfl ?_
          refine q_getr (T := TX8) (ref := "LeastHungry") F huX8 rfl hx.1 4 (by decide) (by decide +kernel) rfl rfl dX8_behind_108 ?_
          refine q_getr (T := TX6) (ref := "LeastHungry$Trial") F huX6 rfl hx.2.2.2.2.2.1.1 2 (by decide) (by decide +kernel) rfl rfl dX8_behind_111 ?_
          refine q_iload_n F dX8_behind_114 1 rfl ?_
          refine q_callSP (n := 2) F (c_X8_at G hI N43 (30 + 7) 6 hx.2.2.2.2.2.1.2.2.2.1 g (by omega)) rfl gX8_behind_X8_at ⟨by decide, by decide, by decide +kernel⟩ rfl ⟨rfl, rfl, Nat.le_of_ble_eq_true rfl, Nat.le_of_ble_eq_true rfl⟩ rfl (Nat.le_of_ble_eq_true rfl) dX8_behind_115 (fun h115 => ?_)
          exact q_iret F FI dX8_behind_118 (by omega) ⟨by unfold S_behind; rw [if_pos c11, if_pos (q_dt c21), if_pos hbar, if_neg (by omega), if_neg (by omega), if_pos c53]; exact (q43.2.2.2.2.1 g hgi.1 hgi.2).2, kp⟩
        · refine q_tableOut F 119 dX8_behind_53 (by omega) (by decide) ?_
          refine q_aload_n F dX8_behind_119 0 rfl ?_
          refine q_getr (T := TX8) (ref := "LeastHungry") F huX8 rfl hx.1 4 (by decide) (by decide +kernel) rfl rfl dX8_behind_120 ?_
          refine q_getr (T := TX6) (ref := "LeastHungry$Trial") F huX6 rfl hx.2.2.2.2.2.1.1 0 (by decide) (by decide +kernel) rfl rfl dX8_behind_123 ?_
          refine q_getr (T := TX1) (ref := "LeastHungry$Company") F huX1 rfl hx.2.2.2.2.2.1.2.1.1 2 (by decide) (by decide +kernel) rfl rfl dX8_behind_126 ?_
          refine q_iload_n F dX8_behind_129 1 rfl ?_
          refine q_callSP (n := 2) F (c_X8_at G hI N43 ((30 + 1) + 3) 6 hx.2.2.2.2.2.1.2.1.2.2.2.1 g (by omega)) rfl gX8_behind_X8_at ⟨by decide, by decide, by decide +kernel⟩ rfl ⟨rfl, rfl, Nat.le_of_ble_eq_true rfl, Nat.le_of_ble_eq_true rfl⟩ rfl (Nat.le_of_ble_eq_true rfl) dX8_behind_130 (fun h130 => ?_)
          exact q_iret F FI dX8_behind_133 (by omega) ⟨by unfold S_behind; rw [if_pos c11, if_pos (q_dt c21), if_pos hbar, if_neg (by omega), if_neg (by omega), if_neg (by omega)]; exact (q43.2.2.2.1 g c11).2.2, kp⟩
      · refine q_bipush F dX8_behind_49 (by decide) ?_
        exact q_iret F FI dX8_behind_51 (by omega) ⟨by unfold S_behind; rw [if_pos c11, if_pos (q_dt c21), if_neg (fun h => by
        have := (p43.2.2.2.2 h.1).1
        rw [c46] at this
        exact q_df this.symm h.2)], kp⟩
    · refine q_bipush F dX8_behind_24 (by decide) ?_
      exact q_iret F FI dX8_behind_26 (by omega) ⟨by unfold S_behind; rw [if_pos c11, if_neg (q_df c21)], q_kp_rf, xw⟩
  · refine q_iconst F dX8_behind_14 ?_
    exact q_iret F FI dX8_behind_15 (by omega) ⟨by unfold S_behind; rw [if_neg (by simp [c11])], q_kp_rf, xw⟩

set_option maxHeartbeats 4000000 in
set_option maxRecDepth 100000 in
theorem c_X8_waste (G : q_G) (hI : q_inj G) (M : q_M) (hx : q_lh G) (hX : q_X M) (w : Int) (hwR : -2147483648 ≤ w ∧ w ≤ 2147483647) : q_CI G yX8_waste wsX8_waste ({ frames := 7, cells := 0, slots := 0, locals := 167 } : Room) [.ref (q_ad G 0), .int (q_I w)] M (fun z M' => z = S_waste (M (1 + 1) 4) w (q_flt (M (28 + 1)) (M 28 1) 61 0) (q_NI (M (1 + 1) 4) (M (1 + 1) 5) (M (28 + 1)) (M 28 1) 0 (M (1 + 1 + 1)) (M (1 + 1 + 2)) (M (1 + 1 + 3))) ∧ q_kp M M' ∧ q_ww M') := by
  refine q_CI.of hI (by decide) rfl RX8 rfl [(0, .ref (q_ad G 0)), (1, .int (q_I w))] rfl (Nat.le_of_ble_eq_true rfl) (fun E F FI => ?_)
  have huX0 : ∀ w ∈ wsX00, w ∈ wsX8_waste := by decide +kernel
  have huX6 : ∀ w ∈ wsX60, w ∈ wsX8_waste := by decide +kernel
  have huX8 : ∀ w ∈ wsX80, w ∈ wsX8_waste := by decide +kernel
  refine q_MRof (fun hM => ?_)
  obtain ⟨xv, xf, xs, xp, xw, xi1, xi2⟩ := id hX
  have xv4 := xv.1
  have xv5 := xv.2.1
  refine q_iload_n F dX8_waste_0 1 rfl ?_
  refine q_iconst F dX8_waste_1 ?_
  refine q_callSP (n := 2) F (c_X8_isWithin G hI M w 2 (by omega)) rfl gX8_waste_X8_isWithin ⟨by decide, by decide, by decide +kernel⟩ rfl ⟨rfl, rfl, Nat.le_of_ble_eq_true rfl, Nat.le_of_ble_eq_true rfl⟩ rfl (Nat.le_of_ble_eq_true rfl) dX8_waste_2 (fun h2 => ?_)
  refine q_ifb_ne F 11 dX8_waste_5 (by decide) (fun c5 => ?_) (fun c5 => ?_)
  · refine q_aload_n F dX8_waste_11 0 rfl ?_
    refine q_getr (T := TX8) (ref := "LeastHungry") F huX8 rfl hx.1 4 (by decide) (by decide +kernel) rfl rfl dX8_waste_12 ?_
    refine q_aload_n F dX8_waste_15 0 rfl ?_
    refine q_getr (T := TX8) (ref := "LeastHungry") F huX8 rfl hx.1 3 (by decide) (by decide +kernel) rfl rfl dX8_waste_16 ?_
    refine q_aload_n F dX8_waste_19 0 rfl ?_
    refine q_getr (T := TX8) (ref := "LeastHungry") F huX8 rfl hx.1 0 (by decide) (by decide +kernel) rfl rfl dX8_waste_20 ?_
    refine q_getr (T := TX0) (ref := "LeastHungry$Book") F huX0 rfl hx.2.1.1 0 (by decide) (by decide +kernel) rfl rfl dX8_waste_23 ?_
    refine q_iconst F dX8_waste_26 ?_
    refine q_callVI (n := 3) (T := TX6) F (c_X6_play G hI M 30 hx.2.2.2.2.2.1 28 hx.2.2.2.2.1 (1 + 1) hx.2.1.2.1 0 (by assumption) (by assumption) (by omega) (by omega)) rfl rfl hx.2.2.2.2.2.1.1 gX8_waste_X6_play rfl ⟨by decide, by decide, by decide +kernel⟩ rfl ⟨rfl, rfl, Nat.le_of_ble_eq_true rfl, Nat.le_of_ble_eq_true rfl⟩ rfl (Nat.le_of_ble_eq_true rfl) dX8_waste_27 (fun r27 N27 h27 p27 => ?_)
    obtain ⟨b27, rfl, p27⟩ := p27
    have kp := q_pl_kp p27.1 xw
    refine q_ifb_ne F 36 dX8_waste_30 (by decide) (fun c30 => ?_) (fun c30 => ?_)
    · have hfl : (q_flt (M (28 + 1)) (M 28 1) 61 0) = -6 := by
        by_cases h : (q_flt (M (28 + 1)) (M 28 1) 61 0) = -6
        · exact h
        · rw [p27.2.2.2.1 h] at c30
          cases c30
      have q27 := p27.2.2.2.2 hfl
      have hbar : (q_flt (M (28 + 1)) (M 28 1) 61 0) = -6 ∧ (q_NI (M (1 + 1) 4) (M (1 + 1) 5) (M (28 + 1)) (M 28 1) 0 (M (1 + 1 + 1)) (M (1 + 1 + 2)) (M (1 + 1 + 3))).1 = -6 := ⟨hfl, by rw [q27.1] at c30; exact q_dt c30⟩
      refine q_iload_n F dX8_waste_36 1 rfl ?_
      refine q_if_ne F 48 dX8_waste_37 (by decide) (by omega) (fun c37 => ?_) (fun c37 => ?_)
      · refine q_iload_n F dX8_waste_48 1 rfl ?_
        refine q_iconst F dX8_waste_49 ?_
        refine q_icmp_ne F 63 dX8_waste_50 (by decide) (by omega) (fun c50 => ?_) (fun c50 => ?_)
        · refine q_aload_n F dX8_waste_63 0 rfl ?_
          refine q_getr (T := TX8) (ref := "LeastHungry") F huX8 rfl hx.1 4 (by decide) (by decide +kernel) rfl rfl dX8_waste_64 ?_
          refine q_getr (T := TX6) (ref := "LeastHungry$Trial") F huX6 rfl hx.2.2.2.2.2.1.1 0 (by decide) (by decide +kernel) rfl rfl dX8_waste_67 ?_
          refine q_callVP (n := 0) (T := TX1) F (c_X1_starved G hI N27 (30 + 1) hx.2.2.2.2.2.1.2.1 p27.2.1) rfl rfl hx.2.2.2.2.2.1.2.1.1 gX8_waste_X1_starved rfl ⟨by decide, by decide, by decide +kernel⟩ rfl ⟨rfl, rfl, Nat.le_of_ble_eq_true rfl, Nat.le_of_ble_eq_true rfl⟩ rfl (Nat.le_of_ble_eq_true rfl) dX8_waste_70 (fun h70 => ?_)
          have hsR := q_set_R (fun x => decide (N27 (30 + 1 + 1) x = 20) && q_has (N27 (30 + 1) 4) x)
          have hth := p27.2.2.1.1
          exact q_iret F FI dX8_waste_73 (by omega) ⟨by unfold S_waste; rw [if_pos (q_dt c5), if_pos hbar, if_neg c37, if_neg c50, hth]; exact q_set_congr (fun x _ _ => by
        cases hx : q_has (M (1 + 1) 4) x
        · simp
        · rw [(q27.2.2.2.1 x hx).1.symm]
          rfl), kp⟩
        · refine q_aload_n F dX8_waste_53 0 rfl ?_
          refine q_getr (T := TX8) (ref := "LeastHungry") F huX8 rfl hx.1 4 (by decide) (by decide +kernel) rfl rfl dX8_waste_54 ?_
          refine q_geti (T := TX6) (ref := "LeastHungry$Trial") F huX6 rfl hx.2.2.2.2.2.1.1 6 (by decide) (by decide +kernel) rfl 6 rfl rfl dX8_waste_57 (fun h57 => ?_)
          refine q_goto F 73 dX8_waste_60 (by decide) ?_
          exact q_iret F FI dX8_waste_73 (by omega) ⟨by unfold S_waste; rw [if_pos (q_dt c5), if_pos hbar, if_neg c37, if_pos c50]; exact q27.2.2.2.2.2.2.2, kp⟩
      · refine q_aload_n F dX8_waste_40 0 rfl ?_
        refine q_getr (T := TX8) (ref := "LeastHungry") F huX8 rfl hx.1 4 (by decide) (by decide +kernel) rfl rfl dX8_waste_41 ?_
        refine q_geti (T := TX6) (ref := "LeastHungry$Trial") F huX6 rfl hx.2.2.2.2.2.1.1 4 (by decide) (by decide +kernel) rfl 4 rfl rfl dX8_waste_44 (fun h44 => ?_)
        exact q_iret F FI dX8_waste_47 (by omega) ⟨by unfold S_waste; rw [if_pos (q_dt c5), if_pos hbar, if_pos c37]; exact q27.2.2.2.2.2.1, kp⟩
    · refine q_bipush F dX8_waste_33 (by decide) ?_
      exact q_iret F FI dX8_waste_35 (by omega) ⟨by unfold S_waste; rw [if_pos (q_dt c5), if_neg (fun h => by
        have := (p27.2.2.2.2 h.1).1
        rw [c30] at this
        exact q_df this.symm h.2)], kp⟩
  · refine q_bipush F dX8_waste_8 (by decide) ?_
    exact q_iret F FI dX8_waste_10 (by omega) ⟨by unfold S_waste; rw [if_neg (q_df c5)], q_kp_rf, xw⟩

set_option maxHeartbeats 4000000 in
set_option maxRecDepth 100000 in
theorem c_X8_served (G : q_G) (hI : q_inj G) (M : q_M) (hx : q_lh G) (hX : q_X M) (pl : Int) (p : Int) (hplR : -2147483648 ≤ pl ∧ pl ≤ 2147483647) (hpR : -2147483648 ≤ p ∧ p ≤ 2147483647) : q_CI G yX8_served wsX8_served ({ frames := 4, cells := 0, slots := 0, locals := 94 } : Room) [.ref (q_ad G 0), .int (q_I pl), .int (q_I p)] M (fun z M' => z = S_served (M (1 + 1 + 1)) (M (1 + 1 + 2)) (M (1 + 1 + 3)) (M (1 + 1) 4) (M (1 + 1) 5) pl p ∧ q_kp M M' ∧ q_ww M') := by
  refine q_CI.of hI (by decide) rfl RX8 rfl [(0, .ref (q_ad G 0)), (1, .int (q_I pl)), (2, .int (q_I p))] rfl (Nat.le_of_ble_eq_true rfl) (fun E F FI => ?_)
  have huX0 : ∀ w ∈ wsX00, w ∈ wsX8_served := by decide +kernel
  have huX8 : ∀ w ∈ wsX80, w ∈ wsX8_served := by decide +kernel
  refine q_MRof (fun hM => ?_)
  obtain ⟨xv, xf, xs, xp, xw, xi1, xi2⟩ := id hX
  have xv4 := xv.1
  have xv5 := xv.2.1
  refine q_iload_n F dX8_served_0 1 rfl ?_
  refine q_callSP (n := 1) F (c_X8_isHouse G hI M pl (by omega)) rfl gX8_served_X8_isHouse ⟨by decide, by decide, by decide +kernel⟩ rfl ⟨rfl, rfl, Nat.le_of_ble_eq_true rfl, Nat.le_of_ble_eq_true rfl⟩ rfl (Nat.le_of_ble_eq_true rfl) dX8_served_1 (fun h1 => ?_)
  refine q_ifb_ne F 9 dX8_served_4 (by decide) (fun c4 => ?_) (fun c4 => ?_)
  · have d1 := q_dt c4
    refine q_iload_n F dX8_served_9 2 rfl ?_
    refine q_callSP (n := 1) F (c_X8_isDish G hI M p (by omega)) rfl gX8_served_X8_isDish ⟨by decide, by decide, by decide +kernel⟩ rfl ⟨rfl, rfl, Nat.le_of_ble_eq_true rfl, Nat.le_of_ble_eq_true rfl⟩ rfl (Nat.le_of_ble_eq_true rfl) dX8_served_10 (fun h10 => ?_)
    refine q_ifb_ne F 19 dX8_served_13 (by decide) (fun c13 => ?_) (fun c13 => ?_)
    · have d2 := q_dt c13
      refine q_aload_n F dX8_served_19 0 rfl ?_
      refine q_getr (T := TX8) (ref := "LeastHungry") F huX8 rfl hx.1 0 (by decide) (by decide +kernel) rfl rfl dX8_served_20 ?_
      refine q_getr (T := TX0) (ref := "LeastHungry$Book") F huX0 rfl hx.2.1.1 0 (by decide) (by decide +kernel) rfl rfl dX8_served_23 ?_
      refine q_iload_n F dX8_served_26 1 rfl ?_
      refine q_iload_n F dX8_served_27 2 rfl ?_
      refine q_callVI (n := 2) (T := TX1) F (c_X1_takers G hI M (1 + 1) hx.2.1.2.1 pl p (by assumption) (by omega)) rfl rfl hx.2.1.2.1.1 gX8_served_X1_takers rfl ⟨by decide, by decide, by decide +kernel⟩ rfl ⟨rfl, rfl, Nat.le_of_ble_eq_true rfl, Nat.le_of_ble_eq_true rfl⟩ rfl (Nat.le_of_ble_eq_true rfl) dX8_served_28 (fun r28 N28 h28 p28 => ?_)
      exact q_iret F FI dX8_served_31 (by omega) ⟨by unfold S_served; rw [if_pos d1, if_pos d2]; exact p28.1, q_fr_kp p28.2 (by omega) xw⟩
    · refine q_bipush F dX8_served_16 (by decide) ?_
      exact q_iret F FI dX8_served_18 (by omega) ⟨by unfold S_served; rw [if_pos (q_dt c4), if_neg (q_df c13)], q_kp_rf, xw⟩
  · refine q_iconst F dX8_served_7 ?_
    exact q_iret F FI dX8_served_8 (by omega) ⟨by unfold S_served; rw [if_neg (q_df c4)], q_kp_rf, xw⟩

set_option maxHeartbeats 4000000 in
set_option maxRecDepth 100000 in
theorem c_X8_feign (G : q_G) (hI : q_inj G) (M : q_M) (hx : q_lh G) (hX : q_X M) (g : Int) (p : Int) (hgR : -2147483648 ≤ g ∧ g ≤ 2147483647) (hpR : -2147483648 ≤ p ∧ p ≤ 2147483647) : q_CI G yX8_feign wsX8_feign ({ frames := 5, cells := 0, slots := 0, locals := 119 } : Room) [.ref (q_ad G 0), .int (q_I g), .int (q_I p)] M (fun z M' => z = S_feign (M (1 + 1 + 1)) (M (1 + 1 + 2)) (M (1 + 1 + 3)) (M (1 + 1) 4) (M (1 + 1) 5) g p ∧ q_kp M M' ∧ q_ww M') := by
  refine q_CI.of hI (by decide) rfl RX8 rfl [(0, .ref (q_ad G 0)), (1, .int (q_I g)), (2, .int (q_I p))] rfl (Nat.le_of_ble_eq_true rfl) (fun E F FI => ?_)
  have huX0 : ∀ w ∈ wsX00, w ∈ wsX8_feign := by decide +kernel
  have huX8 : ∀ w ∈ wsX80, w ∈ wsX8_feign := by decide +kernel
  refine q_MRof (fun hM => ?_)
  obtain ⟨xv, xf, xs, xp, xw, xi1, xi2⟩ := id hX
  have xv4 := xv.1
  have xv5 := xv.2.1
  refine q_aload_n F dX8_feign_0 0 rfl ?_
  refine q_getr (T := TX8) (ref := "LeastHungry") F huX8 rfl hx.1 0 (by decide) (by decide +kernel) rfl rfl dX8_feign_1 ?_
  refine q_getr (T := TX0) (ref := "LeastHungry$Book") F huX0 rfl hx.2.1.1 0 (by decide) (by decide +kernel) rfl rfl dX8_feign_4 ?_
  refine q_iload_n F dX8_feign_7 1 rfl ?_
  refine q_callVP (n := 1) (T := TX1) F (c_X1_has G hI M (1 + 1) hx.2.1.2.1 g (by assumption) (by omega)) rfl rfl hx.2.1.2.1.1 gX8_feign_X1_has rfl ⟨by decide, by decide, by decide +kernel⟩ rfl ⟨rfl, rfl, Nat.le_of_ble_eq_true rfl, Nat.le_of_ble_eq_true rfl⟩ rfl (Nat.le_of_ble_eq_true rfl) dX8_feign_8 (fun h8 => ?_)
  refine q_ifb_ne F 16 dX8_feign_11 (by decide) (fun c11 => ?_) (fun c11 => ?_)
  · have hgi := q_has_in c11
    refine q_iload_n F dX8_feign_16 2 rfl ?_
    refine q_callSP (n := 1) F (c_X8_isDish G hI M p (by omega)) rfl gX8_feign_X8_isDish ⟨by decide, by decide, by decide +kernel⟩ rfl ⟨rfl, rfl, Nat.le_of_ble_eq_true rfl, Nat.le_of_ble_eq_true rfl⟩ rfl (Nat.le_of_ble_eq_true rfl) dX8_feign_17 (fun h17 => ?_)
    refine q_ifb_ne F 26 dX8_feign_20 (by decide) (fun c20 => ?_) (fun c20 => ?_)
    · have d2 := q_dt c20
      refine q_aload_n F dX8_feign_26 0 rfl ?_
      refine q_getr (T := TX8) (ref := "LeastHungry") F huX8 rfl hx.1 5 (by decide) (by decide +kernel) rfl rfl dX8_feign_27 ?_
      refine q_aload_n F dX8_feign_30 0 rfl ?_
      refine q_getr (T := TX8) (ref := "LeastHungry") F huX8 rfl hx.1 0 (by decide) (by decide +kernel) rfl rfl dX8_feign_31 ?_
      refine q_getr (T := TX0) (ref := "LeastHungry$Book") F huX0 rfl hx.2.1.1 0 (by decide) (by decide +kernel) rfl rfl dX8_feign_34 ?_
      refine q_iload_n F dX8_feign_37 1 rfl ?_
      refine q_iload_n F dX8_feign_38 2 rfl ?_
      refine q_callVI (n := 3) (T := TX2) F (c_X2_leastFeint G hI M 39 hx.2.2.2.2.2.2.1 (1 + 1) hx.2.1.2.1 g p (by assumption) (by omega) (by omega) c11) rfl rfl hx.2.2.2.2.2.2.1.1 gX8_feign_X2_leastFeint rfl ⟨by decide, by decide, by decide +kernel⟩ rfl ⟨rfl, rfl, Nat.le_of_ble_eq_true rfl, Nat.le_of_ble_eq_true rfl⟩ rfl (Nat.le_of_ble_eq_true rfl) dX8_feign_39 (fun r39 N39 h39 p39 => ?_)
      exact q_iret F FI dX8_feign_42 (by omega) ⟨by unfold S_feign; rw [if_pos c11, if_pos d2]; exact p39.1, fun j h1 _ => p39.2 j (by omega), fun i h0 h1 => by rw [p39.2 _ (by omega)]; exact xw i h0 h1⟩
    · refine q_bipush F dX8_feign_23 (by decide) ?_
      exact q_iret F FI dX8_feign_25 (by omega) ⟨by unfold S_feign; rw [if_pos c11, if_neg (q_df c20)], q_kp_rf, xw⟩
  · refine q_iconst F dX8_feign_14 ?_
    exact q_iret F FI dX8_feign_15 (by omega) ⟨by unfold S_feign; rw [if_neg (by simp [c11])], q_kp_rf, xw⟩

set_option maxHeartbeats 4000000 in
set_option maxRecDepth 100000 in
theorem c_X8_rests (G : q_G) (hI : q_inj G) (M : q_M) (hx : q_lh G) (hX : q_X M) (pl : Int) (p : Int) (i : Int) (hplR : -2147483648 ≤ pl ∧ pl ≤ 2147483647) (hpR : -2147483648 ≤ p ∧ p ≤ 2147483647) (hiR : -2147483648 ≤ i ∧ i ≤ 2147483647) : q_CI G yX8_rests wsX8_rests ({ frames := 5, cells := 0, slots := 0, locals := 122 } : Room) [.ref (q_ad G 0), .int (q_I pl), .int (q_I p), .int (q_I i)] M (fun z M' => z = S_rests (M (1 + 1 + 1)) (M (1 + 1 + 2)) (M (1 + 1 + 3)) (M (1 + 1) 4) (M (1 + 1) 5) pl p i ∧ q_kp M M' ∧ q_ww M') := by
  refine q_CI.of hI (by decide) rfl RX8 rfl [(0, .ref (q_ad G 0)), (1, .int (q_I pl)), (2, .int (q_I p)), (3, .int (q_I i))] rfl (Nat.le_of_ble_eq_true rfl) (fun E F FI => ?_)
  have huX0 : ∀ w ∈ wsX00, w ∈ wsX8_rests := by decide +kernel
  have huX8 : ∀ w ∈ wsX80, w ∈ wsX8_rests := by decide +kernel
  refine q_MRof (fun hM => ?_)
  obtain ⟨xv, xf, xs, xp, xw, xi1, xi2⟩ := id hX
  have xv4 := xv.1
  have xv5 := xv.2.1
  refine q_iload_n F dX8_rests_0 1 rfl ?_
  refine q_callSP (n := 1) F (c_X8_isHouse G hI M pl (by omega)) rfl gX8_rests_X8_isHouse ⟨by decide, by decide, by decide +kernel⟩ rfl ⟨rfl, rfl, Nat.le_of_ble_eq_true rfl, Nat.le_of_ble_eq_true rfl⟩ rfl (Nat.le_of_ble_eq_true rfl) dX8_rests_1 (fun h1 => ?_)
  refine q_ifb_ne F 9 dX8_rests_4 (by decide) (fun c4 => ?_) (fun c4 => ?_)
  · have d1 := q_dt c4
    refine q_iload_n F dX8_rests_9 2 rfl ?_
    refine q_callSP (n := 1) F (c_X8_isDish G hI M p (by omega)) rfl gX8_rests_X8_isDish ⟨by decide, by decide, by decide +kernel⟩ rfl ⟨rfl, rfl, Nat.le_of_ble_eq_true rfl, Nat.le_of_ble_eq_true rfl⟩ rfl (Nat.le_of_ble_eq_true rfl) dX8_rests_10 (fun h10 => ?_)
    refine q_ifb_ne F 19 dX8_rests_13 (by decide) (fun c13 => ?_) (fun c13 => ?_)
    · have d2 := q_dt c13
      refine q_aload_n F dX8_rests_19 0 rfl ?_
      refine q_iload_n F dX8_rests_20 1 rfl ?_
      refine q_callVP (n := 1) (T := TX8) F (c_X8_isCrowded G hI M hx (by assumption) pl (by omega)) rfl rfl hx.1 gX8_rests_X8_isCrowded rfl ⟨by decide, by decide, by decide +kernel⟩ rfl ⟨rfl, rfl, Nat.le_of_ble_eq_true rfl, Nat.le_of_ble_eq_true rfl⟩ rfl (Nat.le_of_ble_eq_true rfl) dX8_rests_21 (fun h21 => ?_)
      refine q_ifb_eq F 30 dX8_rests_24 (by decide) (fun c24 => ?_) (fun c24 => ?_)
      · refine q_aload_n F dX8_rests_30 0 rfl ?_
        refine q_getr (T := TX8) (ref := "LeastHungry") F huX8 rfl hx.1 5 (by decide) (by decide +kernel) rfl rfl dX8_rests_31 ?_
        refine q_aload_n F dX8_rests_34 0 rfl ?_
        refine q_getr (T := TX8) (ref := "LeastHungry") F huX8 rfl hx.1 0 (by decide) (by decide +kernel) rfl rfl dX8_rests_35 ?_
        refine q_getr (T := TX0) (ref := "LeastHungry$Book") F huX0 rfl hx.2.1.1 0 (by decide) (by decide +kernel) rfl rfl dX8_rests_38 ?_
        refine q_iload_n F dX8_rests_41 1 rfl ?_
        refine q_iload_n F dX8_rests_42 2 rfl ?_
        refine q_iload_n F dX8_rests_43 3 rfl ?_
        refine q_callVI (n := 4) (T := TX2) F (c_X2_rowsAtRest G hI M 39 hx.2.2.2.2.2.2.1 (1 + 1) hx.2.1.2.1 pl p i (by assumption) (by omega) (by omega) (by have := q_df c24; omega)) rfl rfl hx.2.2.2.2.2.2.1.1 gX8_rests_X2_rowsAtRest rfl ⟨by decide, by decide, by decide +kernel⟩ rfl ⟨rfl, rfl, Nat.le_of_ble_eq_true rfl, Nat.le_of_ble_eq_true rfl⟩ rfl (Nat.le_of_ble_eq_true rfl) dX8_rests_44 (fun r44 N44 h44 p44 => ?_)
        exact q_iret F FI dX8_rests_47 (by omega) ⟨by unfold S_rests; rw [if_pos d1, if_pos d2, if_neg (q_df c24)]; exact p44.1, fun j h1 _ => p44.2 j (by omega), fun i h0 h1 => by rw [p44.2 _ (by omega)]; exact xw i h0 h1⟩
      · refine q_bipush F dX8_rests_27 (by decide) ?_
        exact q_iret F FI dX8_rests_29 (by omega) ⟨by unfold S_rests; rw [if_pos d1, if_pos d2, if_pos (q_dt c24)], q_kp_rf, xw⟩
    · refine q_bipush F dX8_rests_16 (by decide) ?_
      exact q_iret F FI dX8_rests_18 (by omega) ⟨by unfold S_rests; rw [if_pos (q_dt c4), if_neg (q_df c13)], q_kp_rf, xw⟩
  · refine q_iconst F dX8_rests_7 ?_
    exact q_iret F FI dX8_rests_8 (by omega) ⟨by unfold S_rests; rw [if_neg (q_df c4)], q_kp_rf, xw⟩
