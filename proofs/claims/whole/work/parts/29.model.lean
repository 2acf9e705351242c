/-! the reference's places, years, images -/
theorem q_dgt_s (num k : Int) (h0 : 0 ≤ k) (h1 : k < 5) : num / q_pw 10 (5 - k).toNat = num / q_pw 10 (5 - (k + 1)).toNat / 10 := by
  rw [q_pw_div (by omega)]
  rw [show (5 - (k + 1)).toNat + 1 = (5 - k).toNat by omega]
def q_bp (h f a : Int → Int) (th g : Int) : Int := q_cnt (fun q => (q_ins a th 0 q && decide (0 < h q)) && (decide (q_shn h f q < q_shn h f g) || (decide (q_shn h f q = q_shn h f g) && decide (q < g))))
theorem q_bp_R (h f a : Int → Int) (th g : Int) : 0 ≤ q_bp h f a th g ∧ q_bp h f a th g ≤ 6 := q_cnt_R _
/-- ahead by place: measured by what is shown -/
theorem q_bp_place {h f a m : Int → Int} {th g : Int} (hm : ∀ x, q_hun h a th 0 x = true → m x = q_shn h f x) (hg : q_hun h a th 0 g = true) : q_bp h f a th g = q_place m (q_set (q_hun h a th 0)) g := by
  unfold q_bp q_place
  refine q_cnt_congr (fun x x0 x1 => ?_)
  show (q_hun h a th 0 x && _) = _
  rw [q_has_set x0 x1]
  cases hx : q_hun h a th 0 x
  · rfl
  · rw [hm x hx, hm g hg]
theorem q_bp_sim {h f a h' f' a' : Int → Int} {th g : Int} (s : q_simR th h f a h' f' a') (hg : q_has th g = true) : q_bp h f a th g = q_bp h' f' a' th g := by
  unfold q_bp
  refine q_cnt_congr (fun x _ _ => ?_)
  show (q_hun h a th 0 x && _) = (q_hun h' a' th 0 x && _)
  rw [q_hun_sim s x]
  cases hx : q_hun h' a' th 0 x
  · rfl
  · rw [q_shn_sim s (q_hun_th hx), q_shn_sim s hg]
theorem q_shn_0 {h f : Int → Int} {x : Int} (hf : f x = 0) (hh : 0 ≤ h x) : q_shn h f x = h x := by
  unfold q_shn
  rw [hf]
  omega
/-- a guest gains by a feint: as the class's places have it -/
theorem q_gain9 {h f a : Int → Int} {th g v : Int} (hg : q_hun h a th 0 g = true) (hh : q_hv h) (hf : ∀ x, 0 ≤ x → x < 6 → ¬ x = g → f x = 0) (hv : f g = v) : q_bp h f a th g = q_place (q_row h g (max 0 (h g - v))) (q_set (q_hun h a th 0)) g := by
  refine q_bp_place (fun x hx => ?_) hg
  have hi := q_has_in (q_hun_th hx)
  unfold q_row
  by_cases hxg : x = g
  · rw [if_pos hxg, hxg]
    unfold q_shn
    rw [hv]
  · rw [if_neg hxg]
    exact (q_shn_0 (hf x hi.1 hi.2 hxg) (hh x hi.1 hi.2).1).symm
theorem q_anyN_t {P : Int → Bool} {x : Int} : ∀ n : Nat, 1 ≤ x → x ≤ n → P x = true → q_anyN P n = true
  | 0, h0, h1, _ => by omega
  | n + 1, h0, h1, hp => by
    rw [q_anyN_s]
    by_cases hx : x = ((n + 1 : Nat) : Int)
    · rw [show P ((n : Int) + 1) = true from by rw [show ((n : Int) + 1) = x by omega]; exact hp, Bool.or_true]
    · rw [q_anyN_t n h0 (by omega) hp, Bool.true_or]
theorem q_anyN_f {P : Int → Bool} : ∀ n : Nat, (∀ x : Int, 1 ≤ x → x ≤ n → P x = false) → q_anyN P n = false
  | 0, _ => rfl
  | n + 1, h => by
    rw [q_anyN_s, q_anyN_f n (fun x h0 h1 => h x h0 (by omega)), h ((n : Int) + 1) (by omega) (by omega)]
    rfl
theorem q_gn_sim {h a h' a' : Int → Int} {th n g : Int} (e : ∀ x, q_has th x = true → h x = h' x) (eS : q_set (q_hun h a th 0) = q_set (q_hun h' a' th 0)) (hg : q_has th g = true) (hin : q_hun h' a' th 0 g = true) : q_gn h (q_set (q_hun h a th 0)) n g = q_gn h' (q_set (q_hun h' a' th 0)) n g := by
  have pl : ∀ m m' : Int → Int, (∀ x, q_has th x = true → m x = m' x) → q_place m (q_set (q_hun h' a' th 0)) g = q_place m' (q_set (q_hun h' a' th 0)) g := fun m m' em => by
    unfold q_place
    refine q_cnt_congr (fun x x0 x1 => ?_)
    rw [q_has_set x0 x1]
    cases hx : q_hun h' a' th 0 x
    · rfl
    · rw [em x (q_hun_th hx), em g hg]
  rw [eS]
  unfold q_gn
  refine q_anyN_congr 9 (fun v _ _ => ?_)
  unfold q_gnP
  rw [pl h h' e, e g hg, pl _ (q_row h' g (max 0 (h' g - v))) (fun x hx => q_row_eq (e x hx))]
theorem q_S_gain_sim {h f a h' f' a' : Int → Int} {th n : Int} (s : q_simR th h f a h' f' a') : S_gain h a th n = S_gain h' a' th n := by
  have eS : q_set (q_hun h a th 0) = q_set (q_hun h' a' th 0) := q_set_congr (fun x _ _ => q_hun_sim s x)
  unfold S_gain
  refine q_first_congr 6 0 (fun g _ _ => ?_)
  rw [q_hun_sim s g]
  cases hg : q_hun h' a' th 0 g
  · rfl
  · rw [q_gn_sim (fun x hx => (s x hx).1) eS (q_hun_th hg) hg]
/-- years -/
def q_yrI (M M1 : q_M) (seed : Int) (k : Nat) (x e : Int) : Prop :=
  q_kz M M1 ∧ q_zv M1 ∧ q_pc M1 k ∧ x = (q_yr (q_hrT (M 0 0)) (M 0 0) (M 0 4) k (seed, q_T0 (M 1) (M 2) (M 3))).1 ∧ q_sR (M 0 0) (q_v9 M1) (q_yr (q_hrT (M 0 0)) (M 0 0) (M 0 4) k (seed, q_T0 (M 1) (M 2) (M 3))).2 ∧ M1 0 15 = qt_l (q_yr (q_hrT (M 0 0)) (M 0 0) (M 0 4) k (seed, q_T0 (M 1) (M 2) (M 3))).2 ∧ e = q_s6 (qt_p (q_yr (q_hrT (M 0 0)) (M 0 0) (M 0 4) k (seed, q_T0 (M 1) (M 2) (M 3))).2) ∧ (0 ≤ x ∧ x ≤ 65536) ∧ (0 ≤ e ∧ e ≤ 6 * k) ∧ (-(9 * (k : Int)) ≤ M1 0 15 ∧ M1 0 15 ≤ 9 * k)
def q_nxt (x : Int) : Int := (75 * x + 74) % 65537
theorem q_nxt_R (x : Int) : 0 ≤ q_nxt x ∧ q_nxt x ≤ 65536 := by
  unfold q_nxt
  omega
theorem q_mod4 (x : Int) : x % 4 = 0 ∨ x % 4 = 1 ∨ x % 4 = 2 ∨ x % 4 = 3 := by omega
theorem q_mod6 (x : Int) : 0 ≤ x % 6 ∧ x % 6 < 6 := by omega
theorem q_mod3 (x : Int) : 0 ≤ x % 3 ∧ x % 3 ≤ 2 := by omega
theorem q_mod9 (x : Int) : 0 ≤ x % 9 ∧ x % 9 ≤ 8 := by omega
theorem q_mod10 (x : Int) : 0 ≤ x % 10 ∧ x % 10 ≤ 9 := by omega
theorem q_yr_s (hr : (Int → Int) → Int → Int) (th ke : Int) (n : Nat) (y : Int × q_T) : q_yr hr th ke (n + 1) y = ((75 * (q_yr hr th ke n y).1 + 74) % 65537, q_dr hr th ke ((75 * (q_yr hr th ke n y).1 + 74) % 65537) (q_yr hr th ke n y).2) := rfl
/-- one act more of a year, whatever it is -/
theorem q_yrI_s {M M1 N : q_M} {seed x e x' e' : Int} {k : Nat} {s' : q_T} (h : q_yrI M M1 seed k x e) (hx : x' = (75 * x + 74) % 65537) (kz : q_kz M1 N) (zv : q_zv N) (pc : q_pc N (k + 1))
    (hs : q_dr (q_hrT (M 0 0)) (M 0 0) (M 0 4) x' (q_yr (q_hrT (M 0 0)) (M 0 0) (M 0 4) k (seed, q_T0 (M 1) (M 2) (M 3))).2 = s') (sR : q_sR (M 0 0) (q_v9 N) s') (hl : N 0 15 = qt_l s') (he : e' = q_s6 (qt_p s')) (be : 0 ≤ e' ∧ e' ≤ e + 6) (bl : M1 0 15 - 9 ≤ N 0 15 ∧ N 0 15 ≤ M1 0 15 + 9) : q_yrI M N seed (k + 1) x' e' := by
  obtain ⟨h1, -, -, h4, -, -, -, -, h9, h10⟩ := h
  have ey : q_yr (q_hrT (M 0 0)) (M 0 0) (M 0 4) (k + 1) (seed, q_T0 (M 1) (M 2) (M 3)) = (x', s') := by
    rw [q_yr_s, ← h4, ← hx, hs]
  refine ⟨q_kz_tr h1 kz, zv, ?_, ?_, ?_, ?_, ?_, by omega, by omega, by omega⟩
  · rw [show (((k + 1 : Nat)) : Int) = k + 1 by omega]; exact pc
  · rw [ey]
  · rw [ey]; exact sR
  · rw [ey]; exact hl
  · rw [ey]; exact he
theorem q_s6_dish {th ke pl p : Int} {s : q_T} : q_s6 (qt_p (q_dish th ke s pl p)) = q_s6 (qt_p s) + q_cnt (q_has (q_TK th ke s pl p)) := q_s6_add (qt_p s) (fun x => q_b (q_has (q_TK th ke s pl p) x))
theorem q_TK_R {th ke pl p : Int} {s : q_T} : 0 ≤ q_TK th ke s pl p ∧ q_TK th ke s pl p ≤ 63 := q_set_R _
/-- the image -/
def q_im (M M' : q_M) (n : Int) : Prop := (∀ j, j ≠ 17 → j ≠ 18 → M' j = M j) ∧ (∀ i, ¬ (50 * n ≤ i ∧ i < 50 * n + 43) → M' 17 i = M 17 i) ∧ (∀ i, ¬ i = n → M' 18 i = M 18 i) ∧ M' 18 n = 1 ∧
  (∀ g, 0 ≤ g → g < 6 → M' 17 (50 * n + g) = M 1 g ∧ M' 17 (50 * n + 6 + g) = M 2 g ∧ M' 17 (50 * n + 12 + g) = M 3 g ∧ M' 17 (50 * n + 18 + g) = M 4 g) ∧ (∀ k, 0 ≤ k → k < 16 → M' 17 (50 * n + 24 + k) = M 5 k) ∧ M' 17 (50 * n + 40) = M 0 0 ∧ M' 17 (50 * n + 41) = M 0 4 ∧ M' 17 (50 * n + 42) = M 0 6
def q_rm (M M' : q_M) (n : Int) : Prop := (∀ j, 6 ≤ j → M' j = M j) ∧ (∀ i, ¬ (i = 0 ∨ i = 4 ∨ i = 6) → M' 0 i = M 0 i) ∧
  (∀ g, 0 ≤ g → g < 6 → M' 1 g = M 17 (50 * n + g) ∧ M' 2 g = M 17 (50 * n + 6 + g) ∧ M' 3 g = M 17 (50 * n + 12 + g) ∧ M' 4 g = M 17 (50 * n + 18 + g)) ∧ (∀ k, 0 ≤ k → k < 16 → M' 5 k = M 17 (50 * n + 24 + k)) ∧ M' 0 0 = M 17 (50 * n + 40) ∧ M' 0 4 = M 17 (50 * n + 41) ∧ M' 0 6 = M 17 (50 * n + 42)
set_option maxHeartbeats 4000000 in
set_option maxRecDepth 100000 in
theorem c_X9_digit (G : q_G) (hI : q_inj G) (M : q_M) (n : Int) (k : Int) (hn : (0 ≤ n ∧ n ≤ 999999) ∧ (0 ≤ k ∧ k ≤ 6)) : q_CI G yX9_digit wsX9_digit ({ frames := 0, cells := 0, slots := 0, locals := 0 } : Room) [.int (q_I n), .int (q_I k)] M (fun z M' => z = q_dgt n k ∧ M' = M) := by
  refine q_CI.of hI (by decide) rfl RX9 rfl [(0, .int (q_I n)), (1, .int (q_I k))] rfl (Nat.le_of_ble_eq_true rfl) (fun E F FI => ?_)
  refine q_MRof (fun hM => ?_)
  refine q_iload_n F dX9_digit_0 0 rfl ?_
  refine q_istore_n F dX9_digit_1 [(2, .int (q_I n)), (0, .int (q_I n)), (1, .int (q_I k))] (Nat.le_of_ble_eq_true rfl) rfl ?_
  refine q_iload_n F dX9_digit_2 2 rfl ?_
  refine q_istore_n F dX9_digit_3 [(3, .int (q_I k)), (2, .int (q_I n)), (0, .int (q_I n)), (1, .int (q_I k))] (Nat.le_of_ble_eq_true rfl) rfl ?_
  have lp4_1 : ∀ (k4_1 : Nat) (l : Int) (j : Int), ((k ≤ j ∧ (j ≤ 5 ∨ j = k)) ∧ l = n / q_pw 10 (j - k).toNat ∧ (0 ≤ l ∧ l ≤ 999999)) → (5 - j).toNat = k4_1 → q_Y G E 4 M [(0, .int (q_I n)), (1, .int (q_I k)), (2, .int (q_I l)), (3, .int (q_I j))] 4 [] := by
    intro k4_1
    induction k4_1 using Nat.strongRecOn with
    | _ k4_1 ih4_1 =>
      intro l j   hi4 hk4
      refine q_iload_n F dX9_digit_4 3 rfl ?_
      refine q_iconst F dX9_digit_5 ?_
      refine q_icmp_ge F 20 dX9_digit_6 (by decide) (by omega) (fun c6 => ?_) (fun c6 => ?_)
      · refine q_iload_n F dX9_digit_20 2 rfl ?_
        refine q_bipush F dX9_digit_21 (by decide) ?_
        refine q_irem F dX9_digit_23 (by omega) ?_
        exact q_iret F FI dX9_digit_24 (by omega) ⟨by unfold q_dgt; rw [hi4.2.1, show (j - k).toNat = (5 - k).toNat by omega], rfl⟩
      · refine q_iload_n F dX9_digit_9 2 rfl ?_
        refine q_bipush F dX9_digit_10 (by decide) ?_
        refine q_idiv F dX9_digit_12 (by omega) ?_
        refine q_nm (fun v13 e13 => ?_)
        refine q_istore_n F dX9_digit_13 [(2, .int (q_I v13)), (0, .int (q_I n)), (1, .int (q_I k)), (3, .int (q_I j))] (Nat.le_of_ble_eq_true rfl) rfl ?_
        obtain ⟨v14, e14⟩ : ∃ z_ : Int, z_ = j + 1 := ⟨_, rfl⟩
        refine q_iinc F dX9_digit_14 3 rfl e14 [(3, .int (q_I v14)), (2, .int (q_I v13)), (0, .int (q_I n)), (1, .int (q_I k))] (Nat.le_of_ble_eq_true rfl) rfl ?_
        refine q_goto F 4 dX9_digit_17 (by decide) ?_
        refine q_drop [2, 3, 1, 0] rfl ?_
        exact ih4_1 _ (by omega) v13 v14 ⟨by omega, by rw [e13, hi4.2.1, e14, q_pw_div (by omega), show (j + 1 - k).toNat = (j - k).toNat + 1 by omega], by omega⟩ rfl
  refine q_drop [2, 3, 1, 0] rfl ?_
  exact lp4_1 _ n k ⟨by omega, by rw [show k - k = 0 by omega]; exact (Int.ediv_one n).symm, by omega⟩ rfl

set_option maxHeartbeats 4000000 in
set_option maxRecDepth 100000 in
theorem c_X9_byPlace (G : q_G) (hI : q_inj G) (M : q_M) (hm : q_mo G) (g : Int) (n : Int) (hv : q_zv M) (hg : (0 ≤ g ∧ g < 6) ∧ (0 ≤ n ∧ n ≤ 999999)) : q_CI G yX9_byPlace wsX9_byPlace ({ frames := 2, cells := 0, slots := 0, locals := 43 } : Room) [.ref (q_ad G 0), .int (q_I g), .int (q_I n)] M (fun z M' => z = q_dgt n (q_bp (M 7) (M 8) (M 9) (M 0 0) g) ∧ M' = M) := by
  refine q_CI.of hI (by decide) rfl RX9 rfl [(0, .ref (q_ad G 0)), (1, .int (q_I g)), (2, .int (q_I n))] rfl (Nat.le_of_ble_eq_true rfl) (fun E F FI => ?_)
  have huX9 : ∀ w ∈ wsX90, w ∈ wsX9_byPlace := by decide +kernel
  refine q_MRof (fun hM => ?_)
  obtain ⟨⟨xt, xk⟩, xh, xf, xa⟩ := id hv
  have hvg := xh g hg.1.1 hg.1.2
  have hfg := xf g hg.1.1 hg.1.2
  have tg := q_t9_R (ru := 0) hvg hfg
  have tgs : q_t9 (M 7) (M 8) 0 g = q_shn (M 7) (M 8) g := rfl
  refine q_iconst F dX9_byPlace_0 ?_
  refine q_istore_n F dX9_byPlace_1 [(3, .int (q_I 0)), (0, .ref (q_ad G 0)), (1, .int (q_I g)), (2, .int (q_I n))] (Nat.le_of_ble_eq_true rfl) rfl ?_
  refine q_iconst F dX9_byPlace_2 ?_
  refine q_istore F dX9_byPlace_3 [(4, .int (q_I 0)), (3, .int (q_I 0)), (0, .ref (q_ad G 0)), (1, .int (q_I g)), (2, .int (q_I n))] (Nat.le_of_ble_eq_true rfl) rfl ?_
  have lp5_1 : ∀ (k5_1 : Nat) (a : Int) (q : Int), ((0 ≤ q ∧ q ≤ 6) ∧ a = q_cnt (q_lt (fun q => (q_ins (M 9) (M 0 0) 0 q && decide (0 < M 7 q)) && (decide (q_shn (M 7) (M 8) q < q_shn (M 7) (M 8) g) || (decide (q_shn (M 7) (M 8) q = q_shn (M 7) (M 8) g) && decide (q < g)))) q)) → (6 - q).toNat = k5_1 → q_Y G E 6 M [(0, .ref (q_ad G 0)), (1, .int (q_I g)), (2, .int (q_I n)), (3, .int (q_I a)), (4, .int (q_I q))] 5 [] := by
    intro k5_1
    induction k5_1 using Nat.strongRecOn with
    | _ k5_1 ih5_1 =>
      intro a q   hi5 hk5
      have hvq : 0 ≤ q → q < 6 → _ := xh q
      have hfq : 0 ≤ q → q < 6 → _ := xf q
      refine q_iload F dX9_byPlace_5 4 rfl ?_
      refine q_bipush F dX9_byPlace_7 (by decide) ?_
      refine q_icmp_ge F 102 dX9_byPlace_9 (by decide) (by omega) (fun c9 => ?_) (fun c9 => ?_)
      · have hA : a = q_bp (M 7) (M 8) (M 9) (M 0 0) g := by rw [hi5.2, show q = 6 by omega, q_cnt_6]; rfl
        have hAR := q_bp_R (M 7) (M 8) (M 9) (M 0 0) g
        rw [← hA] at hAR
        refine q_iload_n F dX9_byPlace_102 2 rfl ?_
        refine q_iload_n F dX9_byPlace_103 3 rfl ?_
        refine q_callSP (n := 2) F (c_X9_digit G hI M n a (by omega)) rfl gX9_byPlace_X9_digit ⟨by decide, by decide, by decide +kernel⟩ rfl ⟨rfl, rfl, Nat.le_of_ble_eq_true rfl, Nat.le_of_ble_eq_true rfl⟩ rfl (Nat.le_of_ble_eq_true rfl) dX9_byPlace_104 (fun h104 => ?_)
        exact q_iret F FI dX9_byPlace_107 h104 ⟨by rw [hA], rfl⟩
      · have tq := q_t9_R (ru := 0) (hvq hi5.1.1 (by omega)) (hfq hi5.1.1 (by omega))
        have tqs : q_t9 (M 7) (M 8) 0 q = q_shn (M 7) (M 8) q := rfl
        refine q_aload_n F dX9_byPlace_12 0 rfl ?_
        refine q_iload F dX9_byPlace_13 4 rfl ?_
        refine q_iconst F dX9_byPlace_15 ?_
        refine q_callVP (n := 2) (T := TX9) F (c_X9_turn G hI M hm q 0 (by assumption) (by omega) (by omega)) rfl rfl hm.1 gX9_byPlace_X9_turn rfl ⟨by decide, by decide, by decide +kernel⟩ rfl ⟨rfl, rfl, Nat.le_of_ble_eq_true rfl, Nat.le_of_ble_eq_true rfl⟩ rfl (Nat.le_of_ble_eq_true rfl) dX9_byPlace_16 (fun h16 => ?_)
        refine q_aload_n F dX9_byPlace_19 0 rfl ?_
        refine q_iload_n F dX9_byPlace_20 1 rfl ?_
        refine q_iconst F dX9_byPlace_21 ?_
        refine q_callVP (n := 2) (T := TX9) F (c_X9_turn G hI M hm g 0 (by assumption) (by omega) (by omega)) rfl rfl hm.1 gX9_byPlace_X9_turn rfl ⟨by decide, by decide, by decide +kernel⟩ rfl ⟨rfl, rfl, Nat.le_of_ble_eq_true rfl, Nat.le_of_ble_eq_true rfl⟩ rfl (Nat.le_of_ble_eq_true rfl) dX9_byPlace_22 (fun h22 => ?_)
        refine q_icmp_lt F 50 dX9_byPlace_25 (by decide) (by omega) (fun c25 => ?_) (fun c25 => ?_)
        · refine q_iconst F dX9_byPlace_50 ?_
          refine q_goto F 55 dX9_byPlace_51 (by decide) ?_
          refine q_istore F dX9_byPlace_55 [(5, .int (q_I 1)), (0, .ref (q_ad G 0)), (1, .int (q_I g)), (2, .int (q_I n)), (3, .int (q_I a)), (4, .int (q_I q))] (Nat.le_of_ble_eq_true rfl) rfl ?_
          have t1 : q_shn (M 7) (M 8) q < q_shn (M 7) (M 8) g := c25
          refine q_iload_n F dX9_byPlace_57 4 rfl ?_
          refine q_aload_n F dX9_byPlace_58 1 rfl ?_
          refine q_iload F dX9_byPlace_59 5 rfl ?_
          refine q_iconst F dX9_byPlace_61 ?_
          refine q_callVP (n := 2) (T := TX9) F (c_X9_isIn G hI M hm q 0 (by assumption) (by omega) (by omega)) rfl rfl hm.1 gX9_byPlace_X9_isIn rfl ⟨by decide, by decide, by decide +kernel⟩ rfl ⟨rfl, rfl, Nat.le_of_ble_eq_true rfl, Nat.le_of_ble_eq_true rfl⟩ rfl (Nat.le_of_ble_eq_true rfl) dX9_byPlace_62 (fun h62 => ?_)
          refine q_ifb_eq F 93 dX9_byPlace_65 (by decide) (fun c65 => ?_) (fun c65 => ?_)
          · refine q_iconst F dX9_byPlace_93 ?_
            refine q_iadd F dX9_byPlace_94 ?_
            refine q_nm (fun v95 e95 => ?_)
            refine q_istore_n F dX9_byPlace_95 [(3, .int (q_I v95)), (5, .int (q_I 1)), (0, .ref (q_ad G 0)), (1, .int (q_I g)), (2, .int (q_I n)), (4, .int (q_I q))] (Nat.le_of_ble_eq_true rfl) rfl ?_
            obtain ⟨v96, e96⟩ : ∃ z_ : Int, z_ = q + 1 := ⟨_, rfl⟩
            refine q_iinc F dX9_byPlace_96 5 rfl e96 [(4, .int (q_I v96)), (3, .int (q_I v95)), (5, .int (q_I 1)), (0, .ref (q_ad G 0)), (1, .int (q_I g)), (2, .int (q_I n))] (Nat.le_of_ble_eq_true rfl) rfl ?_
            refine q_goto F 5 dX9_byPlace_99 (by decide) ?_
            refine q_drop [3, 4, 5, 1, 0] rfl ?_
            exact ih5_1 _ (by omega) v95 v96 ⟨by omega, by
                  have hst := q_cnt_step (fun q => (q_ins (M 9) (M 0 0) 0 q && decide (0 < M 7 q)) && (decide (q_shn (M 7) (M 8) q < q_shn (M 7) (M 8) g) || (decide (q_shn (M 7) (M 8) q = q_shn (M 7) (M 8) g) && decide (q < g)))) (g := q) (by omega) (by omega)
                  rw [e96, hst, e95, ← hi5.2]
                  have hb : ((q_ins (M 9) (M 0 0) 0 q && decide (0 < M 7 q)) && (decide (q_shn (M 7) (M 8) q < q_shn (M 7) (M 8) g) || (decide (q_shn (M 7) (M 8) q = q_shn (M 7) (M 8) g) && decide (q < g)))) = false := by
                    rw [c65]; rfl
                  rw [if_neg (by rw [hb]; decide)]; omega⟩ rfl
          · refine q_aload_n F dX9_byPlace_68 1 rfl ?_
            refine q_getr (T := TX9) (ref := "LeastHungryModel") F huX9 rfl hm.1 10 (by decide) (by decide +kernel) rfl rfl dX9_byPlace_69 ?_
            refine q_iload F dX9_byPlace_72 5 rfl ?_
            refine q_iald F hm.2.2.2.2.2.2.2.1 (Nat.le_of_ble_eq_true rfl) (by omega) dX9_byPlace_74 (fun h74 => ?_)
            refine q_if_le F 93 dX9_byPlace_75 (by decide) (by omega) (fun c75 => ?_) (fun c75 => ?_)
            · refine q_iconst F dX9_byPlace_93 ?_
              refine q_iadd F dX9_byPlace_94 ?_
              refine q_nm (fun v95 e95 => ?_)
              refine q_istore_n F dX9_byPlace_95 [(3, .int (q_I v95)), (5, .int (q_I 1)), (0, .ref (q_ad G 0)), (1, .int (q_I g)), (2, .int (q_I n)), (4, .int (q_I q))] (Nat.le_of_ble_eq_true rfl) rfl ?_
              obtain ⟨v96, e96⟩ : ∃ z_ : Int, z_ = q + 1 := ⟨_, rfl⟩
              refine q_iinc F dX9_byPlace_96 5 rfl e96 [(4, .int (q_I v96)), (3, .int (q_I v95)), (5, .int (q_I 1)), (0, .ref (q_ad G 0)), (1, .int (q_I g)), (2, .int (q_I n))] (Nat.le_of_ble_eq_true rfl) rfl ?_
              refine q_goto F 5 dX9_byPlace_99 (by decide) ?_
              refine q_drop [3, 4, 5, 1, 0] rfl ?_
              exact ih5_1 _ (by omega) v95 v96 ⟨by omega, by
                    have hst := q_cnt_step (fun q => (q_ins (M 9) (M 0 0) 0 q && decide (0 < M 7 q)) && (decide (q_shn (M 7) (M 8) q < q_shn (M 7) (M 8) g) || (decide (q_shn (M 7) (M 8) q = q_shn (M 7) (M 8) g) && decide (q < g)))) (g := q) (by omega) (by omega)
                    rw [e96, hst, e95, ← hi5.2]
                    have hb : ((q_ins (M 9) (M 0 0) 0 q && decide (0 < M 7 q)) && (decide (q_shn (M 7) (M 8) q < q_shn (M 7) (M 8) g) || (decide (q_shn (M 7) (M 8) q = q_shn (M 7) (M 8) g) && decide (q < g)))) = false := by
                      rw [decide_eq_false (show ¬ 0 < M 7 q by omega), Bool.and_false]; rfl
                    rw [if_neg (by rw [hb]; decide)]; omega⟩ rfl
            · refine q_iload F dX9_byPlace_78 5 rfl ?_
              refine q_iload_n F dX9_byPlace_80 2 rfl ?_
              refine q_icmp_eq F 93 dX9_byPlace_81 (by decide) (by omega) (fun c81 => ?_) (fun c81 => ?_)
              · refine q_iconst F dX9_byPlace_93 ?_
                refine q_iadd F dX9_byPlace_94 ?_
                refine q_nm (fun v95 e95 => ?_)
                refine q_istore_n F dX9_byPlace_95 [(3, .int (q_I v95)), (5, .int (q_I 1)), (0, .ref (q_ad G 0)), (1, .int (q_I g)), (2, .int (q_I n)), (4, .int (q_I q))] (Nat.le_of_ble_eq_true rfl) rfl ?_
                obtain ⟨v96, e96⟩ : ∃ z_ : Int, z_ = q + 1 := ⟨_, rfl⟩
                refine q_iinc F dX9_byPlace_96 5 rfl e96 [(4, .int (q_I v96)), (3, .int (q_I v95)), (5, .int (q_I 1)), (0, .ref (q_ad G 0)), (1, .int (q_I g)), (2, .int (q_I n))] (Nat.le_of_ble_eq_true rfl) rfl ?_
                refine q_goto F 5 dX9_byPlace_99 (by decide) ?_
                refine q_drop [3, 4, 5, 1, 0] rfl ?_
                exact ih5_1 _ (by omega) v95 v96 ⟨by omega, by
                      have hst := q_cnt_step (fun q => (q_ins (M 9) (M 0 0) 0 q && decide (0 < M 7 q)) && (decide (q_shn (M 7) (M 8) q < q_shn (M 7) (M 8) g) || (decide (q_shn (M 7) (M 8) q = q_shn (M 7) (M 8) g) && decide (q < g)))) (g := q) (by omega) (by omega)
                      rw [e96, hst, e95, ← hi5.2]
                      have hb : ((q_ins (M 9) (M 0 0) 0 q && decide (0 < M 7 q)) && (decide (q_shn (M 7) (M 8) q < q_shn (M 7) (M 8) g) || (decide (q_shn (M 7) (M 8) q = q_shn (M 7) (M 8) g) && decide (q < g)))) = false := by
                        rw [show q = g from c81]
                        rw [decide_eq_false (show ¬ q_shn (M 7) (M 8) g < q_shn (M 7) (M 8) g by omega), decide_eq_false (show ¬ g < g by omega), Bool.and_false, Bool.or_false, Bool.and_false]
                      rw [if_neg (by rw [hb]; decide)]; omega⟩ rfl
              · refine q_iload F dX9_byPlace_84 0 rfl ?_
                refine q_if_eq F 93 dX9_byPlace_86 (by decide) (by omega) (fun c86 => absurd c86 (by decide)) (fun _ => ?_)
                refine q_iconst F dX9_byPlace_89 ?_
                refine q_goto F 94 dX9_byPlace_90 (by decide) ?_
                refine q_iadd F dX9_byPlace_94 ?_
                refine q_nm (fun v95 e95 => ?_)
                refine q_istore_n F dX9_byPlace_95 [(3, .int (q_I v95)), (5, .int (q_I 1)), (0, .ref (q_ad G 0)), (1, .int (q_I g)), (2, .int (q_I n)), (4, .int (q_I q))] (Nat.le_of_ble_eq_true rfl) rfl ?_
                obtain ⟨v96, e96⟩ : ∃ z_ : Int, z_ = q + 1 := ⟨_, rfl⟩
                refine q_iinc F dX9_byPlace_96 5 rfl e96 [(4, .int (q_I v96)), (3, .int (q_I v95)), (5, .int (q_I 1)), (0, .ref (q_ad G 0)), (1, .int (q_I g)), (2, .int (q_I n))] (Nat.le_of_ble_eq_true rfl) rfl ?_
                refine q_goto F 5 dX9_byPlace_99 (by decide) ?_
                refine q_drop [3, 4, 5, 1, 0] rfl ?_
                exact ih5_1 _ (by omega) v95 v96 ⟨by omega, by
                      have hst := q_cnt_step (fun q => (q_ins (M 9) (M 0 0) 0 q && decide (0 < M 7 q)) && (decide (q_shn (M 7) (M 8) q < q_shn (M 7) (M 8) g) || (decide (q_shn (M 7) (M 8) q = q_shn (M 7) (M 8) g) && decide (q < g)))) (g := q) (by omega) (by omega)
                      rw [e96, hst, e95, ← hi5.2]
                      have hb : ((q_ins (M 9) (M 0 0) 0 q && decide (0 < M 7 q)) && (decide (q_shn (M 7) (M 8) q < q_shn (M 7) (M 8) g) || (decide (q_shn (M 7) (M 8) q = q_shn (M 7) (M 8) g) && decide (q < g)))) = true := by
                        rw [c65, decide_eq_true (show 0 < M 7 q by omega)]
                        rw [decide_eq_true (show q_shn (M 7) (M 8) q < q_shn (M 7) (M 8) g from t1)]; rfl
                      rw [if_pos hb]⟩ rfl
        · refine q_aload_n F dX9_byPlace_28 0 rfl ?_
          refine q_iload F dX9_byPlace_29 4 rfl ?_
          refine q_iconst F dX9_byPlace_31 ?_
          refine q_callVP (n := 2) (T := TX9) F (c_X9_turn G hI M hm q 0 (by assumption) (by omega) (by omega)) rfl rfl hm.1 gX9_byPlace_X9_turn rfl ⟨by decide, by decide, by decide +kernel⟩ rfl ⟨rfl, rfl, Nat.le_of_ble_eq_true rfl, Nat.le_of_ble_eq_true rfl⟩ rfl (Nat.le_of_ble_eq_true rfl) dX9_byPlace_32 (fun h32 => ?_)
          refine q_aload_n F dX9_byPlace_35 0 rfl ?_
          refine q_iload_n F dX9_byPlace_36 1 rfl ?_
          refine q_iconst F dX9_byPlace_37 ?_
          refine q_callVP (n := 2) (T := TX9) F (c_X9_turn G hI M hm g 0 (by assumption) (by omega) (by omega)) rfl rfl hm.1 gX9_byPlace_X9_turn rfl ⟨by decide, by decide, by decide +kernel⟩ rfl ⟨rfl, rfl, Nat.le_of_ble_eq_true rfl, Nat.le_of_ble_eq_true rfl⟩ rfl (Nat.le_of_ble_eq_true rfl) dX9_byPlace_38 (fun h38 => ?_)
          refine q_icmp_ne F 54 dX9_byPlace_41 (by decide) (by omega) (fun c41 => ?_) (fun c41 => ?_)
          · refine q_iconst F dX9_byPlace_54 ?_
            refine q_istore F dX9_byPlace_55 [(5, .int (q_I 0)), (0, .ref (q_ad G 0)), (1, .int (q_I g)), (2, .int (q_I n)), (3, .int (q_I a)), (4, .int (q_I q))] (Nat.le_of_ble_eq_true rfl) rfl ?_
            have t1 : ¬ q_shn (M 7) (M 8) q < q_shn (M 7) (M 8) g := by
              have := c25
              rw [tqs, tgs] at this
              omega
            have t2 : ¬ q_shn (M 7) (M 8) q = q_shn (M 7) (M 8) g := c41
            refine q_iload_n F dX9_byPlace_57 4 rfl ?_
            refine q_aload_n F dX9_byPlace_58 1 rfl ?_
            refine q_iload F dX9_byPlace_59 5 rfl ?_
            refine q_iconst F dX9_byPlace_61 ?_
            refine q_callVP (n := 2) (T := TX9) F (c_X9_isIn G hI M hm q 0 (by assumption) (by omega) (by omega)) rfl rfl hm.1 gX9_byPlace_X9_isIn rfl ⟨by decide, by decide, by decide +kernel⟩ rfl ⟨rfl, rfl, Nat.le_of_ble_eq_true rfl, Nat.le_of_ble_eq_true rfl⟩ rfl (Nat.le_of_ble_eq_true rfl) dX9_byPlace_62 (fun h62 => ?_)
            refine q_ifb_eq F 93 dX9_byPlace_65 (by decide) (fun c65 => ?_) (fun c65 => ?_)
            · refine q_iconst F dX9_byPlace_93 ?_
              refine q_iadd F dX9_byPlace_94 ?_
              refine q_nm (fun v95 e95 => ?_)
              refine q_istore_n F dX9_byPlace_95 [(3, .int (q_I v95)), (5, .int (q_I 0)), (0, .ref (q_ad G 0)), (1, .int (q_I g)), (2, .int (q_I n)), (4, .int (q_I q))] (Nat.le_of_ble_eq_true rfl) rfl ?_
              obtain ⟨v96, e96⟩ : ∃ z_ : Int, z_ = q + 1 := ⟨_, rfl⟩
              refine q_iinc F dX9_byPlace_96 5 rfl e96 [(4, .int (q_I v96)), (3, .int (q_I v95)), (5, .int (q_I 0)), (0, .ref (q_ad G 0)), (1, .int (q_I g)), (2, .int (q_I n))] (Nat.le_of_ble_eq_true rfl) rfl ?_
              refine q_goto F 5 dX9_byPlace_99 (by decide) ?_
              refine q_drop [3, 4, 5, 1, 0] rfl ?_
              exact ih5_1 _ (by omega) v95 v96 ⟨by omega, by
                    have hst := q_cnt_step (fun q => (q_ins (M 9) (M 0 0) 0 q && decide (0 < M 7 q)) && (decide (q_shn (M 7) (M 8) q < q_shn (M 7) (M 8) g) || (decide (q_shn (M 7) (M 8) q = q_shn (M 7) (M 8) g) && decide (q < g)))) (g := q) (by omega) (by omega)
                    rw [e96, hst, e95, ← hi5.2]
                    have hb : ((q_ins (M 9) (M 0 0) 0 q && decide (0 < M 7 q)) && (decide (q_shn (M 7) (M 8) q < q_shn (M 7) (M 8) g) || (decide (q_shn (M 7) (M 8) q = q_shn (M 7) (M 8) g) && decide (q < g)))) = false := by
                      rw [c65]; rfl
                    rw [if_neg (by rw [hb]; decide)]; omega⟩ rfl
            · refine q_aload_n F dX9_byPlace_68 1 rfl ?_
              refine q_getr (T := TX9) (ref := "LeastHungryModel") F huX9 rfl hm.1 10 (by decide) (by decide +kernel) rfl rfl dX9_byPlace_69 ?_
              refine q_iload F dX9_byPlace_72 5 rfl ?_
              refine q_iald F hm.2.2.2.2.2.2.2.1 (Nat.le_of_ble_eq_true rfl) (by omega) dX9_byPlace_74 (fun h74 => ?_)
              refine q_if_le F 93 dX9_byPlace_75 (by decide) (by omega) (fun c75 => ?_) (fun c75 => ?_)
              · refine q_iconst F dX9_byPlace_93 ?_
                refine q_iadd F dX9_byPlace_94 ?_
                refine q_nm (fun v95 e95 => ?_)
                refine q_istore_n F dX9_byPlace_95 [(3, .int (q_I v95)), (5, .int (q_I 0)), (0, .ref (q_ad G 0)), (1, .int (q_I g)), (2, .int (q_I n)), (4, .int (q_I q))] (Nat.le_of_ble_eq_true rfl) rfl ?_
                obtain ⟨v96, e96⟩ : ∃ z_ : Int, z_ = q + 1 := ⟨_, rfl⟩
                refine q_iinc F dX9_byPlace_96 5 rfl e96 [(4, .int (q_I v96)), (3, .int (q_I v95)), (5, .int (q_I 0)), (0, .ref (q_ad G 0)), (1, .int (q_I g)), (2, .int (q_I n))] (Nat.le_of_ble_eq_true rfl) rfl ?_
                refine q_goto F 5 dX9_byPlace_99 (by decide) ?_
                refine q_drop [3, 4, 5, 1, 0] rfl ?_
                exact ih5_1 _ (by omega) v95 v96 ⟨by omega, by
                      have hst := q_cnt_step (fun q => (q_ins (M 9) (M 0 0) 0 q && decide (0 < M 7 q)) && (decide (q_shn (M 7) (M 8) q < q_shn (M 7) (M 8) g) || (decide (q_shn (M 7) (M 8) q = q_shn (M 7) (M 8) g) && decide (q < g)))) (g := q) (by omega) (by omega)
                      rw [e96, hst, e95, ← hi5.2]
                      have hb : ((q_ins (M 9) (M 0 0) 0 q && decide (0 < M 7 q)) && (decide (q_shn (M 7) (M 8) q < q_shn (M 7) (M 8) g) || (decide (q_shn (M 7) (M 8) q = q_shn (M 7) (M 8) g) && decide (q < g)))) = false := by
                        rw [decide_eq_false (show ¬ 0 < M 7 q by omega), Bool.and_false]; rfl
                      rw [if_neg (by rw [hb]; decide)]; omega⟩ rfl
              · refine q_iload F dX9_byPlace_78 5 rfl ?_
                refine q_iload_n F dX9_byPlace_80 2 rfl ?_
                refine q_icmp_eq F 93 dX9_byPlace_81 (by decide) (by omega) (fun c81 => ?_) (fun c81 => ?_)
                · refine q_iconst F dX9_byPlace_93 ?_
                  refine q_iadd F dX9_byPlace_94 ?_
                  refine q_nm (fun v95 e95 => ?_)
                  refine q_istore_n F dX9_byPlace_95 [(3, .int (q_I v95)), (5, .int (q_I 0)), (0, .ref (q_ad G 0)), (1, .int (q_I g)), (2, .int (q_I n)), (4, .int (q_I q))] (Nat.le_of_ble_eq_true rfl) rfl ?_
                  obtain ⟨v96, e96⟩ : ∃ z_ : Int, z_ = q + 1 := ⟨_, rfl⟩
                  refine q_iinc F dX9_byPlace_96 5 rfl e96 [(4, .int (q_I v96)), (3, .int (q_I v95)), (5, .int (q_I 0)), (0, .ref (q_ad G 0)), (1, .int (q_I g)), (2, .int (q_I n))] (Nat.le_of_ble_eq_true rfl) rfl ?_
                  refine q_goto F 5 dX9_byPlace_99 (by decide) ?_
                  refine q_drop [3, 4, 5, 1, 0] rfl ?_
                  exact ih5_1 _ (by omega) v95 v96 ⟨by omega, by
                        have hst := q_cnt_step (fun q => (q_ins (M 9) (M 0 0) 0 q && decide (0 < M 7 q)) && (decide (q_shn (M 7) (M 8) q < q_shn (M 7) (M 8) g) || (decide (q_shn (M 7) (M 8) q = q_shn (M 7) (M 8) g) && decide (q < g)))) (g := q) (by omega) (by omega)
                        rw [e96, hst, e95, ← hi5.2]
                        have hb : ((q_ins (M 9) (M 0 0) 0 q && decide (0 < M 7 q)) && (decide (q_shn (M 7) (M 8) q < q_shn (M 7) (M 8) g) || (decide (q_shn (M 7) (M 8) q = q_shn (M 7) (M 8) g) && decide (q < g)))) = false := by
                          rw [show q = g from c81]
                          rw [decide_eq_false (show ¬ q_shn (M 7) (M 8) g < q_shn (M 7) (M 8) g by omega), decide_eq_false (show ¬ g < g by omega), Bool.and_false, Bool.or_false, Bool.and_false]
                        rw [if_neg (by rw [hb]; decide)]; omega⟩ rfl
                · refine q_iload F dX9_byPlace_84 0 rfl ?_
                  refine q_if_eq F 93 dX9_byPlace_86 (by decide) (by omega) (fun _ => ?_) (fun c86 => absurd c86 (by decide))
                  refine q_iconst F dX9_byPlace_93 ?_
                  refine q_iadd F dX9_byPlace_94 ?_
                  refine q_nm (fun v95 e95 => ?_)
                  refine q_istore_n F dX9_byPlace_95 [(3, .int (q_I v95)), (5, .int (q_I 0)), (0, .ref (q_ad G 0)), (1, .int (q_I g)), (2, .int (q_I n)), (4, .int (q_I q))] (Nat.le_of_ble_eq_true rfl) rfl ?_
                  obtain ⟨v96, e96⟩ : ∃ z_ : Int, z_ = q + 1 := ⟨_, rfl⟩
                  refine q_iinc F dX9_byPlace_96 5 rfl e96 [(4, .int (q_I v96)), (3, .int (q_I v95)), (5, .int (q_I 0)), (0, .ref (q_ad G 0)), (1, .int (q_I g)), (2, .int (q_I n))] (Nat.le_of_ble_eq_true rfl) rfl ?_
                  refine q_goto F 5 dX9_byPlace_99 (by decide) ?_
                  refine q_drop [3, 4, 5, 1, 0] rfl ?_
                  exact ih5_1 _ (by omega) v95 v96 ⟨by omega, by
                        have hst := q_cnt_step (fun q => (q_ins (M 9) (M 0 0) 0 q && decide (0 < M 7 q)) && (decide (q_shn (M 7) (M 8) q < q_shn (M 7) (M 8) g) || (decide (q_shn (M 7) (M 8) q = q_shn (M 7) (M 8) g) && decide (q < g)))) (g := q) (by omega) (by omega)
                        rw [e96, hst, e95, ← hi5.2]
                        have hb : ((q_ins (M 9) (M 0 0) 0 q && decide (0 < M 7 q)) && (decide (q_shn (M 7) (M 8) q < q_shn (M 7) (M 8) g) || (decide (q_shn (M 7) (M 8) q = q_shn (M 7) (M 8) g) && decide (q < g)))) = false := by
                          rw [decide_eq_false (show ¬ q_shn (M 7) (M 8) q < q_shn (M 7) (M 8) g from t1), decide_eq_false (show ¬ q_shn (M 7) (M 8) q = q_shn (M 7) (M 8) g from t2), Bool.false_and, Bool.or_false, Bool.and_false]
                        rw [if_neg (by rw [hb]; decide)]; omega⟩ rfl
          · refine q_iload F dX9_byPlace_44 4 rfl ?_
            refine q_iload_n F dX9_byPlace_46 1 rfl ?_
            refine q_icmp_ge F 54 dX9_byPlace_47 (by decide) (by omega) (fun c47 => ?_) (fun c47 => ?_)
            · refine q_iconst F dX9_byPlace_54 ?_
              refine q_istore F dX9_byPlace_55 [(5, .int (q_I 0)), (0, .ref (q_ad G 0)), (1, .int (q_I g)), (2, .int (q_I n)), (3, .int (q_I a)), (4, .int (q_I q))] (Nat.le_of_ble_eq_true rfl) rfl ?_
              have t1 : ¬ q_shn (M 7) (M 8) q < q_shn (M 7) (M 8) g := by
                have := c25
                rw [tqs, tgs] at this
                omega
              have t2 : q_shn (M 7) (M 8) q = q_shn (M 7) (M 8) g := c41
              refine q_iload_n F dX9_byPlace_57 4 rfl ?_
              refine q_aload_n F dX9_byPlace_58 1 rfl ?_
              refine q_iload F dX9_byPlace_59 5 rfl ?_
              refine q_iconst F dX9_byPlace_61 ?_
              refine q_callVP (n := 2) (T := TX9) F (c_X9_isIn G hI M hm q 0 (by assumption) (by omega) (by omega)) rfl rfl hm.1 gX9_byPlace_X9_isIn rfl ⟨by decide, by decide, by decide +kernel⟩ rfl ⟨rfl, rfl, Nat.le_of_ble_eq_true rfl, Nat.le_of_ble_eq_true rfl⟩ rfl (Nat.le_of_ble_eq_true rfl) dX9_byPlace_62 (fun h62 => ?_)
              refine q_ifb_eq F 93 dX9_byPlace_65 (by decide) (fun c65 => ?_) (fun c65 => ?_)
              · refine q_iconst F dX9_byPlace_93 ?_
                refine q_iadd F dX9_byPlace_94 ?_
                refine q_nm (fun v95 e95 => ?_)
                refine q_istore_n F dX9_byPlace_95 [(3, .int (q_I v95)), (5, .int (q_I 0)), (0, .ref (q_ad G 0)), (1, .int (q_I g)), (2, .int (q_I n)), (4, .int (q_I q))] (Nat.le_of_ble_eq_true rfl) rfl ?_
                obtain ⟨v96, e96⟩ : ∃ z_ : Int, z_ = q + 1 := ⟨_, rfl⟩
                refine q_iinc F dX9_byPlace_96 5 rfl e96 [(4, .int (q_I v96)), (3, .int (q_I v95)), (5, .int (q_I 0)), (0, .ref (q_ad G 0)), (1, .int (q_I g)), (2, .int (q_I n))] (Nat.le_of_ble_eq_true rfl) rfl ?_
                refine q_goto F 5 dX9_byPlace_99 (by decide) ?_
                refine q_drop [3, 4, 5, 1, 0] rfl ?_
                exact ih5_1 _ (by omega) v95 v96 ⟨by omega, by
                      have hst := q_cnt_step (fun q => (q_ins (M 9) (M 0 0) 0 q && decide (0 < M 7 q)) && (decide (q_shn (M 7) (M 8) q < q_shn (M 7) (M 8) g) || (decide (q_shn (M 7) (M 8) q = q_shn (M 7) (M 8) g) && decide (q < g)))) (g := q) (by omega) (by omega)
                      rw [e96, hst, e95, ← hi5.2]
                      have hb : ((q_ins (M 9) (M 0 0) 0 q && decide (0 < M 7 q)) && (decide (q_shn (M 7) (M 8) q < q_shn (M 7) (M 8) g) || (decide (q_shn (M 7) (M 8) q = q_shn (M 7) (M 8) g) && decide (q < g)))) = false := by
                        rw [c65]; rfl
                      rw [if_neg (by rw [hb]; decide)]; omega⟩ rfl
              · refine q_aload_n F dX9_byPlace_68 1 rfl ?_
                refine q_getr (T := TX9) (ref := "LeastHungryModel") F huX9 rfl hm.1 10 (by decide) (by decide +kernel) rfl rfl dX9_byPlace_69 ?_
                refine q_iload F dX9_byPlace_72 5 rfl ?_
                refine q_iald F hm.2.2.2.2.2.2.2.1 (Nat.le_of_ble_eq_true rfl) (by omega) dX9_byPlace_74 (fun h74 => ?_)
                refine q_if_le F 93 dX9_byPlace_75 (by decide) (by omega) (fun c75 => ?_) (fun c75 => ?_)
                · refine q_iconst F dX9_byPlace_93 ?_
                  refine q_iadd F dX9_byPlace_94 ?_
                  refine q_nm (fun v95 e95 => ?_)
                  refine q_istore_n F dX9_byPlace_95 [(3, .int (q_I v95)), (5, .int (q_I 0)), (0, .ref (q_ad G 0)), (1, .int (q_I g)), (2, .int (q_I n)), (4, .int (q_I q))] (Nat.le_of_ble_eq_true rfl) rfl ?_
                  obtain ⟨v96, e96⟩ : ∃ z_ : Int, z_ = q + 1 := ⟨_, rfl⟩
                  refine q_iinc F dX9_byPlace_96 5 rfl e96 [(4, .int (q_I v96)), (3, .int (q_I v95)), (5, .int (q_I 0)), (0, .ref (q_ad G 0)), (1, .int (q_I g)), (2, .int (q_I n))] (Nat.le_of_ble_eq_true rfl) rfl ?_
                  refine q_goto F 5 dX9_byPlace_99 (by decide) ?_
                  refine q_drop [3, 4, 5, 1, 0] rfl ?_
                  exact ih5_1 _ (by omega) v95 v96 ⟨by omega, by
                        have hst := q_cnt_step (fun q => (q_ins (M 9) (M 0 0) 0 q && decide (0 < M 7 q)) && (decide (q_shn (M 7) (M 8) q < q_shn (M 7) (M 8) g) || (decide (q_shn (M 7) (M 8) q = q_shn (M 7) (M 8) g) && decide (q < g)))) (g := q) (by omega) (by omega)
                        rw [e96, hst, e95, ← hi5.2]
                        have hb : ((q_ins (M 9) (M 0 0) 0 q && decide (0 < M 7 q)) && (decide (q_shn (M 7) (M 8) q < q_shn (M 7) (M 8) g) || (decide (q_shn (M 7) (M 8) q = q_shn (M 7) (M 8) g) && decide (q < g)))) = false := by
                          rw [decide_eq_false (show ¬ 0 < M 7 q by omega), Bool.and_false]; rfl
                        rw [if_neg (by rw [hb]; decide)]; omega⟩ rfl
                · refine q_iload F dX9_byPlace_78 5 rfl ?_
                  refine q_iload_n F dX9_byPlace_80 2 rfl ?_
                  refine q_icmp_eq F 93 dX9_byPlace_81 (by decide) (by omega) (fun c81 => ?_) (fun c81 => ?_)
                  · refine q_iconst F dX9_byPlace_93 ?_
                    refine q_iadd F dX9_byPlace_94 ?_
                    refine q_nm (fun v95 e95 => ?_)
                    refine q_istore_n F dX9_byPlace_95 [(3, .int (q_I v95)), (5, .int (q_I 0)), (0, .ref (q_ad G 0)), (1, .int (q_I g)), (2, .int (q_I n)), (4, .int (q_I q))] (Nat.le_of_ble_eq_true rfl) rfl ?_
                    obtain ⟨v96, e96⟩ : ∃ z_ : Int, z_ = q + 1 := ⟨_, rfl⟩
                    refine q_iinc F dX9_byPlace_96 5 rfl e96 [(4, .int (q_I v96)), (3, .int (q_I v95)), (5, .int (q_I 0)), (0, .ref (q_ad G 0)), (1, .int (q_I g)), (2, .int (q_I n))] (Nat.le_of_ble_eq_true rfl) rfl ?_
                    refine q_goto F 5 dX9_byPlace_99 (by decide) ?_
                    refine q_drop [3, 4, 5, 1, 0] rfl ?_
                    exact ih5_1 _ (by omega) v95 v96 ⟨by omega, by
                          have hst := q_cnt_step (fun q => (q_ins (M 9) (M 0 0) 0 q && decide (0 < M 7 q)) && (decide (q_shn (M 7) (M 8) q < q_shn (M 7) (M 8) g) || (decide (q_shn (M 7) (M 8) q = q_shn (M 7) (M 8) g) && decide (q < g)))) (g := q) (by omega) (by omega)
                          rw [e96, hst, e95, ← hi5.2]
                          have hb : ((q_ins (M 9) (M 0 0) 0 q && decide (0 < M 7 q)) && (decide (q_shn (M 7) (M 8) q < q_shn (M 7) (M 8) g) || (decide (q_shn (M 7) (M 8) q = q_shn (M 7) (M 8) g) && decide (q < g)))) = false := by
                            rw [show q = g from c81]
                            rw [decide_eq_false (show ¬ q_shn (M 7) (M 8) g < q_shn (M 7) (M 8) g by omega), decide_eq_false (show ¬ g < g by omega), Bool.and_false, Bool.or_false, Bool.and_false]
                          rw [if_neg (by rw [hb]; decide)]; omega⟩ rfl
                  · refine q_iload F dX9_byPlace_84 0 rfl ?_
                    refine q_if_eq F 93 dX9_byPlace_86 (by decide) (by omega) (fun _ => ?_) (fun c86 => absurd c86 (by decide))
                    refine q_iconst F dX9_byPlace_93 ?_
                    refine q_iadd F dX9_byPlace_94 ?_
                    refine q_nm (fun v95 e95 => ?_)
                    refine q_istore_n F dX9_byPlace_95 [(3, .int (q_I v95)), (5, .int (q_I 0)), (0, .ref (q_ad G 0)), (1, .int (q_I g)), (2, .int (q_I n)), (4, .int (q_I q))] (Nat.le_of_ble_eq_true rfl) rfl ?_
                    obtain ⟨v96, e96⟩ : ∃ z_ : Int, z_ = q + 1 := ⟨_, rfl⟩
                    refine q_iinc F dX9_byPlace_96 5 rfl e96 [(4, .int (q_I v96)), (3, .int (q_I v95)), (5, .int (q_I 0)), (0, .ref (q_ad G 0)), (1, .int (q_I g)), (2, .int (q_I n))] (Nat.le_of_ble_eq_true rfl) rfl ?_
                    refine q_goto F 5 dX9_byPlace_99 (by decide) ?_
                    refine q_drop [3, 4, 5, 1, 0] rfl ?_
                    exact ih5_1 _ (by omega) v95 v96 ⟨by omega, by
                          have hst := q_cnt_step (fun q => (q_ins (M 9) (M 0 0) 0 q && decide (0 < M 7 q)) && (decide (q_shn (M 7) (M 8) q < q_shn (M 7) (M 8) g) || (decide (q_shn (M 7) (M 8) q = q_shn (M 7) (M 8) g) && decide (q < g)))) (g := q) (by omega) (by omega)
                          rw [e96, hst, e95, ← hi5.2]
                          have hb : ((q_ins (M 9) (M 0 0) 0 q && decide (0 < M 7 q)) && (decide (q_shn (M 7) (M 8) q < q_shn (M 7) (M 8) g) || (decide (q_shn (M 7) (M 8) q = q_shn (M 7) (M 8) g) && decide (q < g)))) = false := by
                            rw [decide_eq_false (show ¬ q_shn (M 7) (M 8) q < q_shn (M 7) (M 8) g from t1), decide_eq_false (show ¬ q < g by omega), Bool.and_false, Bool.or_false, Bool.and_false]
                          rw [if_neg (by rw [hb]; decide)]; omega⟩ rfl
            · refine q_iconst F dX9_byPlace_50 ?_
              refine q_goto F 55 dX9_byPlace_51 (by decide) ?_
              refine q_istore F dX9_byPlace_55 [(5, .int (q_I 1)), (0, .ref (q_ad G 0)), (1, .int (q_I g)), (2, .int (q_I n)), (3, .int (q_I a)), (4, .int (q_I q))] (Nat.le_of_ble_eq_true rfl) rfl ?_
              have t1 : ¬ q_shn (M 7) (M 8) q < q_shn (M 7) (M 8) g := by
                have := c25
                rw [tqs, tgs] at this
                omega
              have t2 : q_shn (M 7) (M 8) q = q_shn (M 7) (M 8) g := c41
              refine q_iload_n F dX9_byPlace_57 4 rfl ?_
              refine q_aload_n F dX9_byPlace_58 1 rfl ?_
              refine q_iload F dX9_byPlace_59 5 rfl ?_
              refine q_iconst F dX9_byPlace_61 ?_
              refine q_callVP (n := 2) (T := TX9) F (c_X9_isIn G hI M hm q 0 (by assumption) (by omega) (by omega)) rfl rfl hm.1 gX9_byPlace_X9_isIn rfl ⟨by decide, by decide, by decide +kernel⟩ rfl ⟨rfl, rfl, Nat.le_of_ble_eq_true rfl, Nat.le_of_ble_eq_true rfl⟩ rfl (Nat.le_of_ble_eq_true rfl) dX9_byPlace_62 (fun h62 => ?_)
              refine q_ifb_eq F 93 dX9_byPlace_65 (by decide) (fun c65 => ?_) (fun c65 => ?_)
              · refine q_iconst F dX9_byPlace_93 ?_
                refine q_iadd F dX9_byPlace_94 ?_
                refine q_nm (fun v95 e95 => ?_)
                refine q_istore_n F dX9_byPlace_95 [(3, .int (q_I v95)), (5, .int (q_I 1)), (0, .ref (q_ad G 0)), (1, .int (q_I g)), (2, .int (q_I n)), (4, .int (q_I q))] (Nat.le_of_ble_eq_true rfl) rfl ?_
                obtain ⟨v96, e96⟩ : ∃ z_ : Int, z_ = q + 1 := ⟨_, rfl⟩
                refine q_iinc F dX9_byPlace_96 5 rfl e96 [(4, .int (q_I v96)), (3, .int (q_I v95)), (5, .int (q_I 1)), (0, .ref (q_ad G 0)), (1, .int (q_I g)), (2, .int (q_I n))] (Nat.le_of_ble_eq_true rfl) rfl ?_
                refine q_goto F 5 dX9_byPlace_99 (by decide) ?_
                refine q_drop [3, 4, 5, 1, 0] rfl ?_
                exact ih5_1 _ (by omega) v95 v96 ⟨by omega, by
                      have hst := q_cnt_step (fun q => (q_ins (M 9) (M 0 0) 0 q && decide (0 < M 7 q)) && (decide (q_shn (M 7) (M 8) q < q_shn (M 7) (M 8) g) || (decide (q_shn (M 7) (M 8) q = q_shn (M 7) (M 8) g) && decide (q < g)))) (g := q) (by omega) (by omega)
                      rw [e96, hst, e95, ← hi5.2]
                      have hb : ((q_ins (M 9) (M 0 0) 0 q && decide (0 < M 7 q)) && (decide (q_shn (M 7) (M 8) q < q_shn (M 7) (M 8) g) || (decide (q_shn (M 7) (M 8) q = q_shn (M 7) (M 8) g) && decide (q < g)))) = false := by
                        rw [c65]; rfl
                      rw [if_neg (by rw [hb]; decide)]; omega⟩ rfl
              · refine q_aload_n F dX9_byPlace_68 1 rfl ?_
                refine q_getr (T := TX9) (ref := "LeastHungryModel") F huX9 rfl hm.1 10 (by decide) (by decide +kernel) rfl rfl dX9_byPlace_69 ?_
                refine q_iload F dX9_byPlace_72 5 rfl ?_
                refine q_iald F hm.2.2.2.2.2.2.2.1 (Nat.le_of_ble_eq_true rfl) (by omega) dX9_byPlace_74 (fun h74 => ?_)
                refine q_if_le F 93 dX9_byPlace_75 (by decide) (by omega) (fun c75 => ?_) (fun c75 => ?_)
                · refine q_iconst F dX9_byPlace_93 ?_
                  refine q_iadd F dX9_byPlace_94 ?_
                  refine q_nm (fun v95 e95 => ?_)
                  refine q_istore_n F dX9_byPlace_95 [(3, .int (q_I v95)), (5, .int (q_I 1)), (0, .ref (q_ad G 0)), (1, .int (q_I g)), (2, .int (q_I n)), (4, .int (q_I q))] (Nat.le_of_ble_eq_true rfl) rfl ?_
                  obtain ⟨v96, e96⟩ : ∃ z_ : Int, z_ = q + 1 := ⟨_, rfl⟩
                  refine q_iinc F dX9_byPlace_96 5 rfl e96 [(4, .int (q_I v96)), (3, .int (q_I v95)), (5, .int (q_I 1)), (0, .ref (q_ad G 0)), (1, .int (q_I g)), (2, .int (q_I n))] (Nat.le_of_ble_eq_true rfl) rfl ?_
                  refine q_goto F 5 dX9_byPlace_99 (by decide) ?_
                  refine q_drop [3, 4, 5, 1, 0] rfl ?_
                  exact ih5_1 _ (by omega) v95 v96 ⟨by omega, by
                        have hst := q_cnt_step (fun q => (q_ins (M 9) (M 0 0) 0 q && decide (0 < M 7 q)) && (decide (q_shn (M 7) (M 8) q < q_shn (M 7) (M 8) g) || (decide (q_shn (M 7) (M 8) q = q_shn (M 7) (M 8) g) && decide (q < g)))) (g := q) (by omega) (by omega)
                        rw [e96, hst, e95, ← hi5.2]
                        have hb : ((q_ins (M 9) (M 0 0) 0 q && decide (0 < M 7 q)) && (decide (q_shn (M 7) (M 8) q < q_shn (M 7) (M 8) g) || (decide (q_shn (M 7) (M 8) q = q_shn (M 7) (M 8) g) && decide (q < g)))) = false := by
                          rw [decide_eq_false (show ¬ 0 < M 7 q by omega), Bool.and_false]; rfl
                        rw [if_neg (by rw [hb]; decide)]; omega⟩ rfl
                · refine q_iload F dX9_byPlace_78 5 rfl ?_
                  refine q_iload_n F dX9_byPlace_80 2 rfl ?_
                  refine q_icmp_eq F 93 dX9_byPlace_81 (by decide) (by omega) (fun c81 => ?_) (fun c81 => ?_)
                  · refine q_iconst F dX9_byPlace_93 ?_
                    refine q_iadd F dX9_byPlace_94 ?_
                    refine q_nm (fun v95 e95 => ?_)
                    refine q_istore_n F dX9_byPlace_95 [(3, .int (q_I v95)), (5, .int (q_I 1)), (0, .ref (q_ad G 0)), (1, .int (q_I g)), (2, .int (q_I n)), (4, .int (q_I q))] (Nat.le_of_ble_eq_true rfl) rfl ?_
                    obtain ⟨v96, e96⟩ : ∃ z_ : Int, z_ = q + 1 := ⟨_, rfl⟩
                    refine q_iinc F dX9_byPlace_96 5 rfl e96 [(4, .int (q_I v96)), (3, .int (q_I v95)), (5, .int (q_I 1)), (0, .ref (q_ad G 0)), (1, .int (q_I g)), (2, .int (q_I n))] (Nat.le_of_ble_eq_true rfl) rfl ?_
                    refine q_goto F 5 dX9_byPlace_99 (by decide) ?_
                    refine q_drop [3, 4, 5, 1, 0] rfl ?_
                    exact ih5_1 _ (by omega) v95 v96 ⟨by omega, by
                          have hst := q_cnt_step (fun q => (q_ins (M 9) (M 0 0) 0 q && decide (0 < M 7 q)) && (decide (q_shn (M 7) (M 8) q < q_shn (M 7) (M 8) g) || (decide (q_shn (M 7) (M 8) q = q_shn (M 7) (M 8) g) && decide (q < g)))) (g := q) (by omega) (by omega)
                          rw [e96, hst, e95, ← hi5.2]
                          have hb : ((q_ins (M 9) (M 0 0) 0 q && decide (0 < M 7 q)) && (decide (q_shn (M 7) (M 8) q < q_shn (M 7) (M 8) g) || (decide (q_shn (M 7) (M 8) q = q_shn (M 7) (M 8) g) && decide (q < g)))) = false := by
                            rw [show q = g from c81]
                            rw [decide_eq_false (show ¬ q_shn (M 7) (M 8) g < q_shn (M 7) (M 8) g by omega), decide_eq_false (show ¬ g < g by omega), Bool.and_false, Bool.or_false, Bool.and_false]
                          rw [if_neg (by rw [hb]; decide)]; omega⟩ rfl
                  · refine q_iload F dX9_byPlace_84 0 rfl ?_
                    refine q_if_eq F 93 dX9_byPlace_86 (by decide) (by omega) (fun c86 => absurd c86 (by decide)) (fun _ => ?_)
                    refine q_iconst F dX9_byPlace_89 ?_
                    refine q_goto F 94 dX9_byPlace_90 (by decide) ?_
                    refine q_iadd F dX9_byPlace_94 ?_
                    refine q_nm (fun v95 e95 => ?_)
                    refine q_istore_n F dX9_byPlace_95 [(3, .int (q_I v95)), (5, .int (q_I 1)), (0, .ref (q_ad G 0)), (1, .int (q_I g)), (2, .int (q_I n)), (4, .int (q_I q))] (Nat.le_of_ble_eq_true rfl) rfl ?_
                    obtain ⟨v96, e96⟩ : ∃ z_ : Int, z_ = q + 1 := ⟨_, rfl⟩
                    refine q_iinc F dX9_byPlace_96 5 rfl e96 [(4, .int (q_I v96)), (3, .int (q_I v95)), (5, .int (q_I 1)), (0, .ref (q_ad G 0)), (1, .int (q_I g)), (2, .int (q_I n))] (Nat.le_of_ble_eq_true rfl) rfl ?_
                    refine q_goto F 5 dX9_byPlace_99 (by decide) ?_
                    refine q_drop [3, 4, 5, 1, 0] rfl ?_
                    exact ih5_1 _ (by omega) v95 v96 ⟨by omega, by
                          have hst := q_cnt_step (fun q => (q_ins (M 9) (M 0 0) 0 q && decide (0 < M 7 q)) && (decide (q_shn (M 7) (M 8) q < q_shn (M 7) (M 8) g) || (decide (q_shn (M 7) (M 8) q = q_shn (M 7) (M 8) g) && decide (q < g)))) (g := q) (by omega) (by omega)
                          rw [e96, hst, e95, ← hi5.2]
                          have hb : ((q_ins (M 9) (M 0 0) 0 q && decide (0 < M 7 q)) && (decide (q_shn (M 7) (M 8) q < q_shn (M 7) (M 8) g) || (decide (q_shn (M 7) (M 8) q = q_shn (M 7) (M 8) g) && decide (q < g)))) = true := by
                            rw [c65, decide_eq_true (show 0 < M 7 q by omega)]
                            rw [decide_eq_true (show q_shn (M 7) (M 8) q = q_shn (M 7) (M 8) g from t2), decide_eq_true (show q < g by omega), Bool.and_true, Bool.or_true]; rfl
                          rw [if_pos hb]⟩ rfl
  refine q_drop [2, 3, 4, 1, 0] rfl ?_
  exact lp5_1 _ 0 0 ⟨by omega, (q_cnt_0 _).symm⟩ rfl

set_option maxHeartbeats 4000000 in
set_option maxRecDepth 100000 in
theorem c_X9_portions (G : q_G) (hI : q_inj G) (M : q_M) (hm : q_mo G) (n : Int) (w : Int) (hnR : -2147483648 ≤ n ∧ n ≤ 2147483647) (hwR : -2147483648 ≤ w ∧ w ≤ 2147483647) (hZ : q_Z M) : q_CI G yX9_portions wsX9_portions ({ frames := 3, cells := 0, slots := 0, locals := 68 } : Room) [.ref (q_ad G 0), .int (q_I n), .int (q_I w)] M (fun z M' => z = S_portions (M 1) (M 3) (M 0 0) n w ∧ q_kz M M') := by
  refine q_CI.of hI (by decide) rfl RX9 rfl [(0, .ref (q_ad G 0)), (1, .int (q_I n)), (2, .int (q_I w))] rfl (Nat.le_of_ble_eq_true rfl) (fun E F FI => ?_)
  have huX9 : ∀ w ∈ wsX90, w ∈ wsX9_portions := by decide +kernel
  refine q_MRof (fun hM => ?_)
  obtain ⟨⟨xt, xk⟩, ⟨xh, xf, xa⟩, xF, xs, xp⟩ := id hZ
  have hz := hZ.1
  refine q_iload_n F dX9_portions_0 1 rfl ?_
  refine q_iconst F dX9_portions_1 ?_
  refine q_ldc (n := 999999) F dX9_portions_2 (by decide +kernel) ?_
  refine q_callSP (n := 3) F (c_X9_in G hI M n 0 999999 (by omega)) rfl gX9_portions_X9_in ⟨by decide, by decide, by decide +kernel⟩ rfl ⟨rfl, rfl, Nat.le_of_ble_eq_true rfl, Nat.le_of_ble_eq_true rfl⟩ rfl (Nat.le_of_ble_eq_true rfl) dX9_portions_4 (fun h4 => ?_)
  refine q_ifb_eq F 19 dX9_portions_7 (by decide) (fun c7 => ?_) (fun c7 => ?_)
  · refine q_bipush F dX9_portions_19 (by decide) ?_
    exact q_iret F FI dX9_portions_21 (by omega) ⟨by unfold S_portions; rw [if_neg (fun h => absurd h.1 (q_df c7))], q_kz_rf⟩
  · refine q_iload_n F dX9_portions_10 2 rfl ?_
    refine q_iconst F dX9_portions_11 ?_
    refine q_iconst F dX9_portions_12 ?_
    refine q_callSP (n := 3) F (c_X9_in G hI M w 0 1 (by omega)) rfl gX9_portions_X9_in ⟨by decide, by decide, by decide +kernel⟩ rfl ⟨rfl, rfl, Nat.le_of_ble_eq_true rfl, Nat.le_of_ble_eq_true rfl⟩ rfl (Nat.le_of_ble_eq_true rfl) dX9_portions_13 (fun h13 => ?_)
    refine q_ifb_ne F 22 dX9_portions_16 (by decide) (fun c16 => ?_) (fun c16 => ?_)
    · have d1 := q_dt c7
      have d2 := q_dt c16
      refine q_aload_n F dX9_portions_22 0 rfl ?_
      refine q_callVV (n := 0) (T := TX9) F (c_X9_asNow G hI M hm) rfl rfl hm.1 gX9_portions_X9_asNow rfl ⟨by decide, by decide, by decide +kernel⟩ rfl ⟨rfl, rfl, Nat.le_of_ble_eq_true rfl, Nat.le_of_ble_eq_true rfl⟩ rfl (Nat.le_of_ble_eq_true rfl) dX9_portions_23 (fun N23 p23 => ?_)
      have zv23 := q_an_zv p23 hZ
      have kz23 := q_an_kz p23
      refine q_iconst F dX9_portions_26 ?_
      refine q_istore_n F dX9_portions_27 [(3, .int (q_I 0)), (0, .ref (q_ad G 0)), (1, .int (q_I n)), (2, .int (q_I w))] (Nat.le_of_ble_eq_true rfl) rfl ?_
      have lp28_1 : ∀ (k28_1 : Nat) (g0 : Int) (M1 : q_M), ((0 ≤ g0 ∧ g0 ≤ 6) ∧ (∀ j, j ≠ 8 → M1 j = N23 j) ∧ ∀ x, 0 ≤ x → x < g0 → M1 8 x = 0) → (6 - g0).toNat = k28_1 → q_Y G E 6 M1 [(0, .ref (q_ad G 0)), (1, .int (q_I n)), (2, .int (q_I w)), (3, .int (q_I g0))] 28 [] := by
        intro k28_1
        induction k28_1 using Nat.strongRecOn with
        | _ k28_1 ih28_1 =>
          intro g0  M1 hi28 hk28
          refine q_MRof (fun hM28 => ?_)
          refine q_iload_n F dX9_portions_28 3 rfl ?_
          refine q_bipush F dX9_portions_29 (by decide) ?_
          refine q_icmp_ge F 47 dX9_portions_31 (by decide) (by omega) (fun c31 => ?_) (fun c31 => ?_)
          · have zvM : q_Tv (q_v9 N23) := zv23.2
            have hz8 : ∀ x, 0 ≤ x → x < 6 → M1 8 x = 0 := fun x h0 h1 => hi28.2.2 x h0 (by omega)
            have hres : S_gain (M 1) (M 3) (M 0 0) n = q_first (fun g => q_hun (N23 7) (N23 9) (N23 0 0) 0 g && q_gn (N23 7) (q_set (q_hun (N23 7) (N23 9) (N23 0 0) 0)) n g) 6 0 := by
              rw [q_S_gain_sim (f := M 2) (f' := N23 8) (q_agR_sim (fun x h0 h1 => by have := q_an_ag p23 x h0 h1; exact ⟨this.1.symm, this.2.1.symm, this.2.2.symm⟩)), ← kz23.2.1]
              rfl
            refine q_iconst F dX9_portions_47 ?_
            refine q_istore_n F dX9_portions_48 [(3, .int (q_I 0)), (0, .ref (q_ad G 0)), (1, .int (q_I n)), (2, .int (q_I w))] (Nat.le_of_ble_eq_true rfl) rfl ?_
            have lp49_2 : ∀ (k49_2 : Nat) (g : Int) (M2 : q_M), ((0 ≤ g ∧ g ≤ 6) ∧ (∀ j, j ≠ 8 → M2 j = N23 j) ∧ (∀ x, 0 ≤ x → x < 6 → M2 8 x = 0) ∧ q_first (fun g => q_hun (N23 7) (N23 9) (N23 0 0) 0 g && q_gn (N23 7) (q_set (q_hun (N23 7) (N23 9) (N23 0 0) 0)) n g) 6 0 = q_first (fun g => q_hun (N23 7) (N23 9) (N23 0 0) 0 g && q_gn (N23 7) (q_set (q_hun (N23 7) (N23 9) (N23 0 0) 0)) n g) (6 - g).toNat g) → (6 - g).toNat = k49_2 → q_Y G E 6 M2 [(0, .ref (q_ad G 0)), (1, .int (q_I n)), (2, .int (q_I w)), (3, .int (q_I g))] 49 [] := by
              intro k49_2
              induction k49_2 using Nat.strongRecOn with
              | _ k49_2 ih49_2 =>
                intro g  M2 hi49 hk49
                refine q_MRof (fun hM49 => ?_)
                obtain ⟨k1, k2, k2b, k3⟩ := id hi49
                have k27 : M2 7 = N23 7 := k2 7 (by omega)
                have k29 : M2 9 = N23 9 := k2 9 (by omega)
                have k20 : M2 0 0 = N23 0 0 := by rw [k2 0 (by omega)]
                have zvk : q_zv M2 := by
                  refine ⟨?_, ?_, fun x h0 h1 => ?_, ?_⟩
                  · unfold q_z0
                    rw [k2 0 (by omega)]
                    exact zv23.1
                  · rw [k27]; exact zv23.2.1
                  · rw [k2b x h0 h1]; omega
                  · rw [k29]; exact zv23.2.2.2
                have hMg : q_MR M2 := by assumption
                refine q_iload_n F dX9_portions_49 3 rfl ?_
                refine q_bipush F dX9_portions_50 (by decide) ?_
                refine q_icmp_ge F 139 dX9_portions_52 (by decide) (by omega) (fun c52 => ?_) (fun c52 => ?_)
                · refine q_iload_n F dX9_portions_139 2 rfl ?_
                  refine q_if_ne F 147 dX9_portions_140 (by decide) (by omega) (fun c140 => ?_) (fun c140 => ?_)
                  · refine q_bipush F dX9_portions_147 (by decide) ?_
                    exact q_iret F FI dX9_portions_149 (by omega) ⟨by
                          have hgain : S_gain (M 1) (M 3) (M 0 0) n = -6 := by
                            rw [hres, k3, show (6 - g).toNat = 0 by omega]
                            rfl
                          unfold S_portions
                          rw [if_pos ⟨d1, d2⟩, hgain, if_pos (by omega)], q_kz_tr kz23 (q_kz_fr (k := 8) k2 (by omega))⟩
                  · refine q_iconst F dX9_portions_143 ?_
                    refine q_goto F 149 dX9_portions_144 (by decide) ?_
                    exact q_iret F FI dX9_portions_149 (by omega) ⟨by
                          have hgain : S_gain (M 1) (M 3) (M 0 0) n = -6 := by
                            rw [hres, k3, show (6 - g).toNat = 0 by omega]
                            rfl
                          unfold S_portions
                          rw [if_pos ⟨d1, d2⟩, hgain, if_neg (by omega), if_pos rfl], q_kz_tr kz23 (q_kz_fr (k := 8) k2 (by omega))⟩
                · refine q_aload_n F dX9_portions_55 0 rfl ?_
                  refine q_iload_n F dX9_portions_56 3 rfl ?_
                  refine q_iconst F dX9_portions_57 ?_
                  refine q_callVP (n := 2) (T := TX9) F (c_X9_isIn G hI M2 hm g 0 zvk (by omega) (by omega)) rfl rfl hm.1 gX9_portions_X9_isIn rfl ⟨by decide, by decide, by decide +kernel⟩ rfl ⟨rfl, rfl, Nat.le_of_ble_eq_true rfl, Nat.le_of_ble_eq_true rfl⟩ rfl (Nat.le_of_ble_eq_true rfl) dX9_portions_58 (fun h58 => ?_)
                  refine q_ifb_eq F 133 dX9_portions_61 (by decide) (fun c61 => ?_) (fun c61 => ?_)
                  · obtain ⟨v133, e133⟩ : ∃ z_ : Int, z_ = g + 1 := ⟨_, rfl⟩
                    refine q_iinc F dX9_portions_133 3 rfl e133 [(3, .int (q_I v133)), (0, .ref (q_ad G 0)), (1, .int (q_I n)), (2, .int (q_I w))] (Nat.le_of_ble_eq_true rfl) rfl ?_
                    refine q_goto F 49 dX9_portions_136 (by decide) ?_
                    refine q_drop [1, 2, 3, 0] rfl ?_
                    exact ih49_2 _ (by omega) v133 M2 ⟨by omega, k2, k2b, by rw [k3, show (6 - g).toNat = (6 - (g + 1)).toNat + 1 by omega, q_first_u, e133, if_neg (by rw [show q_hun (N23 7) (N23 9) (N23 0 0) 0 g = false from by unfold q_hun; rw [← k29, ← k20, c61]; rfl]; simp)]⟩ rfl
                  · refine q_aload_n F dX9_portions_64 0 rfl ?_
                    refine q_getr (T := TX9) (ref := "LeastHungryModel") F huX9 rfl hm.1 10 (by decide) (by decide +kernel) rfl rfl dX9_portions_65 ?_
                    refine q_iload_n F dX9_portions_68 3 rfl ?_
                    refine q_iald F hm.2.2.2.2.2.2.2.1 (Nat.le_of_ble_eq_true rfl) (by omega) dX9_portions_69 (fun h69 => ?_)
                    refine q_if_le F 133 dX9_portions_70 (by decide) (by omega) (fun c70 => ?_) (fun c70 => ?_)
                    · obtain ⟨v133, e133⟩ : ∃ z_ : Int, z_ = g + 1 := ⟨_, rfl⟩
                      refine q_iinc F dX9_portions_133 3 rfl e133 [(3, .int (q_I v133)), (0, .ref (q_ad G 0)), (1, .int (q_I n)), (2, .int (q_I w))] (Nat.le_of_ble_eq_true rfl) rfl ?_
                      refine q_goto F 49 dX9_portions_136 (by decide) ?_
                      refine q_drop [1, 2, 3, 0] rfl ?_
                      exact ih49_2 _ (by omega) v133 M2 ⟨by omega, k2, k2b, by rw [k3, show (6 - g).toNat = (6 - (g + 1)).toNat + 1 by omega, q_first_u, e133, if_neg (by rw [show q_hun (N23 7) (N23 9) (N23 0 0) 0 g = false from by unfold q_hun; rw [decide_eq_false (show ¬ 0 < N23 7 g by rw [← k27]; omega), Bool.and_false]]; simp)]⟩ rfl
                    · have hgi : 0 ≤ g ∧ g < 6 := ⟨k1.1, c52⟩
                      have hG : q_hun (N23 7) (N23 9) (N23 0 0) 0 g = true := by
                        unfold q_hun
                        rw [← k29, ← k20, c61, decide_eq_true (show 0 < N23 7 g by rw [← k27]; omega)]
                        rfl
                      refine q_aload_n F dX9_portions_73 0 rfl ?_
                      refine q_iload_n F dX9_portions_74 3 rfl ?_
                      refine q_iload_n F dX9_portions_75 1 rfl ?_
                      refine q_callVP (n := 2) (T := TX9) F (c_X9_byPlace G hI M2 hm g n zvk ⟨hgi, d1⟩) rfl rfl hm.1 gX9_portions_X9_byPlace rfl ⟨by decide, by decide, by decide +kernel⟩ rfl ⟨rfl, rfl, Nat.le_of_ble_eq_true rfl, Nat.le_of_ble_eq_true rfl⟩ rfl (Nat.le_of_ble_eq_true rfl) dX9_portions_76 (fun h76 => ?_)
                      refine q_nm (fun v79 e79 => ?_)
                      refine q_istore F dX9_portions_79 [(4, .int (q_I v79)), (0, .ref (q_ad G 0)), (1, .int (q_I n)), (2, .int (q_I w)), (3, .int (q_I g))] (Nat.le_of_ble_eq_true rfl) rfl ?_
                      have hown : v79 = q_dgt n (q_place (N23 7) (q_set (q_hun (N23 7) (N23 9) (N23 0 0) 0)) g) := by
                        rw [e79, k27, k29, k20]
                        rw [q_gain9 (v := 0) hG zv23.2.1 (fun x h0 h1 _ => k2b x h0 h1) (k2b g hgi.1 hgi.2)]
                        have : q_row (N23 7) g (max 0 (N23 7 g - 0)) = N23 7 := by
                          funext x
                          unfold q_row
                          by_cases hx : x = g
                          · rw [if_pos hx, hx]
                            have := (zv23.2.1 g hgi.1 hgi.2).1
                            omega
                          · rw [if_neg hx]
                        rw [this]
                      have hownR := q_dgt_R (num := n) (pl := (q_place (N23 7) (q_set (q_hun (N23 7) (N23 9) (N23 0 0) 0)) g))
                      rw [← hown] at hownR
                      refine q_iconst F dX9_portions_81 ?_
                      refine q_istore F dX9_portions_82 [(5, .int (q_I 1)), (4, .int (q_I v79)), (0, .ref (q_ad G 0)), (1, .int (q_I n)), (2, .int (q_I w)), (3, .int (q_I g))] (Nat.le_of_ble_eq_true rfl) rfl ?_
                      have lp84_3 : ∀ (k84_3 : Nat) (f : Int) (M3 : q_M), ((1 ≤ f ∧ f ≤ 10) ∧ (∀ j, j ≠ 8 → M3 j = N23 j) ∧ (∀ x, 0 ≤ x → x < 6 → ¬ x = g → M3 8 x = 0) ∧ (∀ x, 1 ≤ x → x < f → q_dgt n (q_place (q_row (N23 7) g (max 0 (N23 7 g - x))) (q_set (q_hun (N23 7) (N23 9) (N23 0 0) 0)) g) ≤ q_dgt n (q_place (N23 7) (q_set (q_hun (N23 7) (N23 9) (N23 0 0) 0)) g))) → (10 - f).toNat = k84_3 → q_Y G E 6 M3 [(0, .ref (q_ad G 0)), (1, .int (q_I n)), (2, .int (q_I w)), (3, .int (q_I g)), (4, .int (q_I v79)), (5, .int (q_I f))] 84 [] := by
                        intro k84_3
                        induction k84_3 using Nat.strongRecOn with
                        | _ k84_3 ih84_3 =>
                          intro f  M3 hi84 hk84
                          refine q_MRof (fun hM84 => ?_)
                          refine q_iload F dX9_portions_84 5 rfl ?_
                          refine q_bipush F dX9_portions_86 (by decide) ?_
                          refine q_icmp_ge F 126 dX9_portions_88 (by decide) (by omega) (fun c88 => ?_) (fun c88 => ?_)
                          · refine q_aload_n F dX9_portions_126 0 rfl ?_
                            refine q_getr (T := TX9) (ref := "LeastHungryModel") F huX9 rfl hm.1 11 (by decide) (by decide +kernel) rfl rfl dX9_portions_127 ?_
                            refine q_iload_n F dX9_portions_130 3 rfl ?_
                            refine q_iconst F dX9_portions_131 ?_
                            refine q_iast F hm.2.2.2.2.2.2.2.2.1 (Nat.le_of_ble_eq_true rfl) (by omega) (by omega) dX9_portions_132 (fun N132 eN132 => ?_)
                            obtain ⟨v133, e133⟩ : ∃ z_ : Int, z_ = g + 1 := ⟨_, rfl⟩
                            refine q_iinc F dX9_portions_133 3 rfl e133 [(3, .int (q_I v133)), (0, .ref (q_ad G 0)), (1, .int (q_I n)), (2, .int (q_I w)), (4, .int (q_I v79)), (5, .int (q_I f))] (Nat.le_of_ble_eq_true rfl) rfl ?_
                            refine q_goto F 49 dX9_portions_136 (by decide) ?_
                            refine q_drop [1, 2, 3, 0] rfl ?_
                            exact ih49_2 _ (by omega) v133 N132 ⟨by omega, fun j hj => by rw [eN132, q_up_ne hj]; exact hi84.2.1 j hj, fun x h0 h1 => by
                                  rw [eN132, q_up_at]
                                  by_cases hx : x = g
                                  · rw [if_pos hx]
                                  · rw [if_neg hx]; exact hi84.2.2.1 x h0 h1 hx, by
                                  rw [k3, show (6 - g).toNat = (6 - (g + 1)).toNat + 1 by omega, q_first_u, e133, if_neg (by
                                    have hq : q_gn (N23 7) (q_set (q_hun (N23 7) (N23 9) (N23 0 0) 0)) n g = false := q_anyN_f 9 (fun x h0 h1 => by
                                      unfold q_gnP
                                      rw [decide_eq_false]
                                      have := hi84.2.2.2 x h0 (by omega)
                                      omega)
                                    rw [hq]
                                    simp)]⟩ rfl
                          · refine q_aload_n F dX9_portions_91 0 rfl ?_
                            refine q_getr (T := TX9) (ref := "LeastHungryModel") F huX9 rfl hm.1 11 (by decide) (by decide +kernel) rfl rfl dX9_portions_92 ?_
                            refine q_iload_n F dX9_portions_95 3 rfl ?_
                            refine q_iload F dX9_portions_96 5 rfl ?_
                            refine q_iast F hm.2.2.2.2.2.2.2.2.1 (Nat.le_of_ble_eq_true rfl) (by omega) (by omega) dX9_portions_98 (fun N98 eN98 => ?_)
                            have n98 : ∀ j, j ≠ 8 → N98 j = N23 j := fun j hj => by rw [eN98, q_up_ne hj]; exact hi84.2.1 j hj
                            have e98 : ∀ x, 0 ≤ x → x < 6 → ¬ x = g → N98 8 x = 0 := fun x h0 h1 hx => by rw [eN98, q_up_at, if_neg hx]; exact hi84.2.2.1 x h0 h1 hx
                            have g98 : N98 8 g = f := by rw [eN98, q_up_at, if_pos rfl]
                            have zv98 : q_zv N98 := by
                              refine ⟨?_, ?_, fun x h0 h1 => ?_, ?_⟩
                              · unfold q_z0
                                rw [n98 0 (by omega)]
                                exact zv23.1
                              · rw [n98 7 (by omega)]; exact zv23.2.1
                              · by_cases hx : x = g
                                · rw [hx, g98]; omega
                                · rw [e98 x h0 h1 hx]; omega
                              · rw [n98 9 (by omega)]; exact zv23.2.2.2
                            refine q_aload_n F dX9_portions_99 0 rfl ?_
                            refine q_iload_n F dX9_portions_100 3 rfl ?_
                            refine q_iload_n F dX9_portions_101 1 rfl ?_
                            refine q_callVP (n := 2) (T := TX9) F (c_X9_byPlace G hI N98 hm g n zv98 ⟨hgi, d1⟩) rfl rfl hm.1 gX9_portions_X9_byPlace rfl ⟨by decide, by decide, by decide +kernel⟩ rfl ⟨rfl, rfl, Nat.le_of_ble_eq_true rfl, Nat.le_of_ble_eq_true rfl⟩ rfl (Nat.le_of_ble_eq_true rfl) dX9_portions_102 (fun h102 => ?_)
                            have hby : q_dgt n (q_bp (N98 7) (N98 8) (N98 9) (N98 0 0) g) = q_dgt n (q_place (q_row (N23 7) g (max 0 (N23 7 g - f))) (q_set (q_hun (N23 7) (N23 9) (N23 0 0) 0)) g) := by
                              rw [n98 7 (by omega), n98 9 (by omega), n98 0 (by omega), q_gain9 (v := f) hG zv23.2.1 e98 g98]
                            refine q_iload F dX9_portions_105 4 rfl ?_
                            refine q_icmp_le F 120 dX9_portions_107 (by decide) (by omega) (fun c107 => ?_) (fun c107 => ?_)
                            · obtain ⟨v120, e120⟩ : ∃ z_ : Int, z_ = f + 1 := ⟨_, rfl⟩
                              refine q_iinc F dX9_portions_120 5 rfl e120 [(5, .int (q_I v120)), (0, .ref (q_ad G 0)), (1, .int (q_I n)), (2, .int (q_I w)), (3, .int (q_I g)), (4, .int (q_I v79))] (Nat.le_of_ble_eq_true rfl) rfl ?_
                              refine q_goto F 84 dX9_portions_123 (by decide) ?_
                              refine q_drop [1, 2, 3, 4, 5, 0] rfl ?_
                              exact ih84_3 _ (by omega) v120 N98 ⟨by omega, n98, e98, fun x h0 h1 => by
                                    by_cases hx : x = f
                                    · rw [hx, ← hby, ← hown]; omega
                                    · exact hi84.2.2.2 x h0 (by omega)⟩ rfl
                            · refine q_iload_n F dX9_portions_110 2 rfl ?_
                              refine q_if_ne F 118 dX9_portions_111 (by decide) (by omega) (fun c111 => ?_) (fun c111 => ?_)
                              · refine q_iload_n F dX9_portions_118 3 rfl ?_
                                exact q_iret F FI dX9_portions_119 (by omega) ⟨by
                                      have hgain : S_gain (M 1) (M 3) (M 0 0) n = g := by
                                        rw [hres, k3, show (6 - g).toNat = (6 - g - 1).toNat + 1 by omega, q_first_u, if_pos]
                                        show (q_hun (N23 7) (N23 9) (N23 0 0) 0 g && q_gn (N23 7) (q_set (q_hun (N23 7) (N23 9) (N23 0 0) 0)) n g) = true
                                        rw [hG, Bool.true_and]
                                        refine q_anyN_t 9 (x := f) (by omega) (by omega) ?_
                                        unfold q_gnP
                                        exact decide_eq_true (by rw [← hby, ← hown]; omega)
                                      unfold S_portions
                                      rw [if_pos ⟨d1, d2⟩, hgain, if_pos (by omega)], q_kz_tr kz23 (q_kz_fr (k := 8) n98 (by omega))⟩
                              · refine q_iconst F dX9_portions_114 ?_
                                refine q_goto F 119 dX9_portions_115 (by decide) ?_
                                exact q_iret F FI dX9_portions_119 (by omega) ⟨by
                                      have hgain : S_gain (M 1) (M 3) (M 0 0) n = g := by
                                        rw [hres, k3, show (6 - g).toNat = (6 - g - 1).toNat + 1 by omega, q_first_u, if_pos]
                                        show (q_hun (N23 7) (N23 9) (N23 0 0) 0 g && q_gn (N23 7) (q_set (q_hun (N23 7) (N23 9) (N23 0 0) 0)) n g) = true
                                        rw [hG, Bool.true_and]
                                        refine q_anyN_t 9 (x := f) (by omega) (by omega) ?_
                                        unfold q_gnP
                                        exact decide_eq_true (by rw [← hby, ← hown]; omega)
                                      unfold S_portions
                                      rw [if_pos ⟨d1, d2⟩, hgain, if_neg (by omega), if_neg (by omega)], q_kz_tr kz23 (q_kz_fr (k := 8) n98 (by omega))⟩
                      refine q_drop [2, 3, 4, 5, 1, 0] rfl ?_
                      exact lp84_3 _ 1 M2 ⟨by omega, k2, fun x h0 h1 _ => k2b x h0 h1, fun x h0 h1 => by omega⟩ rfl
            refine q_drop [1, 2, 3, 0] rfl ?_
            exact lp49_2 _ 0 M1 ⟨by omega, hi28.2.1, hz8, rfl⟩ rfl
          · refine q_aload_n F dX9_portions_34 0 rfl ?_
            refine q_getr (T := TX9) (ref := "LeastHungryModel") F huX9 rfl hm.1 11 (by decide) (by decide +kernel) rfl rfl dX9_portions_35 ?_
            refine q_iload_n F dX9_portions_38 3 rfl ?_
            refine q_iconst F dX9_portions_39 ?_
            refine q_iast F hm.2.2.2.2.2.2.2.2.1 (Nat.le_of_ble_eq_true rfl) (by omega) (by omega) dX9_portions_40 (fun N40 eN40 => ?_)
            obtain ⟨v41, e41⟩ : ∃ z_ : Int, z_ = g0 + 1 := ⟨_, rfl⟩
            refine q_iinc F dX9_portions_41 3 rfl e41 [(3, .int (q_I v41)), (0, .ref (q_ad G 0)), (1, .int (q_I n)), (2, .int (q_I w))] (Nat.le_of_ble_eq_true rfl) rfl ?_
            refine q_goto F 28 dX9_portions_44 (by decide) ?_
            refine q_drop [1, 2, 3, 0] rfl ?_
            exact ih28_1 _ (by omega) v41 N40 ⟨by omega, fun j hj => by rw [eN40, q_up_ne hj]; exact hi28.2.1 j hj, fun x h0 h1 => by rw [eN40, q_up_at]; split; rfl; exact hi28.2.2 x h0 (by omega)⟩ rfl
      refine q_drop [1, 2, 3, 0] rfl ?_
      exact lp28_1 _ 0 N23 ⟨by omega, fun _ _ => rfl, fun x h0 h1 => by omega⟩ rfl
    · refine q_bipush F dX9_portions_19 (by decide) ?_
      exact q_iret F FI dX9_portions_21 (by omega) ⟨by unfold S_portions; rw [if_neg (fun h => absurd h.2 (q_df c16))], q_kz_rf⟩
