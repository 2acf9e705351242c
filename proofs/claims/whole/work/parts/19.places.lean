/-! places: rules, portions, belches -/
def q_dgt (num pl : Int) : Int := num / q_pw 10 (5 - pl).toNat % 10
def q_rum (h : Int → Int) (ru : Int) : Int → Int := fun x => if ru = 1 then 0 else - h x
def q_ru (h f a : Int → Int) (th ke ru pl p x : Int) : Bool := if ru = 0 then q_tk h f a th ke pl p x else q_hun h a th pl x && decide (q_rk (q_rum h ru) (q_hun h a th pl) x < p)
theorem q_place_congr {m m' : Int → Int} {S g : Int} (h : ∀ x, 0 ≤ x → x < 6 → m x = m' x) (g0 : 0 ≤ g) (g1 : g < 6) : q_place m S g = q_place m' S g := q_rk_congr h (fun _ _ _ => rfl) g0 g1
theorem q_place_R (m : Int → Int) (S g : Int) : 0 ≤ q_place m S g ∧ q_place m S g ≤ 6 := q_cnt_R _
def q_anyN (P : Int → Bool) : Nat → Bool
  | 0 => false
  | n + 1 => q_anyN P n || P (n + 1)
theorem q_anyN_s (P : Int → Bool) (n : Nat) : q_anyN P (n + 1) = (q_anyN P n || P (n + 1)) := rfl
theorem q_anyN_congr {P Q : Int → Bool} : ∀ n : Nat, (∀ x : Int, 1 ≤ x → x ≤ n → P x = Q x) → q_anyN P n = q_anyN Q n
  | 0, _ => rfl
  | n + 1, h => by
    rw [q_anyN_s, q_anyN_s, q_anyN_congr n (fun x h0 h1 => h x h0 (by omega)), h (n + 1) (by omega) (by omega)]
def q_gnP (m : Int → Int) (S num g v : Int) : Bool := decide (q_dgt num (q_place m S g) < q_dgt num (q_place (q_row m g (max 0 (m g - v))) S g))
def q_gn (m : Int → Int) (S num g : Int) : Bool := q_anyN (q_gnP m S num g) 9
theorem q_gn_congr {m m' : Int → Int} {S num g : Int} (h : ∀ x, 0 ≤ x → x < 6 → m x = m' x) (g0 : 0 ≤ g) (g1 : g < 6) : q_gn m S num g = q_gn m' S num g := by
  unfold q_gn
  refine q_anyN_congr 9 (fun v _ _ => ?_)
  unfold q_gnP
  rw [h g g0 g1, q_place_congr h g0 g1, q_place_congr (m := q_row m g _) (m' := q_row m' g (max 0 (m' g - v))) (fun x x0 x1 => q_row_eq (h x x0 x1)) g0 g1]
theorem q_or_b (x y : Bool) : q_or (q_b x) (q_b y) = q_b (x || y) := by cases x <;> cases y <;> decide
theorem q_dgt_R {num pl : Int} : 0 ≤ q_dgt num pl ∧ q_dgt num pl ≤ 9 := by
  unfold q_dgt
  omega
theorem q_pw10_add (a : Nat) : ∀ b : Nat, q_pw 10 a * q_pw 10 b = q_pw 10 (a + b)
  | 0 => by simp [q_pw]
  | b + 1 => by
    show q_pw 10 a * (q_pw 10 b * 10) = q_pw 10 (a + b) * 10
    rw [← q_pw10_add a b, Int.mul_assoc]
theorem q_cnt_dis {P Q : Int → Bool} (h : ∀ x, P x = true → Q x = false) : q_cnt P + q_cnt Q ≤ 6 := by
  have e : ∀ x, q_b (P x) + q_b (Q x) ≤ 1 := fun x => by
    cases hp : P x
    · have := q_bB (Q x)
      simp only [q_b] at this ⊢
      simp
      omega
    · rw [h x hp]
      simp [q_b]
  simp only [q_cnt, q_s6]
  have h0 := e 0
  have h1 := e 1
  have h2 := e 2
  have h3 := e 3
  have h4 := e 4
  have h5 := e 5
  omega
def q_wgt (fei c t : Int) : Int := q_pw t (q_cnt (q_has c)).toNat * q_pw (10 - t) (q_cnt (q_has (q_and fei (q_xor c (-1))))).toNat
theorem q_wgt_R {fei c t : Int} (hf : 0 ≤ fei ∧ fei ≤ 63) (hc : 0 ≤ c ∧ c ≤ 63) (ht : 0 ≤ t ∧ t ≤ 10) : 0 ≤ q_wgt fei c t ∧ q_wgt fei c t ≤ 1000000 := by
  have hA := q_cnt_R (q_has c)
  have hB := q_cnt_R (q_has (q_and fei (q_xor c (-1))))
  have hd : q_cnt (q_has c) + q_cnt (q_has (q_and fei (q_xor c (-1)))) ≤ 6 := q_cnt_dis (fun x hx => by
    rw [q_andn hf.1 hf.2 hc.1 hc.2]
    have hi := q_has_in hx
    rw [q_has_set hi.1 hi.2, hx]
    simp)
  unfold q_wgt
  have a1 := q_pw_R0 (b := t) (by omega) (q_cnt (q_has c)).toNat
  have a2 := q_pw_R0 (b := 10 - t) (by omega) (q_cnt (q_has (q_and fei (q_xor c (-1))))).toNat
  refine ⟨Int.mul_nonneg a1.1 a2.1, ?_⟩
  have h1 := Int.mul_le_mul a1.2 a2.2 a2.1 (Int.le_trans a1.1 a1.2)
  rw [q_pw10_add] at h1
  have h2 := q_pw_R (b := 10) (by omega) ((q_cnt (q_has c)).toNat + (q_cnt (q_has (q_and fei (q_xor c (-1))))).toNat) (by omega)
  omega
def q_shA (h f : Int → Int) (c x : Int) : Int := if q_has c x = true then h x else q_shn h f x
def q_chT (h f : Int → Int) (fei hun g p t c : Int) : Int := if q_and c (q_xor fei (-1)) = 0 then (if q_place (q_shA h f c) hun g < p then q_wgt fei c t else 0) else 0
def q_smN (F : Int → Int) : Nat → Int
  | 0 => 0
  | n + 1 => q_smN F n + F n
theorem q_smN_s (F : Int → Int) (n : Nat) : q_smN F (n + 1) = q_smN F n + F n := rfl
theorem q_smN_congr {F F' : Int → Int} : ∀ n : Nat, (∀ r : Int, 0 ≤ r → r < n → F r = F' r) → q_smN F n = q_smN F' n
  | 0, _ => rfl
  | n + 1, h => by
    rw [q_smN_s, q_smN_s, q_smN_congr n (fun r h0 h1 => h r h0 (by omega)), h n (by omega) (by omega)]
theorem q_smN_R {F : Int → Int} {K : Int} : ∀ n : Nat, (∀ r : Int, 0 ≤ r → r < n → 0 ≤ F r ∧ F r ≤ K) → 0 ≤ q_smN F n ∧ q_smN F n ≤ n * K
  | 0, _ => by simp [q_smN]
  | n + 1, h => by
    have h1 := q_smN_R n (fun r h0 h1 => h r h0 (by omega))
    have h2 := h n (by omega) (by omega)
    rw [q_smN_s]
    have e : ((n + 1 : Nat) : Int) * K = n * K + K := by rw [Int.natCast_add, Int.add_mul]; simp
    omega
def q_ch (h f a : Int → Int) (th pl g p t : Int) : Int := if q_hun h a th pl g = true then q_smN (q_chT h f (q_set (fun x => q_ins a th pl x && decide (0 < f x))) (q_set (q_hun h a th pl)) g p t) 64 else 0
theorem q_chT_R {h f : Int → Int} {fei hun g p t c : Int} (hf : 0 ≤ fei ∧ fei ≤ 63) (hc : 0 ≤ c ∧ c ≤ 63) (ht : 0 ≤ t ∧ t ≤ 10) : 0 ≤ q_chT h f fei hun g p t c ∧ q_chT h f fei hun g p t c ≤ 1000000 := by
  have := q_wgt_R hf hc ht
  unfold q_chT
  split
  · split <;> omega
  · omega
/-- lowest terms by twos and fives -/
def q_l2 (d : Int) (y : Int × Int) : Int × Int := if y.1 % d = 0 ∧ y.2 % d = 0 then (y.1 / d, y.2 / d) else y
def q_lo : Nat → Int × Int → Int × Int
  | 0, y => y
  | n + 1, y => q_l2 5 (q_l2 2 (q_lo n y))
set_option maxHeartbeats 4000000 in
set_option maxRecDepth 100000 in
theorem c_X4_digitAt (G : q_G) (hI : q_inj G) (M : q_M) (n : Int) (pl : Int) (hn : (0 ≤ n ∧ n ≤ 999999) ∧ (0 ≤ pl ∧ pl ≤ 6)) : q_CI G yX4_digitAt wsX4_digitAt ({ frames := 0, cells := 0, slots := 0, locals := 0 } : Room) [.int (q_I n), .int (q_I pl)] M (fun z M' => z = q_dgt n pl ∧ M' = M) := by
  refine q_CI.of hI (by decide) rfl RX4 rfl [(0, .int (q_I n)), (1, .int (q_I pl))] rfl (Nat.le_of_ble_eq_true rfl) (fun E F FI => ?_)
  refine q_MRof (fun hM => ?_)
  refine q_iload_n F dX4_digitAt_0 0 rfl ?_
  refine q_istore_n F dX4_digitAt_1 [(2, .int (q_I n)), (0, .int (q_I n)), (1, .int (q_I pl))] (Nat.le_of_ble_eq_true rfl) rfl ?_
  refine q_iload_n F dX4_digitAt_2 2 rfl ?_
  refine q_iconst F dX4_digitAt_3 ?_
  refine q_iadd F dX4_digitAt_4 ?_
  refine q_nm (fun v5 e5 => ?_)
  refine q_istore_n F dX4_digitAt_5 [(3, .int (q_I v5)), (2, .int (q_I n)), (0, .int (q_I n)), (1, .int (q_I pl))] (Nat.le_of_ble_eq_true rfl) rfl ?_
  have lp6_1 : ∀ (k6_1 : Nat) (r : Int) (i : Int), ((pl + 1 ≤ i ∧ (i ≤ 6 ∨ i = 7 ∧ pl = 6)) ∧ r = n / q_pw 10 (i - (pl + 1)).toNat) → (7 - i).toNat = k6_1 → q_Y G E 4 M [(2, .int (q_I r)), (3, .int (q_I i))] 6 [] := by
    intro k6_1
    induction k6_1 using Nat.strongRecOn with
    | _ k6_1 ih6_1 =>
      intro r i   hi6 hk6
      have hr := q_div_R (b := 10) hn.1.1 (by omega) (i - (pl + 1)).toNat
      rw [← hi6.2] at hr
      refine q_iload_n F dX4_digitAt_6 1 rfl ?_
      refine q_bipush F dX4_digitAt_7 (by decide) ?_
      refine q_icmp_ge F 23 dX4_digitAt_9 (by decide) (by omega) (fun c9 => ?_) (fun c9 => ?_)
      · refine q_iload_n F dX4_digitAt_23 0 rfl ?_
        refine q_bipush F dX4_digitAt_24 (by decide) ?_
        refine q_irem F dX4_digitAt_26 (by omega) ?_
        exact q_iret F FI dX4_digitAt_27 (by omega) ⟨by unfold q_dgt; rw [hi6.2, show (5 - pl).toNat = (i - (pl + 1)).toNat by omega], rfl⟩
      · refine q_iload_n F dX4_digitAt_12 0 rfl ?_
        refine q_bipush F dX4_digitAt_13 (by decide) ?_
        refine q_idiv F dX4_digitAt_15 (by omega) ?_
        refine q_nm (fun v16 e16 => ?_)
        refine q_istore_n F dX4_digitAt_16 [(2, .int (q_I v16)), (3, .int (q_I i))] (Nat.le_of_ble_eq_true rfl) rfl ?_
        obtain ⟨v17, e17⟩ : ∃ z_ : Int, z_ = i + 1 := ⟨_, rfl⟩
        refine q_iinc F dX4_digitAt_17 1 rfl e17 [(3, .int (q_I v17)), (2, .int (q_I v16))] (Nat.le_of_ble_eq_true rfl) rfl ?_
        refine q_goto F 6 dX4_digitAt_20 (by decide) ?_
        refine q_drop [1, 0] rfl ?_
        exact ih6_1 _ (by omega) v16 v17 ⟨by omega, by rw [e17, e16, hi6.2, q_pw_div (by omega), show (i - (pl + 1)).toNat + 1 = (i + 1 - (pl + 1)).toNat by omega]⟩ rfl
  refine q_drop [1, 0] rfl ?_
  exact lp6_1 _ n v5 ⟨by omega, by rw [show (v5 - (pl + 1)).toNat = 0 by omega]; simp [q_pw]⟩ rfl

set_option maxHeartbeats 4000000 in
set_option maxRecDepth 100000 in
theorem c_X4_servedByRule (G : q_G) (hI : q_inj G) (M : q_M) (q : Nat) (hq : q_pl G q) (o : Nat) (ho : q_co G o) (a : Int) (p : Int) (ru : Int) (hvo : q_cv M o) (hd : o + 4 < q) (hp : (0 ≤ a ∧ a ≤ 2) ∧ (1 ≤ p ∧ p ≤ 9) ∧ (0 ≤ ru ∧ ru ≤ 2)) : q_CI G yX4_servedByRule wsX4_servedByRule ({ frames := 4, cells := 0, slots := 0, locals := 94 } : Room) [.ref (q_ad G q), .ref (q_ad G o), .int (q_I a), .int (q_I p), .int (q_I ru)] M (fun z M' => z = q_set (q_ru (M (o + 1)) (M (o + 2)) (M (o + 3)) (M o 4) (M o 5) ru a p) ∧ ∀ j, j ≠ o + 4 → j ≠ q + 1 → M' j = M j) := by
  refine q_CI.of hI (by decide) rfl RX4 rfl [(0, .ref (q_ad G q)), (1, .ref (q_ad G o)), (2, .int (q_I a)), (3, .int (q_I p)), (4, .int (q_I ru))] rfl (Nat.le_of_ble_eq_true rfl) (fun E F FI => ?_)
  have huX1 : ∀ w ∈ wsX10, w ∈ wsX4_servedByRule := by decide +kernel
  have huX4 : ∀ w ∈ wsX40, w ∈ wsX4_servedByRule := by decide +kernel
  refine q_MRof (fun hM => ?_)
  refine q_iload F dX4_servedByRule_0 4 rfl ?_
  refine q_if_ne F 12 dX4_servedByRule_2 (by decide) (by omega) (fun c2 => ?_) (fun c2 => ?_)
  · refine q_iconst F dX4_servedByRule_12 ?_
    refine q_istore F dX4_servedByRule_13 [(5, .int (q_I 0)), (0, .ref (q_ad G q)), (1, .ref (q_ad G o)), (2, .int (q_I a)), (3, .int (q_I p)), (4, .int (q_I ru))] (Nat.le_of_ble_eq_true rfl) rfl ?_
    have lp15_1 : ∀ (k15_1 : Nat) (g : Int) (M1 : q_M), ((0 ≤ g ∧ g ≤ 6) ∧ q_fr (q + 1) M M1 ∧ ∀ x, 0 ≤ x → x < g → M1 (q + 1) x = q_rum (M (o + 1)) ru x) → (6 - g).toNat = k15_1 → q_Y G E 6 M1 [(0, .ref (q_ad G q)), (1, .ref (q_ad G o)), (2, .int (q_I a)), (3, .int (q_I p)), (4, .int (q_I ru)), (5, .int (q_I g))] 15 [] := by
      intro k15_1
      induction k15_1 using Nat.strongRecOn with
      | _ k15_1 ih15_1 =>
        intro g  M1 hi15 hk15
        refine q_MRof (fun hM15 => ?_)
        have hv1 : q_cv M1 o := q_cv_fr hvo hi15.2.1 (by omega)
        have hvh : 0 ≤ g → g < 6 → _ := hv1.2.2.1 g
        refine q_iload F dX4_servedByRule_15 5 rfl ?_
        refine q_aload_n F dX4_servedByRule_17 0 rfl ?_
        refine q_getr (T := TX4) (ref := "LeastHungry$Places") F huX4 rfl hq.1 0 (by decide) (by decide +kernel) rfl rfl dX4_servedByRule_18 ?_
        refine q_alen F 6 hq.2 rfl dX4_servedByRule_21 ?_
        refine q_icmp_ge F 58 dX4_servedByRule_22 (by decide) (by omega) (fun c22 => ?_) (fun c22 => ?_)
        · refine q_aload_n F dX4_servedByRule_58 0 rfl ?_
          refine q_getr (T := TX4) (ref := "LeastHungry$Places") F huX4 rfl hq.1 0 (by decide) (by decide +kernel) rfl rfl dX4_servedByRule_59 ?_
          refine q_aload_n F dX4_servedByRule_62 1 rfl ?_
          refine q_iload_n F dX4_servedByRule_63 2 rfl ?_
          refine q_callVP (n := 1) (T := TX1) F (c_X1_hungry G hI M1 o ho a hv1 (by omega)) rfl rfl ho.1 gX4_servedByRule_X1_hungry rfl ⟨by decide, by decide, by decide +kernel⟩ rfl ⟨rfl, rfl, Nat.le_of_ble_eq_true rfl, Nat.le_of_ble_eq_true rfl⟩ rfl (Nat.le_of_ble_eq_true rfl) dX4_servedByRule_64 (fun h64 => ?_)
          have hsR := q_set_R (q_hun (M1 (o + 1)) (M1 (o + 3)) (M1 o 4) a)
          refine q_iload_n F dX4_servedByRule_67 3 rfl ?_
          refine q_callNP (n := 3) F (c_X8_firstBy G hI M1 (q + 1) _ p hq.2 (by omega)) rfl gX4_servedByRule_X8_firstBy_n32 (host := RX8) (by decide +kernel) (by decide +kernel) (by decide +kernel) ⟨by decide, by decide, by decide +kernel⟩ rfl ⟨rfl, rfl, Nat.le_of_ble_eq_true rfl, Nat.le_of_ble_eq_true rfl⟩ rfl (Nat.le_of_ble_eq_true rfl) dX4_servedByRule_68 (fun h68 => ?_)
          exact q_iret F FI dX4_servedByRule_71 (by have := q_set_R (fun x => q_has (q_set (q_hun (M1 (o + 1)) (M1 (o + 3)) (M1 o 4) a)) x && decide (q_place (M1 (q + 1)) (q_set (q_hun (M1 (o + 1)) (M1 (o + 3)) (M1 o 4) a)) x < p)); omega) ⟨q_set_congr (fun x x0 x1 => by
      unfold q_ru
      rw [if_neg c2, q_has_set x0 x1, hi15.2.1 _ (by omega), hi15.2.1 _ (by omega), hi15.2.1 _ (by omega), q_place_rk, q_rk_congr (m' := q_rum (M (o + 1)) ru) (P' := q_hun (M (o + 1)) (M (o + 3)) (M o 4) a) (fun y y0 y1 => hi15.2.2 y y0 (by omega)) (fun y y0 y1 => q_has_set y0 y1) x0 x1]), fun j h1 h2 => hi15.2.1 j h2⟩
        · refine q_aload_n F dX4_servedByRule_25 0 rfl ?_
          refine q_getr (T := TX4) (ref := "LeastHungry$Places") F huX4 rfl hq.1 0 (by decide) (by decide +kernel) rfl rfl dX4_servedByRule_26 ?_
          refine q_iload F dX4_servedByRule_29 5 rfl ?_
          refine q_iload F dX4_servedByRule_31 4 rfl ?_
          refine q_iconst F dX4_servedByRule_33 ?_
          refine q_icmp_ne F 41 dX4_servedByRule_34 (by decide) (by omega) (fun c34 => ?_) (fun c34 => ?_)
          · refine q_aload_n F dX4_servedByRule_41 1 rfl ?_
            refine q_getr (T := TX1) (ref := "LeastHungry$Company") F huX1 rfl ho.1 0 (by decide) (by decide +kernel) rfl rfl dX4_servedByRule_42 ?_
            refine q_iload F dX4_servedByRule_45 5 rfl ?_
            refine q_callNP (n := 2) F (c_X8_at G hI M1 (o + 1) 6 ho.2.1 g (by omega)) rfl gX4_servedByRule_X8_at_n24 (host := RX8) (by decide +kernel) (by decide +kernel) (by decide +kernel) ⟨by decide, by decide, by decide +kernel⟩ rfl ⟨rfl, rfl, Nat.le_of_ble_eq_true rfl, Nat.le_of_ble_eq_true rfl⟩ rfl (Nat.le_of_ble_eq_true rfl) dX4_servedByRule_47 (fun h47 => ?_)
            refine q_ineg F dX4_servedByRule_50 ?_
            refine q_iast F hq.2 (Nat.le_of_ble_eq_true rfl) (by omega) (by omega) dX4_servedByRule_51 (fun N51 eN51 => ?_)
            obtain ⟨v52, e52⟩ : ∃ z_ : Int, z_ = g + 1 := ⟨_, rfl⟩
            refine q_iinc F dX4_servedByRule_52 5 rfl e52 [(5, .int (q_I v52)), (0, .ref (q_ad G q)), (1, .ref (q_ad G o)), (2, .int (q_I a)), (3, .int (q_I p)), (4, .int (q_I ru))] (Nat.le_of_ble_eq_true rfl) rfl ?_
            refine q_goto F 15 dX4_servedByRule_55 (by decide) ?_
            refine q_drop [1, 2, 3, 4, 5, 0] rfl ?_
            exact ih15_1 _ (by omega) v52 N51 ⟨by omega, q_fr_tr hi15.2.1 (q_fr_up eN51), fun x h0 h1 => by
      rw [eN51, q_up_at]
      by_cases hx : x = g
      · rw [if_pos hx]
        unfold q_rum
        rw [if_neg c34, hi15.2.1 _ (by omega), hx]
      · rw [if_neg hx]
        exact hi15.2.2 x h0 (by omega)⟩ rfl
          · refine q_iconst F dX4_servedByRule_37 ?_
            refine q_goto F 51 dX4_servedByRule_38 (by decide) ?_
            refine q_iast F hq.2 (Nat.le_of_ble_eq_true rfl) (by omega) (by omega) dX4_servedByRule_51 (fun N51 eN51 => ?_)
            obtain ⟨v52, e52⟩ : ∃ z_ : Int, z_ = g + 1 := ⟨_, rfl⟩
            refine q_iinc F dX4_servedByRule_52 5 rfl e52 [(5, .int (q_I v52)), (0, .ref (q_ad G q)), (1, .ref (q_ad G o)), (2, .int (q_I a)), (3, .int (q_I p)), (4, .int (q_I ru))] (Nat.le_of_ble_eq_true rfl) rfl ?_
            refine q_goto F 15 dX4_servedByRule_55 (by decide) ?_
            refine q_drop [1, 2, 3, 4, 5, 0] rfl ?_
            exact ih15_1 _ (by omega) v52 N51 ⟨by omega, q_fr_tr hi15.2.1 (q_fr_up eN51), fun x h0 h1 => by
      rw [eN51, q_up_at]
      by_cases hx : x = g
      · rw [if_pos hx]
        unfold q_rum
        rw [if_pos c34]
      · rw [if_neg hx]
        exact hi15.2.2 x h0 (by omega)⟩ rfl
    refine q_drop [1, 2, 3, 4, 5, 0] rfl ?_
    exact lp15_1 _ 0 M ⟨by omega, q_fr_rf, fun x h0 h1 => by omega⟩ rfl
  · refine q_aload_n F dX4_servedByRule_5 1 rfl ?_
    refine q_iload_n F dX4_servedByRule_6 2 rfl ?_
    refine q_iload_n F dX4_servedByRule_7 3 rfl ?_
    refine q_callVI (n := 2) (T := TX1) F (c_X1_takers G hI M o ho a p hvo (by omega)) rfl rfl ho.1 gX4_servedByRule_X1_takers rfl ⟨by decide, by decide, by decide +kernel⟩ rfl ⟨rfl, rfl, Nat.le_of_ble_eq_true rfl, Nat.le_of_ble_eq_true rfl⟩ rfl (Nat.le_of_ble_eq_true rfl) dX4_servedByRule_8 (fun r8 N8 h8 p8 => ?_)
    exact q_iret F FI dX4_servedByRule_11 (by omega) ⟨by rw [p8.1]; exact q_set_congr (fun x _ _ => by unfold q_ru; rw [if_pos c2]), fun j h1 h2 => p8.2 j h1⟩

set_option maxHeartbeats 4000000 in
set_option maxRecDepth 100000 in
theorem c_X4_gains (G : q_G) (hI : q_inj G) (M : q_M) (q : Nat) (hq : q_pl G q) (g : Int) (S : Int) (n : Int) (hg : (0 ≤ g ∧ g < 6) ∧ (0 ≤ S ∧ S ≤ 63) ∧ (0 ≤ n ∧ n ≤ 999999)) (hm : ∀ x, 0 ≤ x → x < 6 → 0 ≤ M (q + 1) x ∧ M (q + 1) x ≤ 20) : q_CI G yX4_gains wsX4_gains ({ frames := 2, cells := 0, slots := 0, locals := 47 } : Room) [.ref (q_ad G q), .int (q_I g), .int (q_I S), .int (q_I n)] M (fun z M' => ∃ b : Bool, z = q_b b ∧ b = q_gn (M (q + 1)) S n g ∧ M' = M) := by
  refine q_CI.of hI (by decide) rfl RX4 rfl [(0, .ref (q_ad G q)), (1, .int (q_I g)), (2, .int (q_I S)), (3, .int (q_I n))] rfl (Nat.le_of_ble_eq_true rfl) (fun E F FI => ?_)
  have huX4 : ∀ w ∈ wsX40, w ∈ wsX4_gains := by decide +kernel
  refine q_MRof (fun hM => ?_)
  have hmg := hm g hg.1.1 hg.1.2
  refine q_aload_n F dX4_gains_0 0 rfl ?_
  refine q_getr (T := TX4) (ref := "LeastHungry$Places") F huX4 rfl hq.1 0 (by decide) (by decide +kernel) rfl rfl dX4_gains_1 ?_
  refine q_iload_n F dX4_gains_4 1 rfl ?_
  refine q_callNP (n := 2) F (c_X8_at G hI M (q + 1) 6 hq.2 g (by omega)) rfl gX4_gains_X8_at_n24 (host := RX8) (by decide +kernel) (by decide +kernel) (by decide +kernel) ⟨by decide, by decide, by decide +kernel⟩ rfl ⟨rfl, rfl, Nat.le_of_ble_eq_true rfl, Nat.le_of_ble_eq_true rfl⟩ rfl (Nat.le_of_ble_eq_true rfl) dX4_gains_5 (fun h5 => ?_)
  refine q_nm (fun v8 e8 => ?_)
  refine q_istore F dX4_gains_8 [(4, .int (q_I v8)), (0, .ref (q_ad G q)), (1, .int (q_I g)), (2, .int (q_I S)), (3, .int (q_I n))] (Nat.le_of_ble_eq_true rfl) rfl ?_
  refine q_iload_n F dX4_gains_10 4 rfl ?_
  refine q_iload_n F dX4_gains_11 2 rfl ?_
  refine q_aload_n F dX4_gains_12 1 rfl ?_
  refine q_getr (T := TX4) (ref := "LeastHungry$Places") F huX4 rfl hq.1 0 (by decide) (by decide +kernel) rfl rfl dX4_gains_13 ?_
  refine q_iload_n F dX4_gains_16 3 rfl ?_
  refine q_callNP (n := 3) F (c_X8_placeOf G hI M g (q + 1) S hq.2 (by omega)) rfl gX4_gains_X8_placeOf_n48 (host := RX8) (by decide +kernel) (by decide +kernel) (by decide +kernel) ⟨by decide, by decide, by decide +kernel⟩ rfl ⟨rfl, rfl, Nat.le_of_ble_eq_true rfl, Nat.le_of_ble_eq_true rfl⟩ rfl (Nat.le_of_ble_eq_true rfl) dX4_gains_17 (fun h17 => ?_)
  have hpR := q_place_R (M (q + 1)) S g
  refine q_callSP (n := 2) F (c_X4_digitAt G hI M n _ (by omega)) rfl gX4_gains_X4_digitAt ⟨by decide, by decide, by decide +kernel⟩ rfl ⟨rfl, rfl, Nat.le_of_ble_eq_true rfl, Nat.le_of_ble_eq_true rfl⟩ rfl (Nat.le_of_ble_eq_true rfl) dX4_gains_20 (fun h20 => ?_)
  have hdR := q_dgt_R (num := n) (pl := q_place (M (q + 1)) S g)
  refine q_nm (fun v23 e23 => ?_)
  refine q_istore F dX4_gains_23 [(5, .int (q_I v23)), (4, .int (q_I v8)), (0, .ref (q_ad G q)), (1, .int (q_I g)), (2, .int (q_I S)), (3, .int (q_I n))] (Nat.le_of_ble_eq_true rfl) rfl ?_
  refine q_iload F dX4_gains_25 0 rfl ?_
  refine q_istore F dX4_gains_27 [(6, .int (q_I v23)), (5, .int (q_I v23)), (4, .int (q_I v8)), (0, .ref (q_ad G q)), (1, .int (q_I g)), (2, .int (q_I S)), (3, .int (q_I n))] (Nat.le_of_ble_eq_true rfl) rfl ?_
  refine q_iconst F dX4_gains_29 ?_
  refine q_istore F dX4_gains_30 [(7, .int (q_I 1)), (6, .int (q_I v23)), (5, .int (q_I v23)), (4, .int (q_I v8)), (0, .ref (q_ad G q)), (1, .int (q_I g)), (2, .int (q_I S)), (3, .int (q_I n))] (Nat.le_of_ble_eq_true rfl) rfl ?_
  have lp32_1 : ∀ (k32_1 : Nat) (z : Int) (v : Int) (M1 : q_M), ((1 ≤ v ∧ v ≤ 10) ∧ (v23 ≤ z ∧ z ≤ 9) ∧ decide (v23 < z) = q_anyN (q_gnP (M (q + 1)) S n g) (v - 1).toNat ∧ M1 (q + 1) = q_row (M (q + 1)) g (M1 (q + 1) g) ∧ q_fr (q + 1) M M1) → (10 - v).toNat = k32_1 → q_Y G E 8 M1 [(0, .ref (q_ad G q)), (1, .int (q_I g)), (2, .int (q_I S)), (3, .int (q_I n)), (4, .int (q_I v8)), (5, .int (q_I v23)), (6, .int (q_I z)), (7, .int (q_I v))] 32 [] := by
    intro k32_1
    induction k32_1 using Nat.strongRecOn with
    | _ k32_1 ih32_1 =>
      intro z v  M1 hi32 hk32
      refine q_MRof (fun hM32 => ?_)
      refine q_iload F dX4_gains_32 7 rfl ?_
      refine q_bipush F dX4_gains_34 (by decide) ?_
      refine q_icmp_gt F 82 dX4_gains_36 (by decide) (by omega) (fun c36 => ?_) (fun c36 => ?_)
      · refine q_aload_n F dX4_gains_82 0 rfl ?_
        refine q_getr (T := TX4) (ref := "LeastHungry$Places") F huX4 rfl hq.1 0 (by decide) (by decide +kernel) rfl rfl dX4_gains_83 ?_
        refine q_iload_n F dX4_gains_86 1 rfl ?_
        refine q_iload F dX4_gains_87 4 rfl ?_
        refine q_callNV (n := 3) F (c_X8_put G hI M1 (q + 1) 6 hq.2 g v8 (by omega) (by omega)) rfl gX4_gains_X8_put_n60 (host := RX8) (by decide +kernel) (by decide +kernel) (by decide +kernel) ⟨by decide, by decide, by decide +kernel⟩ rfl ⟨rfl, rfl, Nat.le_of_ble_eq_true rfl, Nat.le_of_ble_eq_true rfl⟩ rfl (Nat.le_of_ble_eq_true rfl) dX4_gains_89 (fun N89 p89 => ?_)
        refine q_iload F dX4_gains_92 6 rfl ?_
        refine q_iload F dX4_gains_94 5 rfl ?_
        refine q_icmp_le F 103 dX4_gains_96 (by decide) (by omega) (fun c96 => ?_) (fun c96 => ?_)
        · refine q_iconst F dX4_gains_103 ?_
          exact q_zret F FI dX4_gains_104 (by first | exact q_b01 _ | omega) ⟨false, rfl, by
      have h9 := hi32.2.2.1
      rw [show (v - 1).toNat = 9 by omega, decide_eq_false (show ¬ v23 < z by omega)] at h9
      exact h9, by
      funext j
      by_cases hj : j = q + 1
      · rw [hj, p89, q_up_row, hi32.2.2.2.1, e8]
        funext x
        unfold q_row
        by_cases hx : x = g
        · rw [if_pos hx, hx]
        · rw [if_neg hx, if_neg hx]
      · rw [p89, q_up_ne hj, hi32.2.2.2.2 j hj]⟩
        · refine q_iconst F dX4_gains_99 ?_
          refine q_goto F 104 dX4_gains_100 (by decide) ?_
          exact q_zret F FI dX4_gains_104 (by first | exact q_b01 _ | omega) ⟨true, rfl, by
      have h9 := hi32.2.2.1
      rw [show (v - 1).toNat = 9 by omega, decide_eq_true (show v23 < z by omega)] at h9
      exact h9, by
      funext j
      by_cases hj : j = q + 1
      · rw [hj, p89, q_up_row, hi32.2.2.2.1, e8]
        funext x
        unfold q_row
        by_cases hx : x = g
        · rw [if_pos hx, hx]
        · rw [if_neg hx, if_neg hx]
      · rw [p89, q_up_ne hj, hi32.2.2.2.2 j hj]⟩
      · refine q_aload_n F dX4_gains_39 0 rfl ?_
        refine q_getr (T := TX4) (ref := "LeastHungry$Places") F huX4 rfl hq.1 0 (by decide) (by decide +kernel) rfl rfl dX4_gains_40 ?_
        refine q_iload_n F dX4_gains_43 1 rfl ?_
        refine q_iconst F dX4_gains_44 ?_
        refine q_iload F dX4_gains_45 4 rfl ?_
        refine q_iload F dX4_gains_47 7 rfl ?_
        refine q_isub F dX4_gains_49 ?_
        refine q_mmax F (by omega) (by decide +kernel) (by decide +kernel) (by decide +kernel) (by decide +kernel) ⟨Nat.le_of_ble_eq_true rfl, Nat.le_of_ble_eq_true rfl⟩ dX4_gains_50 ?_
        refine q_callNV (n := 3) F (c_X8_put G hI M1 (q + 1) 6 hq.2 g _ (by omega) (by omega)) rfl gX4_gains_X8_put_n60 (host := RX8) (by decide +kernel) (by decide +kernel) (by decide +kernel) ⟨by decide, by decide, by decide +kernel⟩ rfl ⟨rfl, rfl, Nat.le_of_ble_eq_true rfl, Nat.le_of_ble_eq_true rfl⟩ rfl (Nat.le_of_ble_eq_true rfl) dX4_gains_53 (fun N53 p53 => ?_)
        refine q_iload F dX4_gains_56 6 rfl ?_
        refine q_iload_n F dX4_gains_58 3 rfl ?_
        refine q_iload_n F dX4_gains_59 1 rfl ?_
        refine q_aload_n F dX4_gains_60 0 rfl ?_
        refine q_getr (T := TX4) (ref := "LeastHungry$Places") F huX4 rfl hq.1 0 (by decide) (by decide +kernel) rfl rfl dX4_gains_61 ?_
        refine q_iload_n F dX4_gains_64 2 rfl ?_
        refine q_callNP (n := 3) F (c_X8_placeOf G hI N53 g (q + 1) S hq.2 (by omega)) rfl gX4_gains_X8_placeOf_n48 (host := RX8) (by decide +kernel) (by decide +kernel) (by decide +kernel) ⟨by decide, by decide, by decide +kernel⟩ rfl ⟨rfl, rfl, Nat.le_of_ble_eq_true rfl, Nat.le_of_ble_eq_true rfl⟩ rfl (Nat.le_of_ble_eq_true rfl) dX4_gains_65 (fun h65 => ?_)
        have hpR2 := q_place_R (N53 (q + 1)) S g
        refine q_callSP (n := 2) F (c_X4_digitAt G hI N53 n _ (by omega)) rfl gX4_gains_X4_digitAt ⟨by decide, by decide, by decide +kernel⟩ rfl ⟨rfl, rfl, Nat.le_of_ble_eq_true rfl, Nat.le_of_ble_eq_true rfl⟩ rfl (Nat.le_of_ble_eq_true rfl) dX4_gains_68 (fun h68 => ?_)
        have hdR2 := q_dgt_R (num := n) (pl := q_place (N53 (q + 1)) S g)
        have e53 : N53 (q + 1) = q_row (M (q + 1)) g (max 0 (M (q + 1) g - v)) := by
          rw [p53, q_up_row, hi32.2.2.2.1, e8]
          funext x
          unfold q_row
          by_cases hx : x = g
          · rw [if_pos hx, if_pos hx]
          · rw [if_neg hx, if_neg hx, if_neg hx]
        refine q_mmax F (by omega) (by decide +kernel) (by decide +kernel) (by decide +kernel) (by decide +kernel) ⟨Nat.le_of_ble_eq_true rfl, Nat.le_of_ble_eq_true rfl⟩ dX4_gains_71 ?_
        refine q_nm (fun v74 e74 => ?_)
        refine q_istore F dX4_gains_74 [(6, .int (q_I v74)), (0, .ref (q_ad G q)), (1, .int (q_I g)), (2, .int (q_I S)), (3, .int (q_I n)), (4, .int (q_I v8)), (5, .int (q_I v23)), (7, .int (q_I v))] (Nat.le_of_ble_eq_true rfl) rfl ?_
        obtain ⟨v76, e76⟩ : ∃ z_ : Int, z_ = v + 1 := ⟨_, rfl⟩
        refine q_iinc F dX4_gains_76 7 rfl e76 [(7, .int (q_I v76)), (6, .int (q_I v74)), (0, .ref (q_ad G q)), (1, .int (q_I g)), (2, .int (q_I S)), (3, .int (q_I n)), (4, .int (q_I v8)), (5, .int (q_I v23))] (Nat.le_of_ble_eq_true rfl) rfl ?_
        refine q_goto F 32 dX4_gains_79 (by decide) ?_
        refine q_drop [2, 3, 4, 5, 6, 7, 1, 0] rfl ?_
        exact ih32_1 _ (by omega) v74 v76 N53 ⟨by omega, by omega, by
      rw [show (v76 - 1).toNat = (v - 1).toNat + 1 by omega, q_anyN_s, ← hi32.2.2.1, show (((v - 1).toNat : Nat) : Int) + 1 = v by omega]
      unfold q_gnP
      rw [← e53, ← e23, Bool.eq_iff_iff]
      simp only [Bool.or_eq_true, decide_eq_true_eq]
      omega, by
      rw [e53]
      funext x
      unfold q_row
      by_cases hx : x = g
      · rw [if_pos hx, if_pos hx, if_pos rfl]
      · rw [if_neg hx, if_neg hx], q_fr_tr hi32.2.2.2.2 (q_fr_up p53)⟩ rfl
  refine q_drop [4, 5, 6, 7, 3, 2, 1, 0] rfl ?_
  exact lp32_1 _ v23 1 M ⟨by omega, by omega, decide_eq_false (by omega), funext fun x => by unfold q_row; split <;> first | rfl | (rename_i h; rw [h]), q_fr_rf⟩ rfl

set_option maxHeartbeats 4000000 in
set_option maxRecDepth 100000 in
theorem c_X4_firstGainer (G : q_G) (hI : q_inj G) (M : q_M) (q : Nat) (hq : q_pl G q) (o : Nat) (ho : q_co G o) (n : Int) (hvo : q_cv M o) (hd : o + 4 < q) (hn : 0 ≤ n ∧ n ≤ 999999) : q_CI G yX4_firstGainer wsX4_firstGainer ({ frames := 3, cells := 0, slots := 0, locals := 74 } : Room) [.ref (q_ad G q), .ref (q_ad G o), .int (q_I n)] M (fun z M' => z = q_first (fun g => q_hun (M (o + 1)) (M (o + 3)) (M o 4) 0 g && q_gn (M (o + 1)) (q_set (q_hun (M (o + 1)) (M (o + 3)) (M o 4) 0)) n g) 6 0 ∧ q_fr (q + 1) M M') := by
  refine q_CI.of hI (by decide) rfl RX4 rfl [(0, .ref (q_ad G q)), (1, .ref (q_ad G o)), (2, .int (q_I n))] rfl (Nat.le_of_ble_eq_true rfl) (fun E F FI => ?_)
  have huX1 : ∀ w ∈ wsX10, w ∈ wsX4_firstGainer := by decide +kernel
  have huX4 : ∀ w ∈ wsX40, w ∈ wsX4_firstGainer := by decide +kernel
  refine q_MRof (fun hM => ?_)
  refine q_aload_n F dX4_firstGainer_0 1 rfl ?_
  refine q_iconst F dX4_firstGainer_1 ?_
  refine q_callVP (n := 1) (T := TX1) F (c_X1_hungry G hI M o ho 0 hvo (by omega)) rfl rfl ho.1 gX4_firstGainer_X1_hungry rfl ⟨by decide, by decide, by decide +kernel⟩ rfl ⟨rfl, rfl, Nat.le_of_ble_eq_true rfl, Nat.le_of_ble_eq_true rfl⟩ rfl (Nat.le_of_ble_eq_true rfl) dX4_firstGainer_2 (fun h2 => ?_)
  refine q_nm (fun v5 e5 => ?_)
  refine q_istore_n F dX4_firstGainer_5 [(3, .int (q_I v5)), (0, .ref (q_ad G q)), (1, .ref (q_ad G o)), (2, .int (q_I n))] (Nat.le_of_ble_eq_true rfl) rfl ?_
  refine q_aload_n F dX4_firstGainer_6 2 rfl ?_
  refine q_getr (T := TX1) (ref := "LeastHungry$Company") F huX1 rfl ho.1 0 (by decide) (by decide +kernel) rfl rfl dX4_firstGainer_7 ?_
  refine q_aload_n F dX4_firstGainer_10 1 rfl ?_
  refine q_getr (T := TX4) (ref := "LeastHungry$Places") F huX4 rfl hq.1 0 (by decide) (by decide +kernel) rfl rfl dX4_firstGainer_11 ?_
  refine q_callNV (n := 2) F (c_X8_copyRow G hI M (o + 1) (q + 1) 6 ho.2.1 hq.2 (by omega)) rfl gX4_firstGainer_X8_copyRow_n36 (host := RX8) (by decide +kernel) (by decide +kernel) (by decide +kernel) ⟨by decide, by decide, by decide +kernel⟩ rfl ⟨rfl, rfl, Nat.le_of_ble_eq_true rfl, Nat.le_of_ble_eq_true rfl⟩ rfl (Nat.le_of_ble_eq_true rfl) dX4_firstGainer_14 (fun N14 p14 => ?_)
  refine q_iconst F dX4_firstGainer_17 ?_
  refine q_istore F dX4_firstGainer_18 [(4, .int (q_I 0)), (3, .int (q_I v5)), (0, .ref (q_ad G q)), (1, .ref (q_ad G o)), (2, .int (q_I n))] (Nat.le_of_ble_eq_true rfl) rfl ?_
  have lp20_1 : ∀ (k20_1 : Nat) (g : Int) (M1 : q_M), ((0 ≤ g ∧ g ≤ 6) ∧ M1 = N14 ∧ q_first (fun g => q_hun (M (o + 1)) (M (o + 3)) (M o 4) 0 g && q_gn (M (o + 1)) (q_set (q_hun (M (o + 1)) (M (o + 3)) (M o 4) 0)) n g) (6 - g).toNat g = q_first (fun g => q_hun (M (o + 1)) (M (o + 3)) (M o 4) 0 g && q_gn (M (o + 1)) (q_set (q_hun (M (o + 1)) (M (o + 3)) (M o 4) 0)) n g) 6 0) → (6 - g).toNat = k20_1 → q_Y G E 5 M1 [(0, .ref (q_ad G q)), (1, .ref (q_ad G o)), (2, .int (q_I n)), (3, .int (q_I v5)), (4, .int (q_I g))] 20 [] := by
    intro k20_1
    induction k20_1 using Nat.strongRecOn with
    | _ k20_1 ih20_1 =>
      intro g  M1 hi20 hk20
      refine q_MRof (fun hM20 => ?_)
      refine q_iload F dX4_firstGainer_20 4 rfl ?_
      refine q_bipush F dX4_firstGainer_22 (by decide) ?_
      refine q_icmp_ge F 56 dX4_firstGainer_24 (by decide) (by omega) (fun c24 => ?_) (fun c24 => ?_)
      · refine q_bipush F dX4_firstGainer_56 (by decide) ?_
        exact q_iret F FI dX4_firstGainer_58 (by omega) ⟨by
      have hu := hi20.2.2
      rw [show (6 - g).toNat = 0 by omega] at hu
      exact hu, fun j hj => by rw [hi20.2.1, p14, q_cp_ne hj]⟩
      · refine q_iload_n F dX4_firstGainer_27 3 rfl ?_
        refine q_iload F dX4_firstGainer_28 4 rfl ?_
        refine q_callNP (n := 2) F (c_X8_holds G hI M1 v5 g (by rw [e5]; have := q_set_R (q_hun (M (o + 1)) (M (o + 3)) (M o 4) 0); omega)) rfl gX4_firstGainer_X8_holds_n40 (host := RX8) (by decide +kernel) (by decide +kernel) (by decide +kernel) ⟨by decide, by decide, by decide +kernel⟩ rfl ⟨rfl, rfl, Nat.le_of_ble_eq_true rfl, Nat.le_of_ble_eq_true rfl⟩ rfl (Nat.le_of_ble_eq_true rfl) dX4_firstGainer_30 (fun h30 => ?_)
        refine q_ifb_eq F 50 dX4_firstGainer_33 (by decide) (fun c33 => ?_) (fun c33 => ?_)
        · obtain ⟨v50, e50⟩ : ∃ z_ : Int, z_ = g + 1 := ⟨_, rfl⟩
          refine q_iinc F dX4_firstGainer_50 4 rfl e50 [(4, .int (q_I v50)), (0, .ref (q_ad G q)), (1, .ref (q_ad G o)), (2, .int (q_I n)), (3, .int (q_I v5))] (Nat.le_of_ble_eq_true rfl) rfl ?_
          refine q_goto F 20 dX4_firstGainer_53 (by decide) ?_
          refine q_drop [1, 2, 3, 4, 0] rfl ?_
          exact ih20_1 _ (by omega) v50 M1 ⟨by omega, hi20.2.1, by have hu := hi20.2.2; rw [show (6 - g).toNat = (6 - v50).toNat + 1 by omega, q_first_u, if_neg (by rw [e5, q_has_set hi20.1.1 c24] at c33; simp [c33])] at hu; rw [← hu, e50]⟩ rfl
        · refine q_aload_n F dX4_firstGainer_36 0 rfl ?_
          refine q_iload F dX4_firstGainer_37 4 rfl ?_
          refine q_iload_n F dX4_firstGainer_39 3 rfl ?_
          refine q_iload_n F dX4_firstGainer_40 2 rfl ?_
          refine q_callVI (n := 3) (T := TX4) F (c_X4_gains G hI M1 q hq g v5 n (by rw [e5]; have := q_set_R (q_hun (M (o + 1)) (M (o + 3)) (M o 4) 0); omega) (fun x h0 h1 => by rw [hi20.2.1, p14, q_cp_at, if_pos (by omega)]; exact hvo.2.2.1 x h0 h1)) rfl rfl hq.1 gX4_firstGainer_X4_gains rfl ⟨by decide, by decide, by decide +kernel⟩ rfl ⟨rfl, rfl, Nat.le_of_ble_eq_true rfl, Nat.le_of_ble_eq_true rfl⟩ rfl (Nat.le_of_ble_eq_true rfl) dX4_firstGainer_41 (fun r41 N41 h41 p41 => ?_)
          obtain ⟨b41, rfl, p41⟩ := p41
          obtain ⟨hb41, hM41⟩ := p41
          have hPg : (fun g => q_hun (M (o + 1)) (M (o + 3)) (M o 4) 0 g && q_gn (M (o + 1)) (q_set (q_hun (M (o + 1)) (M (o + 3)) (M o 4) 0)) n g) g = b41 := by
            rw [hb41]
            show (q_hun (M (o + 1)) (M (o + 3)) (M o 4) 0 g && q_gn (M (o + 1)) (q_set (q_hun (M (o + 1)) (M (o + 3)) (M o 4) 0)) n g) = q_gn (M1 (q + 1)) v5 n g
            rw [e5, q_has_set hi20.1.1 c24] at c33
            rw [c33, Bool.true_and, e5]
            exact q_gn_congr (fun x x0 x1 => by rw [hi20.2.1, p14, q_cp_at, if_pos (by omega)]) hi20.1.1 c24
          refine q_ifb_eq F 50 dX4_firstGainer_44 (by decide) (fun c44 => ?_) (fun c44 => ?_)
          · obtain ⟨v50, e50⟩ : ∃ z_ : Int, z_ = g + 1 := ⟨_, rfl⟩
            refine q_iinc F dX4_firstGainer_50 4 rfl e50 [(4, .int (q_I v50)), (0, .ref (q_ad G q)), (1, .ref (q_ad G o)), (2, .int (q_I n)), (3, .int (q_I v5))] (Nat.le_of_ble_eq_true rfl) rfl ?_
            refine q_goto F 20 dX4_firstGainer_53 (by decide) ?_
            refine q_drop [1, 2, 3, 4, 0] rfl ?_
            exact ih20_1 _ (by omega) v50 N41 ⟨by omega, by rw [hM41]; exact hi20.2.1, by have hu := hi20.2.2; rw [show (6 - g).toNat = (6 - v50).toNat + 1 by omega, q_first_u, if_neg (fun h => by have h2 := hPg.symm.trans h; simp [c44] at h2)] at hu; rw [← hu, e50]⟩ rfl
          · refine q_iload F dX4_firstGainer_47 4 rfl ?_
            exact q_iret F FI dX4_firstGainer_49 (by omega) ⟨by
      have hu := hi20.2.2
      rw [show (6 - g).toNat = (5 - g).toNat + 1 by omega, q_first_u, if_pos (hPg.trans c44)] at hu
      exact hu, fun j hj => by rw [hM41, hi20.2.1, p14, q_cp_ne hj]⟩
  refine q_drop [2, 3, 4, 1, 0] rfl ?_
  exact lp20_1 _ 0 N14 ⟨by omega, rfl, rfl⟩ rfl

set_option maxHeartbeats 4000000 in
set_option maxRecDepth 100000 in
theorem c_X4_showAll (G : q_G) (hI : q_inj G) (M : q_M) (q : Nat) (hq : q_pl G q) (o : Nat) (ho : q_co G o) (c : Int) (hvo : q_cv M o) (hd : o + 4 < q) (hc : 0 ≤ c ∧ c ≤ 63) : q_CV G yX4_showAll wsX4_showAll ({ frames := 2, cells := 0, slots := 0, locals := 42 } : Room) [.ref (q_ad G q), .ref (q_ad G o), .int (q_I c)] M (fun M' => q_fr (q + 1) M M' ∧ ∀ x, 0 ≤ x → x < 6 → M' (q + 1) x = q_shA (M (o + 1)) (M (o + 2)) c x) := by
  refine q_CV.of hI (by decide) rfl RX4 rfl [(0, .ref (q_ad G q)), (1, .ref (q_ad G o)), (2, .int (q_I c))] rfl (Nat.le_of_ble_eq_true rfl) (fun E F FV => ?_)
  have huX1 : ∀ w ∈ wsX10, w ∈ wsX4_showAll := by decide +kernel
  have huX4 : ∀ w ∈ wsX40, w ∈ wsX4_showAll := by decide +kernel
  refine q_MRof (fun hM => ?_)
  refine q_iconst F dX4_showAll_0 ?_
  refine q_istore_n F dX4_showAll_1 [(3, .int (q_I 0)), (0, .ref (q_ad G q)), (1, .ref (q_ad G o)), (2, .int (q_I c))] (Nat.le_of_ble_eq_true rfl) rfl ?_
  have lp2_1 : ∀ (k2_1 : Nat) (g : Int) (M1 : q_M), ((0 ≤ g ∧ g ≤ 6) ∧ q_fr (q + 1) M M1 ∧ ∀ x, 0 ≤ x → x < g → M1 (q + 1) x = q_shA (M (o + 1)) (M (o + 2)) c x) → (6 - g).toNat = k2_1 → q_Y G E 4 M1 [(0, .ref (q_ad G q)), (1, .ref (q_ad G o)), (2, .int (q_I c)), (3, .int (q_I g))] 2 [] := by
    intro k2_1
    induction k2_1 using Nat.strongRecOn with
    | _ k2_1 ih2_1 =>
      intro g  M1 hi2 hk2
      refine q_MRof (fun hM2 => ?_)
      have hv1 : q_cv M1 o := q_cv_fr hvo hi2.2.1 (by omega)
      refine q_iload_n F dX4_showAll_2 3 rfl ?_
      refine q_aload_n F dX4_showAll_3 0 rfl ?_
      refine q_getr (T := TX4) (ref := "LeastHungry$Places") F huX4 rfl hq.1 0 (by decide) (by decide +kernel) rfl rfl dX4_showAll_4 ?_
      refine q_alen F 6 hq.2 rfl dX4_showAll_7 ?_
      refine q_icmp_ge F 47 dX4_showAll_8 (by decide) (by omega) (fun c8 => ?_) (fun c8 => ?_)
      · exact q_vret F FV dX4_showAll_47 ⟨hi2.2.1, fun x h0 h1 => hi2.2.2 x h0 (by omega)⟩
      · refine q_aload_n F dX4_showAll_11 0 rfl ?_
        refine q_getr (T := TX4) (ref := "LeastHungry$Places") F huX4 rfl hq.1 0 (by decide) (by decide +kernel) rfl rfl dX4_showAll_12 ?_
        refine q_iload_n F dX4_showAll_15 3 rfl ?_
        refine q_iload_n F dX4_showAll_16 2 rfl ?_
        refine q_iload_n F dX4_showAll_17 3 rfl ?_
        refine q_callNP (n := 2) F (c_X8_holds G hI M1 c g (by omega)) rfl gX4_showAll_X8_holds_n40 (host := RX8) (by decide +kernel) (by decide +kernel) (by decide +kernel) ⟨by decide, by decide, by decide +kernel⟩ rfl ⟨rfl, rfl, Nat.le_of_ble_eq_true rfl, Nat.le_of_ble_eq_true rfl⟩ rfl (Nat.le_of_ble_eq_true rfl) dX4_showAll_18 (fun h18 => ?_)
        refine q_ifb_eq F 35 dX4_showAll_21 (by decide) (fun c21 => ?_) (fun c21 => ?_)
        · refine q_aload_n F dX4_showAll_35 1 rfl ?_
          refine q_iload_n F dX4_showAll_36 3 rfl ?_
          refine q_callVP (n := 1) (T := TX1) F (c_X1_shownBy G hI M1 o ho g hv1 (by omega)) rfl rfl ho.1 gX4_showAll_X1_shownBy rfl ⟨by decide, by decide, by decide +kernel⟩ rfl ⟨rfl, rfl, Nat.le_of_ble_eq_true rfl, Nat.le_of_ble_eq_true rfl⟩ rfl (Nat.le_of_ble_eq_true rfl) dX4_showAll_37 (fun h37 => ?_)
          refine q_iast F hq.2 (Nat.le_of_ble_eq_true rfl) (by omega) (by omega) dX4_showAll_40 (fun N40 eN40 => ?_)
          obtain ⟨v41, e41⟩ : ∃ z_ : Int, z_ = g + 1 := ⟨_, rfl⟩
          refine q_iinc F dX4_showAll_41 3 rfl e41 [(3, .int (q_I v41)), (0, .ref (q_ad G q)), (1, .ref (q_ad G o)), (2, .int (q_I c))] (Nat.le_of_ble_eq_true rfl) rfl ?_
          refine q_goto F 2 dX4_showAll_44 (by decide) ?_
          refine q_drop [1, 2, 3, 0] rfl ?_
          exact ih2_1 _ (by omega) v41 N40 ⟨by omega, q_fr_tr hi2.2.1 (q_fr_up eN40), fun x h0 h1 => by
      rw [eN40, q_up_at]
      by_cases hx : x = g
      · rw [if_pos hx, hx]
        unfold q_shA
        rw [if_neg (by simp [c21]), hi2.2.1 (o + 2) (by omega), hi2.2.1 (o + 1) (by omega)]
      · rw [if_neg hx]
        exact hi2.2.2 x h0 (by omega)⟩ rfl
        · refine q_aload_n F dX4_showAll_24 1 rfl ?_
          refine q_getr (T := TX1) (ref := "LeastHungry$Company") F huX1 rfl ho.1 0 (by decide) (by decide +kernel) rfl rfl dX4_showAll_25 ?_
          refine q_iload_n F dX4_showAll_28 3 rfl ?_
          refine q_callNP (n := 2) F (c_X8_at G hI M1 (o + 1) 6 ho.2.1 g (by omega)) rfl gX4_showAll_X8_at_n24 (host := RX8) (by decide +kernel) (by decide +kernel) (by decide +kernel) ⟨by decide, by decide, by decide +kernel⟩ rfl ⟨rfl, rfl, Nat.le_of_ble_eq_true rfl, Nat.le_of_ble_eq_true rfl⟩ rfl (Nat.le_of_ble_eq_true rfl) dX4_showAll_29 (fun h29 => ?_)
          refine q_goto F 40 dX4_showAll_32 (by decide) ?_
          refine q_iast F hq.2 (Nat.le_of_ble_eq_true rfl) (by omega) (by omega) dX4_showAll_40 (fun N40 eN40 => ?_)
          obtain ⟨v41, e41⟩ : ∃ z_ : Int, z_ = g + 1 := ⟨_, rfl⟩
          refine q_iinc F dX4_showAll_41 3 rfl e41 [(3, .int (q_I v41)), (0, .ref (q_ad G q)), (1, .ref (q_ad G o)), (2, .int (q_I c))] (Nat.le_of_ble_eq_true rfl) rfl ?_
          refine q_goto F 2 dX4_showAll_44 (by decide) ?_
          refine q_drop [1, 2, 3, 0] rfl ?_
          exact ih2_1 _ (by omega) v41 N40 ⟨by omega, q_fr_tr hi2.2.1 (q_fr_up eN40), fun x h0 h1 => by
      rw [eN40, q_up_at]
      by_cases hx : x = g
      · rw [if_pos hx, hx]
        unfold q_shA
        rw [if_pos c21, hi2.2.1 (o + 1) (by omega)]
      · rw [if_neg hx]
        exact hi2.2.2 x h0 (by omega)⟩ rfl
  refine q_drop [1, 2, 3, 0] rfl ?_
  exact lp2_1 _ 0 M ⟨by omega, q_fr_rf, fun x h0 h1 => by omega⟩ rfl

set_option maxHeartbeats 4000000 in
set_option maxRecDepth 100000 in
theorem c_X4_weight (G : q_G) (hI : q_inj G) (M : q_M) (fe : Int) (c : Int) (t : Int) (hf : (0 ≤ fe ∧ fe ≤ 63) ∧ (0 ≤ c ∧ c ≤ 63) ∧ (0 ≤ t ∧ t ≤ 10)) : q_CI G yX4_weight wsX4_weight ({ frames := 1, cells := 0, slots := 0, locals := 23 } : Room) [.int (q_I fe), .int (q_I c), .int (q_I t)] M (fun z M' => z = q_wgt fe c t ∧ M' = M) := by
  refine q_CI.of hI (by decide) rfl RX4 rfl [(0, .int (q_I fe)), (1, .int (q_I c)), (2, .int (q_I t))] rfl (Nat.le_of_ble_eq_true rfl) (fun E F FI => ?_)
  refine q_MRof (fun hM => ?_)
  refine q_iload_n F dX4_weight_0 0 rfl ?_
  refine q_iload_n F dX4_weight_1 1 rfl ?_
  refine q_iconst F dX4_weight_2 ?_
  refine q_ixor F dX4_weight_3 (fun z3 e3 h3 => ?_)
  refine q_iand F dX4_weight_4 (fun z4 e4 h4 => ?_)
  have hz4 : 0 ≤ z4 ∧ z4 ≤ 63 := by rw [e4, e3, q_andn hf.1.1 hf.1.2 hf.2.1.1 hf.2.1.2]; exact q_set_R _
  have hc1 := q_cnt_R (q_has c)
  have hc2 := q_cnt_R (q_has z4)
  refine q_callSP (n := 1) F (c_J6_bitCount_0f7a4 G hI M z4 (by omega)) rfl gX4_weight_J6_bitCount_0f7a4 ⟨by decide, by decide, by decide +kernel⟩ rfl ⟨rfl, rfl, Nat.le_of_ble_eq_true rfl, Nat.le_of_ble_eq_true rfl⟩ rfl (Nat.le_of_ble_eq_true rfl) dX4_weight_5 (fun h5 => ?_)
  refine q_nm (fun v8 e8 => ?_)
  refine q_istore_n F dX4_weight_8 [(3, .int (q_I v8)), (0, .int (q_I fe)), (1, .int (q_I c)), (2, .int (q_I t))] (Nat.le_of_ble_eq_true rfl) rfl ?_
  refine q_iload_n F dX4_weight_9 3 rfl ?_
  refine q_iload_n F dX4_weight_10 2 rfl ?_
  refine q_callSP (n := 1) F (c_J6_bitCount_0f7a4 G hI M c (by omega)) rfl gX4_weight_J6_bitCount_0f7a4 ⟨by decide, by decide, by decide +kernel⟩ rfl ⟨rfl, rfl, Nat.le_of_ble_eq_true rfl, Nat.le_of_ble_eq_true rfl⟩ rfl (Nat.le_of_ble_eq_true rfl) dX4_weight_11 (fun h11 => ?_)
  refine q_callNP (n := 2) F (c_X8_power G hI M t _ (by omega)) rfl gX4_weight_X8_power_n86 (host := RX8) (by decide +kernel) (by decide +kernel) (by decide +kernel) ⟨by decide, by decide, by decide +kernel⟩ rfl ⟨rfl, rfl, Nat.le_of_ble_eq_true rfl, Nat.le_of_ble_eq_true rfl⟩ rfl (Nat.le_of_ble_eq_true rfl) dX4_weight_14 (fun h14 => ?_)
  refine q_bipush F dX4_weight_17 (by decide) ?_
  refine q_iload_n F dX4_weight_19 3 rfl ?_
  refine q_isub F dX4_weight_20 ?_
  refine q_iload_n F dX4_weight_21 0 rfl ?_
  refine q_callNP (n := 2) F (c_X8_power G hI M _ v8 (by omega)) rfl gX4_weight_X8_power_n86 (host := RX8) (by decide +kernel) (by decide +kernel) (by decide +kernel) ⟨by decide, by decide, by decide +kernel⟩ rfl ⟨rfl, rfl, Nat.le_of_ble_eq_true rfl, Nat.le_of_ble_eq_true rfl⟩ rfl (Nat.le_of_ble_eq_true rfl) dX4_weight_22 (fun h22 => ?_)
  refine q_imul F dX4_weight_25 ?_
  have hw := q_wgt_R hf.1 hf.2.1 hf.2.2
  have ew : q_pw t (q_cnt (q_has c)).toNat * q_pw (10 - t) v8.toNat = q_wgt fe c t := by rw [e8, e4, e3]; rfl
  rw [ew]
  exact q_iret F FI dX4_weight_26 (by omega) ⟨rfl, rfl⟩

set_option maxHeartbeats 4000000 in
set_option maxRecDepth 100000 in
theorem c_X4_chances (G : q_G) (hI : q_inj G) (M : q_M) (q : Nat) (hq : q_pl G q) (o : Nat) (ho : q_co G o) (g : Int) (p : Int) (t : Int) (hvo : q_cv M o) (hd : o + 4 < q) (hg : (0 ≤ g ∧ g < 6) ∧ (1 ≤ p ∧ p ≤ 9) ∧ (0 ≤ t ∧ t ≤ 10)) : q_CI G yX4_chances wsX4_chances ({ frames := 3, cells := 0, slots := 0, locals := 65 } : Room) [.ref (q_ad G q), .ref (q_ad G o), .int (q_I g), .int (q_I p), .int (q_I t)] M (fun z M' => z = q_ch (M (o + 1)) (M (o + 2)) (M (o + 3)) (M o 4) (M (o + 3) g) g p t ∧ q_fr (q + 1) M M' ∧ (0 ≤ z ∧ z ≤ 64000000)) := by
  refine q_CI.of hI (by decide) rfl RX4 rfl [(0, .ref (q_ad G q)), (1, .ref (q_ad G o)), (2, .int (q_I g)), (3, .int (q_I p)), (4, .int (q_I t))] rfl (Nat.le_of_ble_eq_true rfl) (fun E F FI => ?_)
  have huX1 : ∀ w ∈ wsX10, w ∈ wsX4_chances := by decide +kernel
  have huX4 : ∀ w ∈ wsX40, w ∈ wsX4_chances := by decide +kernel
  refine q_MRof (fun hM => ?_)
  refine q_aload_n F dX4_chances_0 1 rfl ?_
  refine q_getr (T := TX1) (ref := "LeastHungry$Company") F huX1 rfl ho.1 2 (by decide) (by decide +kernel) rfl rfl dX4_chances_1 ?_
  refine q_iload_n F dX4_chances_4 2 rfl ?_
  refine q_callNP (n := 2) F (c_X8_at G hI M (o + 3) 6 ho.2.2.2.1 g (by omega)) rfl gX4_chances_X8_at_n24 (host := RX8) (by decide +kernel) (by decide +kernel) (by decide +kernel) ⟨by decide, by decide, by decide +kernel⟩ rfl ⟨rfl, rfl, Nat.le_of_ble_eq_true rfl, Nat.le_of_ble_eq_true rfl⟩ rfl (Nat.le_of_ble_eq_true rfl) dX4_chances_5 (fun h5 => ?_)
  refine q_nm (fun v8 e8 => ?_)
  refine q_istore F dX4_chances_8 [(5, .int (q_I v8)), (0, .ref (q_ad G q)), (1, .ref (q_ad G o)), (2, .int (q_I g)), (3, .int (q_I p)), (4, .int (q_I t))] (Nat.le_of_ble_eq_true rfl) rfl ?_
  have hav := hvo.2.2.2.2 g hg.1.1 hg.1.2
  rw [← e8] at hav
  refine q_aload_n F dX4_chances_10 2 rfl ?_
  refine q_iload F dX4_chances_11 0 rfl ?_
  refine q_callVP (n := 1) (T := TX1) F (c_X1_feigners G hI M o ho v8 hvo (by omega)) rfl rfl ho.1 gX4_chances_X1_feigners rfl ⟨by decide, by decide, by decide +kernel⟩ rfl ⟨rfl, rfl, Nat.le_of_ble_eq_true rfl, Nat.le_of_ble_eq_true rfl⟩ rfl (Nat.le_of_ble_eq_true rfl) dX4_chances_13 (fun h13 => ?_)
  refine q_nm (fun v16 e16 => ?_)
  refine q_istore F dX4_chances_16 [(6, .int (q_I v16)), (5, .int (q_I v8)), (0, .ref (q_ad G q)), (1, .ref (q_ad G o)), (2, .int (q_I g)), (3, .int (q_I p)), (4, .int (q_I t))] (Nat.le_of_ble_eq_true rfl) rfl ?_
  refine q_aload_n F dX4_chances_18 3 rfl ?_
  refine q_iload F dX4_chances_19 1 rfl ?_
  refine q_callVP (n := 1) (T := TX1) F (c_X1_hungry G hI M o ho v8 hvo (by omega)) rfl rfl ho.1 gX4_chances_X1_hungry rfl ⟨by decide, by decide, by decide +kernel⟩ rfl ⟨rfl, rfl, Nat.le_of_ble_eq_true rfl, Nat.le_of_ble_eq_true rfl⟩ rfl (Nat.le_of_ble_eq_true rfl) dX4_chances_21 (fun h21 => ?_)
  refine q_nm (fun v24 e24 => ?_)
  refine q_istore F dX4_chances_24 [(7, .int (q_I v24)), (6, .int (q_I v16)), (5, .int (q_I v8)), (0, .ref (q_ad G q)), (1, .ref (q_ad G o)), (2, .int (q_I g)), (3, .int (q_I p)), (4, .int (q_I t))] (Nat.le_of_ble_eq_true rfl) rfl ?_
  have hS1 : 0 ≤ v16 ∧ v16 ≤ 63 := by rw [e16]; exact q_set_R _
  have hS2 : 0 ≤ v24 ∧ v24 ≤ 63 := by rw [e24]; exact q_set_R _
  have hcR := fun c (h : 0 ≤ c ∧ c ≤ 63) => q_chT_R (h := M (o + 1)) (f := M (o + 2)) (hun := v24) (g := g) (p := p) hS1 h hg.2.2
  refine q_iconst F dX4_chances_26 ?_
  refine q_istore F dX4_chances_27 [(8, .int (q_I 0)), (7, .int (q_I v24)), (6, .int (q_I v16)), (5, .int (q_I v8)), (0, .ref (q_ad G q)), (1, .ref (q_ad G o)), (2, .int (q_I g)), (3, .int (q_I p)), (4, .int (q_I t))] (Nat.le_of_ble_eq_true rfl) rfl ?_
  refine q_iconst F dX4_chances_29 ?_
  refine q_istore F dX4_chances_30 [(9, .int (q_I 0)), (8, .int (q_I 0)), (7, .int (q_I v24)), (6, .int (q_I v16)), (5, .int (q_I v8)), (0, .ref (q_ad G q)), (1, .ref (q_ad G o)), (2, .int (q_I g)), (3, .int (q_I p)), (4, .int (q_I t))] (Nat.le_of_ble_eq_true rfl) rfl ?_
  have lp32_1 : ∀ (k32_1 : Nat) (z : Int) (c : Int) (M1 : q_M), ((0 ≤ c ∧ c ≤ 64) ∧ (z = q_smN (q_chT (M (o + 1)) (M (o + 2)) v16 v24 g p t) c.toNat) ∧ q_fr (q + 1) M M1 ∧ (q_has v24 g = true ∨ c = 0)) → (64 - c).toNat = k32_1 → q_Y G E 10 M1 [(0, .ref (q_ad G q)), (1, .ref (q_ad G o)), (2, .int (q_I g)), (3, .int (q_I p)), (4, .int (q_I t)), (5, .int (q_I v8)), (6, .int (q_I v16)), (7, .int (q_I v24)), (8, .int (q_I z)), (9, .int (q_I c))] 32 [] := by
    intro k32_1
    induction k32_1 using Nat.strongRecOn with
    | _ k32_1 ih32_1 =>
      intro z c  M1 hi32 hk32
      refine q_MRof (fun hM32 => ?_)
      have hv1 : q_cv M1 o := q_cv_fr hvo hi32.2.2.1 (by omega)
      have hzR := q_smN_R (F := q_chT (M (o + 1)) (M (o + 2)) v16 v24 g p t) (K := 1000000) c.toNat (fun r h0 h1 => hcR r (by omega))
      rw [← hi32.2.1] at hzR
      refine q_iload F dX4_chances_32 9 rfl ?_
      refine q_bipush F dX4_chances_34 (by decide) ?_
      refine q_icmp_ge F 103 dX4_chances_36 (by decide) (by omega) (fun c36 => ?_) (fun c36 => ?_)
      · refine q_iload F dX4_chances_103 8 rfl ?_
        exact q_iret F FI dX4_chances_105 (by omega) (by
      refine ⟨?_, hi32.2.2.1, by omega⟩
      unfold q_ch
      have hh : q_has v24 g = q_hun (M (o + 1)) (M (o + 3)) (M o 4) (M (o + 3) g) g := by rw [e24, q_has_set hg.1.1 hg.1.2, e8]
      rw [if_pos (by rw [← hh]; exact hi32.2.2.2.resolve_right (by omega)), hi32.2.1, show c.toNat = 64 by omega, e16, e24, e8])
      · refine q_iload F dX4_chances_39 7 rfl ?_
        refine q_iload_n F dX4_chances_41 2 rfl ?_
        refine q_callNP (n := 2) F (c_X8_holds G hI M1 v24 g (by omega)) rfl gX4_chances_X8_holds_n40 (host := RX8) (by decide +kernel) (by decide +kernel) (by decide +kernel) ⟨by decide, by decide, by decide +kernel⟩ rfl ⟨rfl, rfl, Nat.le_of_ble_eq_true rfl, Nat.le_of_ble_eq_true rfl⟩ rfl (Nat.le_of_ble_eq_true rfl) dX4_chances_42 (fun h42 => ?_)
        refine q_ifb_eq F 103 dX4_chances_45 (by decide) (fun c45 => ?_) (fun c45 => ?_)
        · refine q_iload F dX4_chances_103 8 rfl ?_
          exact q_iret F FI dX4_chances_105 (by omega) (by
      refine ⟨?_, hi32.2.2.1, by omega⟩
      unfold q_ch
      have hh : q_has v24 g = q_hun (M (o + 1)) (M (o + 3)) (M o 4) (M (o + 3) g) g := by rw [e24, q_has_set hg.1.1 hg.1.2, e8]
      rw [if_neg (by rw [← hh]; simp [c45])]
      have hc0 : c = 0 := by
        rcases hi32.2.2.2 with h | h
        · rw [h] at c45
          cases c45
        · exact h
      rw [hi32.2.1, hc0]
      rfl)
        · refine q_iload F dX4_chances_48 9 rfl ?_
          refine q_iload F dX4_chances_50 6 rfl ?_
          refine q_iconst F dX4_chances_52 ?_
          refine q_ixor F dX4_chances_53 (fun z53 e53 h53 => ?_)
          refine q_iand F dX4_chances_54 (fun z54 e54 h54 => ?_)
          refine q_if_ne F 97 dX4_chances_55 (by decide) (by omega) (fun c55 => ?_) (fun c55 => ?_)
          · obtain ⟨v97, e97⟩ : ∃ z_ : Int, z_ = c + 1 := ⟨_, rfl⟩
            refine q_iinc F dX4_chances_97 9 rfl e97 [(9, .int (q_I v97)), (0, .ref (q_ad G q)), (1, .ref (q_ad G o)), (2, .int (q_I g)), (3, .int (q_I p)), (4, .int (q_I t)), (5, .int (q_I v8)), (6, .int (q_I v16)), (7, .int (q_I v24)), (8, .int (q_I z))] (Nat.le_of_ble_eq_true rfl) rfl ?_
            refine q_goto F 32 dX4_chances_100 (by decide) ?_
            refine q_drop [1, 2, 3, 4, 5, 6, 7, 8, 9, 0] rfl ?_
            exact ih32_1 _ (by omega) z v97 M1 ⟨by omega, by rw [show v97.toNat = c.toNat + 1 by omega, q_smN_s, Int.toNat_of_nonneg hi32.1.1, ← hi32.2.1]; unfold q_chT; rw [if_neg (by rw [← e53, ← e54]; exact c55), Int.add_zero], hi32.2.2.1, Or.inl c45⟩ rfl
          · refine q_aload_n F dX4_chances_58 0 rfl ?_
            refine q_aload_n F dX4_chances_59 1 rfl ?_
            refine q_iload F dX4_chances_60 9 rfl ?_
            refine q_callVV (n := 2) (T := TX4) F (c_X4_showAll G hI M1 q hq o ho c hv1 (by omega) (by omega)) rfl rfl hq.1 gX4_chances_X4_showAll rfl ⟨by decide, by decide, by decide +kernel⟩ rfl ⟨rfl, rfl, Nat.le_of_ble_eq_true rfl, Nat.le_of_ble_eq_true rfl⟩ rfl (Nat.le_of_ble_eq_true rfl) dX4_chances_62 (fun N62 p62 => ?_)
            refine q_iload F dX4_chances_65 8 rfl ?_
            refine q_iload_n F dX4_chances_67 2 rfl ?_
            refine q_aload_n F dX4_chances_68 0 rfl ?_
            refine q_getr (T := TX4) (ref := "LeastHungry$Places") F huX4 rfl hq.1 0 (by decide) (by decide +kernel) rfl rfl dX4_chances_69 ?_
            refine q_iload F dX4_chances_72 7 rfl ?_
            refine q_callNP (n := 3) F (c_X8_placeOf G hI N62 g (q + 1) v24 hq.2 (by omega)) rfl gX4_chances_X8_placeOf_n48 (host := RX8) (by decide +kernel) (by decide +kernel) (by decide +kernel) ⟨by decide, by decide, by decide +kernel⟩ rfl ⟨rfl, rfl, Nat.le_of_ble_eq_true rfl, Nat.le_of_ble_eq_true rfl⟩ rfl (Nat.le_of_ble_eq_true rfl) dX4_chances_74 (fun h74 => ?_)
            have hpR := q_place_R (N62 (q + 1)) v24 g
            have epl : q_place (N62 (q + 1)) v24 g = q_place (q_shA (M (o + 1)) (M (o + 2)) c) v24 g := q_place_congr (fun x x0 x1 => by rw [p62.2 x x0 x1, hi32.2.2.1 _ (by omega), hi32.2.2.1 _ (by omega)]) hg.1.1 hg.1.2
            refine q_iload_n F dX4_chances_77 3 rfl ?_
            refine q_icmp_ge F 93 dX4_chances_78 (by decide) (by omega) (fun c78 => ?_) (fun c78 => ?_)
            · refine q_iconst F dX4_chances_93 ?_
              refine q_iadd F dX4_chances_94 ?_
              refine q_nm (fun v95 e95 => ?_)
              refine q_istore F dX4_chances_95 [(8, .int (q_I v95)), (0, .ref (q_ad G q)), (1, .ref (q_ad G o)), (2, .int (q_I g)), (3, .int (q_I p)), (4, .int (q_I t)), (5, .int (q_I v8)), (6, .int (q_I v16)), (7, .int (q_I v24)), (9, .int (q_I c))] (Nat.le_of_ble_eq_true rfl) rfl ?_
              obtain ⟨v97, e97⟩ : ∃ z_ : Int, z_ = c + 1 := ⟨_, rfl⟩
              refine q_iinc F dX4_chances_97 9 rfl e97 [(9, .int (q_I v97)), (8, .int (q_I v95)), (0, .ref (q_ad G q)), (1, .ref (q_ad G o)), (2, .int (q_I g)), (3, .int (q_I p)), (4, .int (q_I t)), (5, .int (q_I v8)), (6, .int (q_I v16)), (7, .int (q_I v24))] (Nat.le_of_ble_eq_true rfl) rfl ?_
              refine q_goto F 32 dX4_chances_100 (by decide) ?_
              refine q_drop [2, 3, 4, 5, 6, 7, 8, 9, 1, 0] rfl ?_
              exact ih32_1 _ (by omega) v95 v97 N62 ⟨by omega, by rw [show v97.toNat = c.toNat + 1 by omega, q_smN_s, Int.toNat_of_nonneg hi32.1.1, ← hi32.2.1]; unfold q_chT; rw [if_pos (by rw [← e53, ← e54]; exact c55), ← epl, if_neg (by omega), e95, Int.add_zero], q_fr_tr hi32.2.2.1 p62.1, Or.inl c45⟩ rfl
            · refine q_iload F dX4_chances_81 6 rfl ?_
              refine q_iload F dX4_chances_83 9 rfl ?_
              refine q_iload F dX4_chances_85 4 rfl ?_
              refine q_callSP (n := 3) F (c_X4_weight G hI N62 v16 c t (by omega)) rfl gX4_chances_X4_weight ⟨by decide, by decide, by decide +kernel⟩ rfl ⟨rfl, rfl, Nat.le_of_ble_eq_true rfl, Nat.le_of_ble_eq_true rfl⟩ rfl (Nat.le_of_ble_eq_true rfl) dX4_chances_87 (fun h87 => ?_)
              have hwR := q_wgt_R hS1 (show 0 ≤ c ∧ c ≤ 63 by omega) hg.2.2
              refine q_goto F 94 dX4_chances_90 (by decide) ?_
              refine q_iadd F dX4_chances_94 ?_
              refine q_nm (fun v95 e95 => ?_)
              refine q_istore F dX4_chances_95 [(8, .int (q_I v95)), (0, .ref (q_ad G q)), (1, .ref (q_ad G o)), (2, .int (q_I g)), (3, .int (q_I p)), (4, .int (q_I t)), (5, .int (q_I v8)), (6, .int (q_I v16)), (7, .int (q_I v24)), (9, .int (q_I c))] (Nat.le_of_ble_eq_true rfl) rfl ?_
              obtain ⟨v97, e97⟩ : ∃ z_ : Int, z_ = c + 1 := ⟨_, rfl⟩
              refine q_iinc F dX4_chances_97 9 rfl e97 [(9, .int (q_I v97)), (8, .int (q_I v95)), (0, .ref (q_ad G q)), (1, .ref (q_ad G o)), (2, .int (q_I g)), (3, .int (q_I p)), (4, .int (q_I t)), (5, .int (q_I v8)), (6, .int (q_I v16)), (7, .int (q_I v24))] (Nat.le_of_ble_eq_true rfl) rfl ?_
              refine q_goto F 32 dX4_chances_100 (by decide) ?_
              refine q_drop [2, 3, 4, 5, 6, 7, 8, 9, 1, 0] rfl ?_
              exact ih32_1 _ (by omega) v95 v97 N62 ⟨by omega, by rw [show v97.toNat = c.toNat + 1 by omega, q_smN_s, Int.toNat_of_nonneg hi32.1.1, ← hi32.2.1]; unfold q_chT; rw [if_pos (by rw [← e53, ← e54]; exact c55), ← epl, if_pos c78, e95], q_fr_tr hi32.2.2.1 p62.1, Or.inl c45⟩ rfl
  refine q_drop [5, 6, 7, 8, 9, 4, 3, 2, 1, 0] rfl ?_
  exact lp32_1 _ 0 0 M ⟨by omega, rfl, q_fr_rf, Or.inr rfl⟩ rfl

set_option maxHeartbeats 4000000 in
set_option maxRecDepth 100000 in
theorem c_X8_lowestTerm (G : q_G) (hI : q_inj G) (M : q_M) (up : Int) (lo : Int) (pt : Int) (hu : (0 ≤ up ∧ up ≤ 64000000) ∧ (0 ≤ lo ∧ lo ≤ 1000000) ∧ (pt = 0 ∨ pt = 1)) : q_CL G yX8_lowestTerm wsX8_lowestTerm ({ frames := 0, cells := 0, slots := 0, locals := 0 } : Room) [.int (q_I up), .int (q_I lo), .int (q_I pt)] M (fun r M' => r = q_J (if pt = 0 then (q_lo 6 (up, lo)).1 else (q_lo 6 (up, lo)).2) ∧ M' = M) := by
  refine q_CL.of hI (by decide) rfl RX8 rfl [(0, .int (q_I up)), (1, .int (q_I lo)), (2, .int (q_I pt))] rfl (Nat.le_of_ble_eq_true rfl) (fun E F FL => ?_)
  refine q_MRof (fun hM => ?_)
  refine q_iload_n F dX8_lowestTerm_0 0 rfl ?_
  refine q_istore_n F dX8_lowestTerm_1 [(3, .int (q_I up)), (0, .int (q_I up)), (1, .int (q_I lo)), (2, .int (q_I pt))] (Nat.le_of_ble_eq_true rfl) rfl ?_
  refine q_iload_n F dX8_lowestTerm_2 2 rfl ?_
  refine q_istore F dX8_lowestTerm_3 [(4, .int (q_I lo)), (3, .int (q_I up)), (0, .int (q_I up)), (1, .int (q_I lo)), (2, .int (q_I pt))] (Nat.le_of_ble_eq_true rfl) rfl ?_
  refine q_iconst F dX8_lowestTerm_5 ?_
  refine q_istore F dX8_lowestTerm_6 [(5, .int (q_I 0)), (4, .int (q_I lo)), (3, .int (q_I up)), (0, .int (q_I up)), (1, .int (q_I lo)), (2, .int (q_I pt))] (Nat.le_of_ble_eq_true rfl) rfl ?_
  have lp8_1 : ∀ (k8_1 : Nat) (u : Int) (l : Int) (i : Int), ((0 ≤ i ∧ i ≤ 6) ∧ (0 ≤ u ∧ u ≤ up) ∧ (0 ≤ l ∧ l ≤ lo) ∧ (u, l) = q_lo i.toNat (up, lo)) → (6 - i).toNat = k8_1 → q_Y G E 6 M [(2, .int (q_I pt)), (3, .int (q_I u)), (4, .int (q_I l)), (5, .int (q_I i))] 8 [] := by
    intro k8_1
    induction k8_1 using Nat.strongRecOn with
    | _ k8_1 ih8_1 =>
      intro u l i   hi8 hk8
      refine q_iload F dX8_lowestTerm_8 3 rfl ?_
      refine q_bipush F dX8_lowestTerm_10 (by decide) ?_
      refine q_icmp_ge F 67 dX8_lowestTerm_12 (by decide) (by omega) (fun c12 => ?_) (fun c12 => ?_)
      · refine q_iload_n F dX8_lowestTerm_67 0 rfl ?_
        refine q_if_ne F 76 dX8_lowestTerm_68 (by decide) (by omega) (fun c68 => ?_) (fun c68 => ?_)
        · refine q_iload F dX8_lowestTerm_76 2 rfl ?_
          refine q_i2l F dX8_lowestTerm_78 (by omega) ?_
          exact q_lret F FL dX8_lowestTerm_79 ⟨by have h := hi8.2.2.2; rw [show i.toNat = 6 by omega] at h; rw [if_neg c68, ← h], rfl⟩
        · refine q_iload_n F dX8_lowestTerm_71 1 rfl ?_
          refine q_i2l F dX8_lowestTerm_72 (by omega) ?_
          refine q_goto F 79 dX8_lowestTerm_73 (by decide) ?_
          exact q_lret F FL dX8_lowestTerm_79 ⟨by have h := hi8.2.2.2; rw [show i.toNat = 6 by omega] at h; rw [if_pos c68, ← h], rfl⟩
      · refine q_iload_n F dX8_lowestTerm_15 1 rfl ?_
        refine q_iconst F dX8_lowestTerm_16 ?_
        refine q_irem F dX8_lowestTerm_17 (by omega) ?_
        refine q_if_ne F 38 dX8_lowestTerm_18 (by decide) (by omega) (fun c18 => ?_) (fun c18 => ?_)
        · refine q_iload_n F dX8_lowestTerm_38 1 rfl ?_
          refine q_iconst F dX8_lowestTerm_39 ?_
          refine q_irem F dX8_lowestTerm_40 (by omega) ?_
          refine q_if_ne F 61 dX8_lowestTerm_41 (by decide) (by omega) (fun c41 => ?_) (fun c41 => ?_)
          · obtain ⟨v61, e61⟩ : ∃ z_ : Int, z_ = i + 1 := ⟨_, rfl⟩
            refine q_iinc F dX8_lowestTerm_61 3 rfl e61 [(5, .int (q_I v61)), (2, .int (q_I pt)), (3, .int (q_I u)), (4, .int (q_I l))] (Nat.le_of_ble_eq_true rfl) rfl ?_
            refine q_goto F 8 dX8_lowestTerm_64 (by decide) ?_
            refine q_drop [1, 2, 3, 0] rfl ?_
            exact ih8_1 _ (by omega) u l v61 ⟨by omega, by omega, by omega, by
      have h2 : q_l2 2 (u, l) = (u, l) := by unfold q_l2; rw [if_neg (fun h => c18 h.1)]
      have h5 : q_l2 5 (u, l) = (u, l) := by unfold q_l2; rw [if_neg (fun h => c41 h.1)]
      rw [show v61.toNat = i.toNat + 1 by omega]
      show _ = q_l2 5 (q_l2 2 (q_lo i.toNat (up, lo)))
      rw [← hi8.2.2.2, h2, h5]⟩ rfl
          · refine q_iload F dX8_lowestTerm_44 2 rfl ?_
            refine q_iconst F dX8_lowestTerm_46 ?_
            refine q_irem F dX8_lowestTerm_47 (by omega) ?_
            refine q_if_ne F 61 dX8_lowestTerm_48 (by decide) (by omega) (fun c48 => ?_) (fun c48 => ?_)
            · obtain ⟨v61, e61⟩ : ∃ z_ : Int, z_ = i + 1 := ⟨_, rfl⟩
              refine q_iinc F dX8_lowestTerm_61 3 rfl e61 [(5, .int (q_I v61)), (2, .int (q_I pt)), (3, .int (q_I u)), (4, .int (q_I l))] (Nat.le_of_ble_eq_true rfl) rfl ?_
              refine q_goto F 8 dX8_lowestTerm_64 (by decide) ?_
              refine q_drop [1, 2, 3, 0] rfl ?_
              exact ih8_1 _ (by omega) u l v61 ⟨by omega, by omega, by omega, by
      have h2 : q_l2 2 (u, l) = (u, l) := by unfold q_l2; rw [if_neg (fun h => c18 h.1)]
      have h5 : q_l2 5 (u, l) = (u, l) := by unfold q_l2; rw [if_neg (fun h => c48 h.2)]
      rw [show v61.toNat = i.toNat + 1 by omega]
      show _ = q_l2 5 (q_l2 2 (q_lo i.toNat (up, lo)))
      rw [← hi8.2.2.2, h2, h5]⟩ rfl
            · refine q_iload_n F dX8_lowestTerm_51 1 rfl ?_
              refine q_iconst F dX8_lowestTerm_52 ?_
              refine q_idiv F dX8_lowestTerm_53 (by omega) ?_
              refine q_nm (fun v54 e54 => ?_)
              refine q_istore_n F dX8_lowestTerm_54 [(3, .int (q_I v54)), (2, .int (q_I pt)), (4, .int (q_I l)), (5, .int (q_I i))] (Nat.le_of_ble_eq_true rfl) rfl ?_
              refine q_iload F dX8_lowestTerm_55 2 rfl ?_
              refine q_iconst F dX8_lowestTerm_57 ?_
              refine q_idiv F dX8_lowestTerm_58 (by omega) ?_
              refine q_nm (fun v59 e59 => ?_)
              refine q_istore F dX8_lowestTerm_59 [(4, .int (q_I v59)), (3, .int (q_I v54)), (2, .int (q_I pt)), (5, .int (q_I i))] (Nat.le_of_ble_eq_true rfl) rfl ?_
              obtain ⟨v61, e61⟩ : ∃ z_ : Int, z_ = i + 1 := ⟨_, rfl⟩
              refine q_iinc F dX8_lowestTerm_61 3 rfl e61 [(5, .int (q_I v61)), (4, .int (q_I v59)), (3, .int (q_I v54)), (2, .int (q_I pt))] (Nat.le_of_ble_eq_true rfl) rfl ?_
              refine q_goto F 8 dX8_lowestTerm_64 (by decide) ?_
              refine q_drop [3, 2, 1, 0] rfl ?_
              exact ih8_1 _ (by omega) v54 v59 v61 ⟨by omega, by omega, by omega, by
      have h2 : q_l2 2 (u, l) = (u, l) := by unfold q_l2; rw [if_neg (fun h => c18 h.1)]
      have h5 : q_l2 5 (u, l) = (v54, v59) := by unfold q_l2; rw [if_pos ⟨c41, c48⟩, e54, e59]
      rw [show v61.toNat = i.toNat + 1 by omega]
      show _ = q_l2 5 (q_l2 2 (q_lo i.toNat (up, lo)))
      rw [← hi8.2.2.2, h2, h5]⟩ rfl
        · refine q_iload F dX8_lowestTerm_21 2 rfl ?_
          refine q_iconst F dX8_lowestTerm_23 ?_
          refine q_irem F dX8_lowestTerm_24 (by omega) ?_
          refine q_if_ne F 38 dX8_lowestTerm_25 (by decide) (by omega) (fun c25 => ?_) (fun c25 => ?_)
          · refine q_iload_n F dX8_lowestTerm_38 1 rfl ?_
            refine q_iconst F dX8_lowestTerm_39 ?_
            refine q_irem F dX8_lowestTerm_40 (by omega) ?_
            refine q_if_ne F 61 dX8_lowestTerm_41 (by decide) (by omega) (fun c41 => ?_) (fun c41 => ?_)
            · obtain ⟨v61, e61⟩ : ∃ z_ : Int, z_ = i + 1 := ⟨_, rfl⟩
              refine q_iinc F dX8_lowestTerm_61 3 rfl e61 [(5, .int (q_I v61)), (2, .int (q_I pt)), (3, .int (q_I u)), (4, .int (q_I l))] (Nat.le_of_ble_eq_true rfl) rfl ?_
              refine q_goto F 8 dX8_lowestTerm_64 (by decide) ?_
              refine q_drop [1, 2, 3, 0] rfl ?_
              exact ih8_1 _ (by omega) u l v61 ⟨by omega, by omega, by omega, by
      have h2 : q_l2 2 (u, l) = (u, l) := by unfold q_l2; rw [if_neg (fun h => c25 h.2)]
      have h5 : q_l2 5 (u, l) = (u, l) := by unfold q_l2; rw [if_neg (fun h => c41 h.1)]
      rw [show v61.toNat = i.toNat + 1 by omega]
      show _ = q_l2 5 (q_l2 2 (q_lo i.toNat (up, lo)))
      rw [← hi8.2.2.2, h2, h5]⟩ rfl
            · refine q_iload F dX8_lowestTerm_44 2 rfl ?_
              refine q_iconst F dX8_lowestTerm_46 ?_
              refine q_irem F dX8_lowestTerm_47 (by omega) ?_
              refine q_if_ne F 61 dX8_lowestTerm_48 (by decide) (by omega) (fun c48 => ?_) (fun c48 => ?_)
              · obtain ⟨v61, e61⟩ : ∃ z_ : Int, z_ = i + 1 := ⟨_, rfl⟩
                refine q_iinc F dX8_lowestTerm_61 3 rfl e61 [(5, .int (q_I v61)), (2, .int (q_I pt)), (3, .int (q_I u)), (4, .int (q_I l))] (Nat.le_of_ble_eq_true rfl) rfl ?_
                refine q_goto F 8 dX8_lowestTerm_64 (by decide) ?_
                refine q_drop [1, 2, 3, 0] rfl ?_
                exact ih8_1 _ (by omega) u l v61 ⟨by omega, by omega, by omega, by
      have h2 : q_l2 2 (u, l) = (u, l) := by unfold q_l2; rw [if_neg (fun h => c25 h.2)]
      have h5 : q_l2 5 (u, l) = (u, l) := by unfold q_l2; rw [if_neg (fun h => c48 h.2)]
      rw [show v61.toNat = i.toNat + 1 by omega]
      show _ = q_l2 5 (q_l2 2 (q_lo i.toNat (up, lo)))
      rw [← hi8.2.2.2, h2, h5]⟩ rfl
              · refine q_iload_n F dX8_lowestTerm_51 1 rfl ?_
                refine q_iconst F dX8_lowestTerm_52 ?_
                refine q_idiv F dX8_lowestTerm_53 (by omega) ?_
                refine q_nm (fun v54 e54 => ?_)
                refine q_istore_n F dX8_lowestTerm_54 [(3, .int (q_I v54)), (2, .int (q_I pt)), (4, .int (q_I l)), (5, .int (q_I i))] (Nat.le_of_ble_eq_true rfl) rfl ?_
                refine q_iload F dX8_lowestTerm_55 2 rfl ?_
                refine q_iconst F dX8_lowestTerm_57 ?_
                refine q_idiv F dX8_lowestTerm_58 (by omega) ?_
                refine q_nm (fun v59 e59 => ?_)
                refine q_istore F dX8_lowestTerm_59 [(4, .int (q_I v59)), (3, .int (q_I v54)), (2, .int (q_I pt)), (5, .int (q_I i))] (Nat.le_of_ble_eq_true rfl) rfl ?_
                obtain ⟨v61, e61⟩ : ∃ z_ : Int, z_ = i + 1 := ⟨_, rfl⟩
                refine q_iinc F dX8_lowestTerm_61 3 rfl e61 [(5, .int (q_I v61)), (4, .int (q_I v59)), (3, .int (q_I v54)), (2, .int (q_I pt))] (Nat.le_of_ble_eq_true rfl) rfl ?_
                refine q_goto F 8 dX8_lowestTerm_64 (by decide) ?_
                refine q_drop [3, 2, 1, 0] rfl ?_
                exact ih8_1 _ (by omega) v54 v59 v61 ⟨by omega, by omega, by omega, by
      have h2 : q_l2 2 (u, l) = (u, l) := by unfold q_l2; rw [if_neg (fun h => c25 h.2)]
      have h5 : q_l2 5 (u, l) = (v54, v59) := by unfold q_l2; rw [if_pos ⟨c41, c48⟩, e54, e59]
      rw [show v61.toNat = i.toNat + 1 by omega]
      show _ = q_l2 5 (q_l2 2 (q_lo i.toNat (up, lo)))
      rw [← hi8.2.2.2, h2, h5]⟩ rfl
          · refine q_iload_n F dX8_lowestTerm_28 1 rfl ?_
            refine q_iconst F dX8_lowestTerm_29 ?_
            refine q_idiv F dX8_lowestTerm_30 (by omega) ?_
            refine q_nm (fun v31 e31 => ?_)
            refine q_istore_n F dX8_lowestTerm_31 [(3, .int (q_I v31)), (2, .int (q_I pt)), (4, .int (q_I l)), (5, .int (q_I i))] (Nat.le_of_ble_eq_true rfl) rfl ?_
            refine q_iload F dX8_lowestTerm_32 2 rfl ?_
            refine q_iconst F dX8_lowestTerm_34 ?_
            refine q_idiv F dX8_lowestTerm_35 (by omega) ?_
            refine q_nm (fun v36 e36 => ?_)
            refine q_istore F dX8_lowestTerm_36 [(4, .int (q_I v36)), (3, .int (q_I v31)), (2, .int (q_I pt)), (5, .int (q_I i))] (Nat.le_of_ble_eq_true rfl) rfl ?_
            refine q_iload_n F dX8_lowestTerm_38 1 rfl ?_
            refine q_iconst F dX8_lowestTerm_39 ?_
            refine q_irem F dX8_lowestTerm_40 (by omega) ?_
            refine q_if_ne F 61 dX8_lowestTerm_41 (by decide) (by omega) (fun c41 => ?_) (fun c41 => ?_)
            · obtain ⟨v61, e61⟩ : ∃ z_ : Int, z_ = i + 1 := ⟨_, rfl⟩
              refine q_iinc F dX8_lowestTerm_61 3 rfl e61 [(5, .int (q_I v61)), (4, .int (q_I v36)), (3, .int (q_I v31)), (2, .int (q_I pt))] (Nat.le_of_ble_eq_true rfl) rfl ?_
              refine q_goto F 8 dX8_lowestTerm_64 (by decide) ?_
              refine q_drop [3, 2, 1, 0] rfl ?_
              exact ih8_1 _ (by omega) v31 v36 v61 ⟨by omega, by omega, by omega, by
      have h2 : q_l2 2 (u, l) = (v31, v36) := by unfold q_l2; rw [if_pos ⟨c18, c25⟩, e31, e36]
      have h5 : q_l2 5 (v31, v36) = (v31, v36) := by unfold q_l2; rw [if_neg (fun h => c41 h.1)]
      rw [show v61.toNat = i.toNat + 1 by omega]
      show _ = q_l2 5 (q_l2 2 (q_lo i.toNat (up, lo)))
      rw [← hi8.2.2.2, h2, h5]⟩ rfl
            · refine q_iload F dX8_lowestTerm_44 0 rfl ?_
              refine q_iconst F dX8_lowestTerm_46 ?_
              refine q_irem F dX8_lowestTerm_47 (by omega) ?_
              refine q_if_ne F 61 dX8_lowestTerm_48 (by decide) (by omega) (fun c48 => ?_) (fun c48 => ?_)
              · obtain ⟨v61, e61⟩ : ∃ z_ : Int, z_ = i + 1 := ⟨_, rfl⟩
                refine q_iinc F dX8_lowestTerm_61 3 rfl e61 [(5, .int (q_I v61)), (4, .int (q_I v36)), (3, .int (q_I v31)), (2, .int (q_I pt))] (Nat.le_of_ble_eq_true rfl) rfl ?_
                refine q_goto F 8 dX8_lowestTerm_64 (by decide) ?_
                refine q_drop [3, 2, 1, 0] rfl ?_
                exact ih8_1 _ (by omega) v31 v36 v61 ⟨by omega, by omega, by omega, by
      have h2 : q_l2 2 (u, l) = (v31, v36) := by unfold q_l2; rw [if_pos ⟨c18, c25⟩, e31, e36]
      have h5 : q_l2 5 (v31, v36) = (v31, v36) := by unfold q_l2; rw [if_neg (fun h => c48 h.2)]
      rw [show v61.toNat = i.toNat + 1 by omega]
      show _ = q_l2 5 (q_l2 2 (q_lo i.toNat (up, lo)))
      rw [← hi8.2.2.2, h2, h5]⟩ rfl
              · refine q_iload_n F dX8_lowestTerm_51 1 rfl ?_
                refine q_iconst F dX8_lowestTerm_52 ?_
                refine q_idiv F dX8_lowestTerm_53 (by omega) ?_
                refine q_nm (fun v54 e54 => ?_)
                refine q_istore_n F dX8_lowestTerm_54 [(3, .int (q_I v54)), (4, .int (q_I v36)), (2, .int (q_I pt)), (5, .int (q_I i))] (Nat.le_of_ble_eq_true rfl) rfl ?_
                refine q_iload F dX8_lowestTerm_55 1 rfl ?_
                refine q_iconst F dX8_lowestTerm_57 ?_
                refine q_idiv F dX8_lowestTerm_58 (by omega) ?_
                refine q_nm (fun v59 e59 => ?_)
                refine q_istore F dX8_lowestTerm_59 [(4, .int (q_I v59)), (3, .int (q_I v54)), (2, .int (q_I pt)), (5, .int (q_I i))] (Nat.le_of_ble_eq_true rfl) rfl ?_
                obtain ⟨v61, e61⟩ : ∃ z_ : Int, z_ = i + 1 := ⟨_, rfl⟩
                refine q_iinc F dX8_lowestTerm_61 3 rfl e61 [(5, .int (q_I v61)), (4, .int (q_I v59)), (3, .int (q_I v54)), (2, .int (q_I pt))] (Nat.le_of_ble_eq_true rfl) rfl ?_
                refine q_goto F 8 dX8_lowestTerm_64 (by decide) ?_
                refine q_drop [3, 2, 1, 0] rfl ?_
                exact ih8_1 _ (by omega) v54 v59 v61 ⟨by omega, by omega, by omega, by
      have h2 : q_l2 2 (u, l) = (v31, v36) := by unfold q_l2; rw [if_pos ⟨c18, c25⟩, e31, e36]
      have h5 : q_l2 5 (v31, v36) = (v54, v59) := by unfold q_l2; rw [if_pos ⟨c41, c48⟩, e54, e59]
      rw [show v61.toNat = i.toNat + 1 by omega]
      show _ = q_l2 5 (q_l2 2 (q_lo i.toNat (up, lo)))
      rw [← hi8.2.2.2, h2, h5]⟩ rfl
  refine q_drop [5, 2, 1, 0] rfl ?_
  exact lp8_1 _ up lo 0 ⟨by omega, by omega, by omega, rfl⟩ rfl
