set_option maxHeartbeats 4000000 in
set_option maxRecDepth 100000 in
theorem c_X1_has (G : q_G) (hI : q_inj G) (M : q_M) (c : Nat) (hc : q_co G c) (g : Int) (hv : q_cv M c) (hg : -2147483648 ≤ g ∧ g ≤ 2147483647) : q_CI G yX1_has wsX1_has ({ frames := 1, cells := 0, slots := 0, locals := 21 } : Room) [.ref (q_ad G c), .int (q_I g)] M (fun z M' => z = q_b (q_has (M c 4) g) ∧ M' = M) := by
  refine q_CI.of hI (by decide) rfl RX1 rfl [(0, .ref (q_ad G c)), (1, .int (q_I g))] rfl (Nat.le_of_ble_eq_true rfl) (fun E F FI => ?_)
  have huX1 : ∀ w ∈ wsX10, w ∈ wsX1_has := by decide +kernel
  refine q_MRof (fun hM => ?_)
  have hv4 := hv.1
  have hv5 := hv.2.1
  refine q_aload_n F dX1_has_0 0 rfl ?_
  refine q_geti (T := TX1) (ref := "LeastHungry$Company") F huX1 rfl hc.1 4 (by decide) (by decide +kernel) rfl 4 rfl rfl dX1_has_1 (fun h1 => ?_)
  refine q_iload_n F dX1_has_4 1 rfl ?_
  refine q_callNP (n := 2) F (c_X8_holds G hI M _ g (by omega)) rfl gX1_has_X8_holds_n45 (host := RX8) (by decide +kernel) (by decide +kernel) (by decide +kernel) ⟨by decide, by decide, by decide +kernel⟩ rfl ⟨rfl, rfl, Nat.le_of_ble_eq_true rfl, Nat.le_of_ble_eq_true rfl⟩ rfl (Nat.le_of_ble_eq_true rfl) dX1_has_5 (fun h5 => ?_)
  exact q_zret F FI dX1_has_8 (by first | exact q_b01 _ | omega) ⟨rfl, rfl⟩

set_option maxHeartbeats 4000000 in
set_option maxRecDepth 100000 in
theorem c_X1_inside (G : q_G) (hI : q_inj G) (M : q_M) (c : Nat) (hc : q_co G c) (a : Int) (hv : q_cv M c) (ha : -2147483648 ≤ a ∧ a ≤ 2147483647) : q_CI G yX1_inside wsX1_inside ({ frames := 1, cells := 0, slots := 0, locals := 21 } : Room) [.ref (q_ad G c), .int (q_I a)] M (fun z M' => z = q_set (q_ins (M (c + 3)) (M c 4) a) ∧ M' = M) := by
  refine q_CI.of hI (by decide) rfl RX1 rfl [(0, .ref (q_ad G c)), (1, .int (q_I a))] rfl (Nat.le_of_ble_eq_true rfl) (fun E F FI => ?_)
  have huX1 : ∀ w ∈ wsX10, w ∈ wsX1_inside := by decide +kernel
  refine q_MRof (fun hM => ?_)
  have hv4 := hv.1
  have hv5 := hv.2.1
  refine q_iconst F dX1_inside_0 ?_
  refine q_istore_n F dX1_inside_1 [(2, .int (q_I 0)), (0, .ref (q_ad G c)), (1, .int (q_I a))] (Nat.le_of_ble_eq_true rfl) rfl ?_
  refine q_iconst F dX1_inside_2 ?_
  refine q_istore_n F dX1_inside_3 [(3, .int (q_I 0)), (2, .int (q_I 0)), (0, .ref (q_ad G c)), (1, .int (q_I a))] (Nat.le_of_ble_eq_true rfl) rfl ?_
  have lp4_1 : ∀ (k4_1 : Nat) (s : Int) (g : Int), (0 ≤ g ∧ g ≤ 6 ∧ s = q_set (q_lt (q_ins (M (c + 3)) (M c 4) a) g)) → (6 - g).toNat = k4_1 → q_Y G E 4 M [(0, .ref (q_ad G c)), (1, .int (q_I a)), (2, .int (q_I s)), (3, .int (q_I g))] 4 [] := by
    intro k4_1
    induction k4_1 using Nat.strongRecOn with
    | _ k4_1 ih4_1 =>
      intro s g   hi4 hk4
      refine q_iload_n F dX1_inside_4 3 rfl ?_
      refine q_aload_n F dX1_inside_5 0 rfl ?_
      refine q_getr (T := TX1) (ref := "LeastHungry$Company") F huX1 rfl hc.1 2 (by decide) (by decide +kernel) rfl rfl dX1_inside_6 ?_
      refine q_alen F 6 hc.2.2.2.1 rfl dX1_inside_9 ?_
      refine q_icmp_ge F 46 dX1_inside_10 (by decide) (by omega) (fun c10 => ?_) (fun c10 => ?_)
      · refine q_iload_n F dX1_inside_46 2 rfl ?_
        exact q_iret F FI dX1_inside_47 (by have := q_set_R (q_lt (q_ins (M (c + 3)) (M c 4) a) g); omega) (by obtain ⟨h1, h2, h3⟩ := hi4; rw [h3, show g = 6 by omega, q_set_6]; exact ⟨rfl, rfl⟩)
      · refine q_aload_n F dX1_inside_13 0 rfl ?_
        refine q_getr (T := TX1) (ref := "LeastHungry$Company") F huX1 rfl hc.1 2 (by decide) (by decide +kernel) rfl rfl dX1_inside_14 ?_
        refine q_iload_n F dX1_inside_17 3 rfl ?_
        refine q_iald F hc.2.2.2.1 (Nat.le_of_ble_eq_true rfl) (by omega) dX1_inside_18 (fun h18 => ?_)
        refine q_iload_n F dX1_inside_19 1 rfl ?_
        refine q_icmp_ne F 40 dX1_inside_20 (by decide) (by omega) (fun c20 => ?_) (fun c20 => ?_)
        · obtain ⟨v40, e40⟩ : ∃ z_ : Int, z_ = g + 1 := ⟨_, rfl⟩
          refine q_iinc F dX1_inside_40 3 rfl e40 [(3, .int (q_I v40)), (0, .ref (q_ad G c)), (1, .int (q_I a)), (2, .int (q_I s))] (Nat.le_of_ble_eq_true rfl) rfl ?_
          refine q_goto F 4 dX1_inside_43 (by decide) ?_
          refine q_drop [1, 2, 3, 0] rfl ?_
          exact ih4_1 _ (by omega) s v40 (by obtain ⟨h1, h2, h3⟩ := hi4; refine ⟨by omega, by omega, ?_⟩; rw [e40, q_set_step _ (by omega) (by omega)]; (rw [if_neg (by simp [q_ins, c20])]; exact h3)) rfl
        · refine q_aload_n F dX1_inside_23 0 rfl ?_
          refine q_geti (T := TX1) (ref := "LeastHungry$Company") F huX1 rfl hc.1 4 (by decide) (by decide +kernel) rfl 4 rfl rfl dX1_inside_24 (fun h24 => ?_)
          refine q_iload_n F dX1_inside_27 3 rfl ?_
          refine q_callNP (n := 2) F (c_X8_holds G hI M _ g (by omega)) rfl gX1_inside_X8_holds_n45 (host := RX8) (by decide +kernel) (by decide +kernel) (by decide +kernel) ⟨by decide, by decide, by decide +kernel⟩ rfl ⟨rfl, rfl, Nat.le_of_ble_eq_true rfl, Nat.le_of_ble_eq_true rfl⟩ rfl (Nat.le_of_ble_eq_true rfl) dX1_inside_28 (fun h28 => ?_)
          refine q_ifb_eq F 40 dX1_inside_31 (by decide) (fun c31 => ?_) (fun c31 => ?_)
          · obtain ⟨v40, e40⟩ : ∃ z_ : Int, z_ = g + 1 := ⟨_, rfl⟩
            refine q_iinc F dX1_inside_40 3 rfl e40 [(3, .int (q_I v40)), (0, .ref (q_ad G c)), (1, .int (q_I a)), (2, .int (q_I s))] (Nat.le_of_ble_eq_true rfl) rfl ?_
            refine q_goto F 4 dX1_inside_43 (by decide) ?_
            refine q_drop [1, 2, 3, 0] rfl ?_
            exact ih4_1 _ (by omega) s v40 (by obtain ⟨h1, h2, h3⟩ := hi4; refine ⟨by omega, by omega, ?_⟩; rw [e40, q_set_step _ (by omega) (by omega)]; (rw [if_neg (by simp [q_ins, c31])]; exact h3)) rfl
          · refine q_iload_n F dX1_inside_34 2 rfl ?_
            refine q_iconst F dX1_inside_35 ?_
            refine q_iload_n F dX1_inside_36 3 rfl ?_
            refine q_ishl F dX1_inside_37 (fun z37 e37 h37 => ?_)
            refine q_ior F dX1_inside_38 (fun z38 e38 h38 => ?_)
            refine q_istore_n F dX1_inside_39 [(2, .int (q_I z38)), (0, .ref (q_ad G c)), (1, .int (q_I a)), (3, .int (q_I g))] (Nat.le_of_ble_eq_true rfl) rfl ?_
            obtain ⟨v40, e40⟩ : ∃ z_ : Int, z_ = g + 1 := ⟨_, rfl⟩
            refine q_iinc F dX1_inside_40 3 rfl e40 [(3, .int (q_I v40)), (2, .int (q_I z38)), (0, .ref (q_ad G c)), (1, .int (q_I a))] (Nat.le_of_ble_eq_true rfl) rfl ?_
            refine q_goto F 4 dX1_inside_43 (by decide) ?_
            refine q_drop [2, 3, 1, 0] rfl ?_
            exact ih4_1 _ (by omega) z38 v40 (by obtain ⟨h1, h2, h3⟩ := hi4; refine ⟨by omega, by omega, ?_⟩; rw [e40, q_set_step _ (by omega) (by omega)]; (rw [if_pos (by simp [q_ins, c20, c31])]; rw [e38, e37, h3])) rfl
  refine q_drop [2, 3, 1, 0] rfl ?_
  exact lp4_1 _ 0 0 ⟨by omega, by omega, (q_set_0 _).symm⟩ rfl

set_option maxHeartbeats 4000000 in
set_option maxRecDepth 100000 in
theorem c_X1_hungry (G : q_G) (hI : q_inj G) (M : q_M) (c : Nat) (hc : q_co G c) (a : Int) (hv : q_cv M c) (ha : -2147483648 ≤ a ∧ a ≤ 2147483647) : q_CI G yX1_hungry wsX1_hungry ({ frames := 2, cells := 0, slots := 0, locals := 44 } : Room) [.ref (q_ad G c), .int (q_I a)] M (fun z M' => z = q_set (q_hun (M (c + 1)) (M (c + 3)) (M c 4) a) ∧ M' = M) := by
  refine q_CI.of hI (by decide) rfl RX1 rfl [(0, .ref (q_ad G c)), (1, .int (q_I a))] rfl (Nat.le_of_ble_eq_true rfl) (fun E F FI => ?_)
  have huX1 : ∀ w ∈ wsX10, w ∈ wsX1_hungry := by decide +kernel
  refine q_MRof (fun hM => ?_)
  have hv4 := hv.1
  have hv5 := hv.2.1
  refine q_aload_n F dX1_hungry_0 0 rfl ?_
  refine q_iload_n F dX1_hungry_1 1 rfl ?_
  refine q_callVP (n := 1) (T := TX1) F (c_X1_inside G hI M c hc a (by assumption) (by omega)) rfl rfl hc.1 gX1_hungry_X1_inside rfl ⟨by decide, by decide, by decide +kernel⟩ rfl ⟨rfl, rfl, Nat.le_of_ble_eq_true rfl, Nat.le_of_ble_eq_true rfl⟩ rfl (Nat.le_of_ble_eq_true rfl) dX1_hungry_2 (fun h2 => ?_)
  refine q_aload_n F dX1_hungry_5 0 rfl ?_
  refine q_getr (T := TX1) (ref := "LeastHungry$Company") F huX1 rfl hc.1 0 (by decide) (by decide +kernel) rfl rfl dX1_hungry_6 ?_
  refine q_callNP (n := 1) F (c_X8_thoseWithAny G hI M (c + 1) hc.2.1) rfl gX1_hungry_X8_thoseWithAny_n52 (host := RX8) (by decide +kernel) (by decide +kernel) (by decide +kernel) ⟨by decide, by decide, by decide +kernel⟩ rfl ⟨rfl, rfl, Nat.le_of_ble_eq_true rfl, Nat.le_of_ble_eq_true rfl⟩ rfl (Nat.le_of_ble_eq_true rfl) dX1_hungry_9 (fun h9 => ?_)
  refine q_iand F dX1_hungry_12 (fun z12 e12 h12 => ?_)
  exact q_iret F FI dX1_hungry_13 (by omega) (by rw [e12, q_and_set]; exact ⟨rfl, rfl⟩)

set_option maxHeartbeats 4000000 in
set_option maxRecDepth 100000 in
theorem c_X1_feigners (G : q_G) (hI : q_inj G) (M : q_M) (c : Nat) (hc : q_co G c) (a : Int) (hv : q_cv M c) (ha : -2147483648 ≤ a ∧ a ≤ 2147483647) : q_CI G yX1_feigners wsX1_feigners ({ frames := 2, cells := 0, slots := 0, locals := 44 } : Room) [.ref (q_ad G c), .int (q_I a)] M (fun z M' => z = q_set (fun x => q_ins (M (c + 3)) (M c 4) a x && decide (0 < (M (c + 2)) x)) ∧ M' = M) := by
  refine q_CI.of hI (by decide) rfl RX1 rfl [(0, .ref (q_ad G c)), (1, .int (q_I a))] rfl (Nat.le_of_ble_eq_true rfl) (fun E F FI => ?_)
  have huX1 : ∀ w ∈ wsX10, w ∈ wsX1_feigners := by decide +kernel
  refine q_MRof (fun hM => ?_)
  have hv4 := hv.1
  have hv5 := hv.2.1
  refine q_aload_n F dX1_feigners_0 0 rfl ?_
  refine q_iload_n F dX1_feigners_1 1 rfl ?_
  refine q_callVP (n := 1) (T := TX1) F (c_X1_inside G hI M c hc a (by assumption) (by omega)) rfl rfl hc.1 gX1_feigners_X1_inside rfl ⟨by decide, by decide, by decide +kernel⟩ rfl ⟨rfl, rfl, Nat.le_of_ble_eq_true rfl, Nat.le_of_ble_eq_true rfl⟩ rfl (Nat.le_of_ble_eq_true rfl) dX1_feigners_2 (fun h2 => ?_)
  refine q_aload_n F dX1_feigners_5 0 rfl ?_
  refine q_getr (T := TX1) (ref := "LeastHungry$Company") F huX1 rfl hc.1 1 (by decide) (by decide +kernel) rfl rfl dX1_feigners_6 ?_
  refine q_callNP (n := 1) F (c_X8_thoseWithAny G hI M (c + 2) hc.2.2.1) rfl gX1_feigners_X8_thoseWithAny_n52 (host := RX8) (by decide +kernel) (by decide +kernel) (by decide +kernel) ⟨by decide, by decide, by decide +kernel⟩ rfl ⟨rfl, rfl, Nat.le_of_ble_eq_true rfl, Nat.le_of_ble_eq_true rfl⟩ rfl (Nat.le_of_ble_eq_true rfl) dX1_feigners_9 (fun h9 => ?_)
  refine q_iand F dX1_feigners_12 (fun z12 e12 h12 => ?_)
  exact q_iret F FI dX1_feigners_13 (by omega) (by rw [e12, q_and_set]; exact ⟨rfl, rfl⟩)

set_option maxHeartbeats 4000000 in
set_option maxRecDepth 100000 in
theorem c_X1_shownBy (G : q_G) (hI : q_inj G) (M : q_M) (c : Nat) (hc : q_co G c) (g : Int) (hv : q_cv M c) (hg : 0 ≤ g ∧ g < 6) : q_CI G yX1_shownBy wsX1_shownBy ({ frames := 1, cells := 0, slots := 0, locals := 21 } : Room) [.ref (q_ad G c), .int (q_I g)] M (fun z M' => z = q_shn (M (c + 1)) (M (c + 2)) g ∧ M' = M) := by
  refine q_CI.of hI (by decide) rfl RX1 rfl [(0, .ref (q_ad G c)), (1, .int (q_I g))] rfl (Nat.le_of_ble_eq_true rfl) (fun E F FI => ?_)
  have huX1 : ∀ w ∈ wsX10, w ∈ wsX1_shownBy := by decide +kernel
  refine q_MRof (fun hM => ?_)
  have hv4 := hv.1
  have hv5 := hv.2.1
  have hvh := hv.2.2.1 g hg.1 hg.2
  have hvf := hv.2.2.2.1 g hg.1 hg.2
  refine q_iconst F dX1_shownBy_0 ?_
  refine q_aload_n F dX1_shownBy_1 0 rfl ?_
  refine q_getr (T := TX1) (ref := "LeastHungry$Company") F huX1 rfl hc.1 0 (by decide) (by decide +kernel) rfl rfl dX1_shownBy_2 ?_
  refine q_iload_n F dX1_shownBy_5 1 rfl ?_
  refine q_callNP (n := 2) F (c_X8_at G hI M (c + 1) 6 hc.2.1 g (by omega)) rfl gX1_shownBy_X8_at_n59 (host := RX8) (by decide +kernel) (by decide +kernel) (by decide +kernel) ⟨by decide, by decide, by decide +kernel⟩ rfl ⟨rfl, rfl, Nat.le_of_ble_eq_true rfl, Nat.le_of_ble_eq_true rfl⟩ rfl (Nat.le_of_ble_eq_true rfl) dX1_shownBy_6 (fun h6 => ?_)
  refine q_aload_n F dX1_shownBy_9 0 rfl ?_
  refine q_getr (T := TX1) (ref := "LeastHungry$Company") F huX1 rfl hc.1 1 (by decide) (by decide +kernel) rfl rfl dX1_shownBy_10 ?_
  refine q_iload_n F dX1_shownBy_13 1 rfl ?_
  refine q_callNP (n := 2) F (c_X8_at G hI M (c + 2) 6 hc.2.2.1 g (by omega)) rfl gX1_shownBy_X8_at_n59 (host := RX8) (by decide +kernel) (by decide +kernel) (by decide +kernel) ⟨by decide, by decide, by decide +kernel⟩ rfl ⟨rfl, rfl, Nat.le_of_ble_eq_true rfl, Nat.le_of_ble_eq_true rfl⟩ rfl (Nat.le_of_ble_eq_true rfl) dX1_shownBy_14 (fun h14 => ?_)
  refine q_isub F dX1_shownBy_17 ?_
  refine q_mmax F (by omega) (by decide +kernel) (by decide +kernel) (by decide +kernel) (by decide +kernel) ⟨Nat.le_of_ble_eq_true rfl, Nat.le_of_ble_eq_true rfl⟩ dX1_shownBy_18 ?_
  exact q_iret F FI dX1_shownBy_21 (by omega) ⟨rfl, rfl⟩

set_option maxHeartbeats 4000000 in
set_option maxRecDepth 100000 in
theorem c_X1_allShown (G : q_G) (hI : q_inj G) (M : q_M) (c : Nat) (hc : q_co G c) (hv : q_cv M c) : q_CA G yX1_allShown wsX1_allShown ({ frames := 2, cells := 0, slots := 0, locals := 42 } : Room) [.ref (q_ad G c)] M (c + 4) (fun M' => q_fr (c + 4) M M' ∧ ∀ x, 0 ≤ x → x < 6 → M' (c + 4) x = q_shn (M (c + 1)) (M (c + 2)) x) := by
  refine q_CA.of hI (by decide) rfl RX1 rfl [(0, .ref (q_ad G c))] rfl (Nat.le_of_ble_eq_true rfl) (fun E F FA => ?_)
  have huX1 : ∀ w ∈ wsX10, w ∈ wsX1_allShown := by decide +kernel
  refine q_MRof (fun hM => ?_)
  have hv4 := hv.1
  have hv5 := hv.2.1
  refine q_iconst F dX1_allShown_0 ?_
  refine q_istore_n F dX1_allShown_1 [(1, .int (q_I 0)), (0, .ref (q_ad G c))] (Nat.le_of_ble_eq_true rfl) rfl ?_
  have lp2_1 : ∀ (k2_1 : Nat) (g : Int) (M1 : q_M), ((0 ≤ g ∧ g ≤ 6) ∧ q_fr (c + 4) M M1 ∧ ∀ x, 0 ≤ x → x < g → M1 (c + 4) x = q_shn (M (c + 1)) (M (c + 2)) x) → (6 - g).toNat = k2_1 → q_Y G E 2 M1 [(0, .ref (q_ad G c)), (1, .int (q_I g))] 2 [] := by
    intro k2_1
    induction k2_1 using Nat.strongRecOn with
    | _ k2_1 ih2_1 =>
      intro g  M1 hi2 hk2
      refine q_MRof (fun hM2 => ?_)
      have hv1 := q_cv_fr hv hi2.2.1 (by omega)
      have hvh : 0 ≤ g → g < 6 → _ := hv1.2.2.1 g
      have hvf : 0 ≤ g → g < 6 → _ := hv1.2.2.2.1 g
      refine q_iload_n F dX1_allShown_2 1 rfl ?_
      refine q_aload_n F dX1_allShown_3 0 rfl ?_
      refine q_getr (T := TX1) (ref := "LeastHungry$Company") F huX1 rfl hc.1 3 (by decide) (by decide +kernel) rfl rfl dX1_allShown_4 ?_
      refine q_alen F 6 hc.2.2.2.2 rfl dX1_allShown_7 ?_
      refine q_icmp_ge F 28 dX1_allShown_8 (by decide) (by omega) (fun c8 => ?_) (fun c8 => ?_)
      · refine q_aload_n F dX1_allShown_28 0 rfl ?_
        refine q_getr (T := TX1) (ref := "LeastHungry$Company") F huX1 rfl hc.1 3 (by decide) (by decide +kernel) rfl rfl dX1_allShown_29 ?_
        exact q_aret F FA (Or.inr ⟨_, rfl⟩) dX1_allShown_32 ⟨hi2.2.1, fun x h0 h1 => hi2.2.2 x h0 (by omega)⟩
      · refine q_aload_n F dX1_allShown_11 0 rfl ?_
        refine q_getr (T := TX1) (ref := "LeastHungry$Company") F huX1 rfl hc.1 3 (by decide) (by decide +kernel) rfl rfl dX1_allShown_12 ?_
        refine q_iload_n F dX1_allShown_15 1 rfl ?_
        refine q_aload_n F dX1_allShown_16 0 rfl ?_
        refine q_iload_n F dX1_allShown_17 1 rfl ?_
        refine q_callVP (n := 1) (T := TX1) F (c_X1_shownBy G hI M1 c hc g hv1 (by omega)) rfl rfl hc.1 gX1_allShown_X1_shownBy rfl ⟨by decide, by decide, by decide +kernel⟩ rfl ⟨rfl, rfl, Nat.le_of_ble_eq_true rfl, Nat.le_of_ble_eq_true rfl⟩ rfl (Nat.le_of_ble_eq_true rfl) dX1_allShown_18 (fun h18 => ?_)
        refine q_iast F hc.2.2.2.2 (Nat.le_of_ble_eq_true rfl) (by omega) h18 dX1_allShown_21 (fun N21 eN21 => ?_)
        obtain ⟨v22, e22⟩ : ∃ z_ : Int, z_ = g + 1 := ⟨_, rfl⟩
        refine q_iinc F dX1_allShown_22 1 rfl e22 [(1, .int (q_I v22)), (0, .ref (q_ad G c))] (Nat.le_of_ble_eq_true rfl) rfl ?_
        refine q_goto F 2 dX1_allShown_25 (by decide) ?_
        refine q_drop [1, 0] rfl ?_
        have e21 := eN21
        exact ih2_1 _ (by omega) v22 N21 ⟨by omega, q_fr_tr hi2.2.1 (q_fr_up e21), fun x h0 h1 => by
      rw [e21, q_up_at]
      by_cases hx : x = g
      · rw [if_pos hx, hx, hi2.2.1 (c + 1) (by omega), hi2.2.1 (c + 2) (by omega)]
      · rw [if_neg hx]; exact hi2.2.2 x h0 (by omega)⟩ rfl
  refine q_drop [1, 0] rfl ?_
  exact lp2_1 _ 0 M ⟨by omega, q_fr_rf, fun x h0 h1 => by omega⟩ rfl

set_option maxHeartbeats 4000000 in
set_option maxRecDepth 100000 in
theorem c_X1_foundOut (G : q_G) (hI : q_inj G) (M : q_M) (c : Nat) (hc : q_co G c) (s : Int) (hv : q_cv M c) (hs : 0 ≤ s ∧ s ≤ 63) : q_CI G yX1_foundOut wsX1_foundOut ({ frames := 2, cells := 0, slots := 0, locals := 42 } : Room) [.ref (q_ad G c), .int (q_I s)] M (fun z M' => z = q_set (fun x => q_fo (M (c + 1)) (M (c + 2)) (M c 5) x && q_has s x) ∧ M' = M) := by
  refine q_CI.of hI (by decide) rfl RX1 rfl [(0, .ref (q_ad G c)), (1, .int (q_I s))] rfl (Nat.le_of_ble_eq_true rfl) (fun E F FI => ?_)
  have huX1 : ∀ w ∈ wsX10, w ∈ wsX1_foundOut := by decide +kernel
  refine q_MRof (fun hM => ?_)
  have hv4 := hv.1
  have hv5 := hv.2.1
  refine q_iconst F dX1_foundOut_0 ?_
  refine q_istore_n F dX1_foundOut_1 [(2, .int (q_I 0)), (0, .ref (q_ad G c)), (1, .int (q_I s))] (Nat.le_of_ble_eq_true rfl) rfl ?_
  refine q_iconst F dX1_foundOut_2 ?_
  refine q_istore_n F dX1_foundOut_3 [(3, .int (q_I 0)), (2, .int (q_I 0)), (0, .ref (q_ad G c)), (1, .int (q_I s))] (Nat.le_of_ble_eq_true rfl) rfl ?_
  have lp4_1 : ∀ (k4_1 : Nat) (z : Int) (g : Int), (0 ≤ g ∧ g ≤ 6 ∧ z = q_set (q_lt (fun x => q_fo (M (c + 1)) (M (c + 2)) (M c 5) x && q_has s x) g)) → (6 - g).toNat = k4_1 → q_Y G E 5 M [(0, .ref (q_ad G c)), (1, .int (q_I s)), (2, .int (q_I z)), (3, .int (q_I g))] 4 [] := by
    intro k4_1
    induction k4_1 using Nat.strongRecOn with
    | _ k4_1 ih4_1 =>
      intro z g   hi4 hk4
      have hvh : 0 ≤ g → g < 6 → _ := hv.2.2.1 g
      have hvf : 0 ≤ g → g < 6 → _ := hv.2.2.2.1 g
      refine q_iload_n F dX1_foundOut_4 3 rfl ?_
      refine q_aload_n F dX1_foundOut_5 0 rfl ?_
      refine q_getr (T := TX1) (ref := "LeastHungry$Company") F huX1 rfl hc.1 0 (by decide) (by decide +kernel) rfl rfl dX1_foundOut_6 ?_
      refine q_alen F 6 hc.2.1 rfl dX1_foundOut_9 ?_
      refine q_icmp_ge F 56 dX1_foundOut_10 (by decide) (by omega) (fun c10 => ?_) (fun c10 => ?_)
      · refine q_iload_n F dX1_foundOut_56 2 rfl ?_
        exact q_iret F FI dX1_foundOut_57 (by have := q_set_R (q_lt (fun x => q_fo (M (c + 1)) (M (c + 2)) (M c 5) x && q_has s x) g); omega) (by obtain ⟨h1, h2, h3⟩ := hi4; rw [h3, show g = 6 by omega, q_set_6]; exact ⟨rfl, rfl⟩)
      · refine q_aload_n F dX1_foundOut_13 0 rfl ?_
        refine q_getr (T := TX1) (ref := "LeastHungry$Company") F huX1 rfl hc.1 0 (by decide) (by decide +kernel) rfl rfl dX1_foundOut_14 ?_
        refine q_iload_n F dX1_foundOut_17 3 rfl ?_
        refine q_iald F hc.2.1 (Nat.le_of_ble_eq_true rfl) (by omega) dX1_foundOut_18 (fun h18 => ?_)
        refine q_aload_n F dX1_foundOut_19 0 rfl ?_
        refine q_iload_n F dX1_foundOut_20 3 rfl ?_
        refine q_callVP (n := 1) (T := TX1) F (c_X1_shownBy G hI M c hc g (by assumption) (by omega)) rfl rfl hc.1 gX1_foundOut_X1_shownBy rfl ⟨by decide, by decide, by decide +kernel⟩ rfl ⟨rfl, rfl, Nat.le_of_ble_eq_true rfl, Nat.le_of_ble_eq_true rfl⟩ rfl (Nat.le_of_ble_eq_true rfl) dX1_foundOut_21 (fun h21 => ?_)
        refine q_isub F dX1_foundOut_24 ?_
        have hsh : 0 ≤ q_shn (M (c + 1)) (M (c + 2)) g ∧ q_shn (M (c + 1)) (M (c + 2)) g ≤ 20 := by unfold q_shn; omega
        refine q_nm (fun v25 e25 => ?_)
        refine q_istore F dX1_foundOut_25 [(4, .int (q_I v25)), (0, .ref (q_ad G c)), (1, .int (q_I s)), (2, .int (q_I z)), (3, .int (q_I g))] (Nat.le_of_ble_eq_true rfl) rfl ?_
        refine q_iload F dX1_foundOut_27 0 rfl ?_
        refine q_aload_n F dX1_foundOut_29 1 rfl ?_
        refine q_geti (T := TX1) (ref := "LeastHungry$Company") F huX1 rfl hc.1 5 (by decide) (by decide +kernel) rfl 5 rfl rfl dX1_foundOut_30 (fun h30 => ?_)
        refine q_icmp_le F 50 dX1_foundOut_33 (by decide) (by omega) (fun c33 => ?_) (fun c33 => ?_)
        · obtain ⟨v50, e50⟩ : ∃ z_ : Int, z_ = g + 1 := ⟨_, rfl⟩
          refine q_iinc F dX1_foundOut_50 4 rfl e50 [(3, .int (q_I v50)), (4, .int (q_I v25)), (0, .ref (q_ad G c)), (1, .int (q_I s)), (2, .int (q_I z))] (Nat.le_of_ble_eq_true rfl) rfl ?_
          refine q_goto F 4 dX1_foundOut_53 (by decide) ?_
          refine q_drop [2, 3, 4, 0] rfl ?_
          exact ih4_1 _ (by omega) z v50 (by obtain ⟨h1, h2, h3⟩ := hi4; refine ⟨by omega, by omega, ?_⟩; rw [e50, q_set_step _ (by omega) (by omega)]; (rw [if_neg (by simp [q_fo, ← e25]; intro hh; exfalso; omega)]; exact h3)) rfl
        · refine q_iload_n F dX1_foundOut_36 2 rfl ?_
          refine q_iload_n F dX1_foundOut_37 4 rfl ?_
          refine q_callNP (n := 2) F (c_X8_holds G hI M s g (by omega)) rfl gX1_foundOut_X8_holds_n45 (host := RX8) (by decide +kernel) (by decide +kernel) (by decide +kernel) ⟨by decide, by decide, by decide +kernel⟩ rfl ⟨rfl, rfl, Nat.le_of_ble_eq_true rfl, Nat.le_of_ble_eq_true rfl⟩ rfl (Nat.le_of_ble_eq_true rfl) dX1_foundOut_38 (fun h38 => ?_)
          refine q_ifb_eq F 50 dX1_foundOut_41 (by decide) (fun c41 => ?_) (fun c41 => ?_)
          · obtain ⟨v50, e50⟩ : ∃ z_ : Int, z_ = g + 1 := ⟨_, rfl⟩
            refine q_iinc F dX1_foundOut_50 4 rfl e50 [(3, .int (q_I v50)), (4, .int (q_I v25)), (0, .ref (q_ad G c)), (1, .int (q_I s)), (2, .int (q_I z))] (Nat.le_of_ble_eq_true rfl) rfl ?_
            refine q_goto F 4 dX1_foundOut_53 (by decide) ?_
            refine q_drop [2, 3, 4, 0] rfl ?_
            exact ih4_1 _ (by omega) z v50 (by obtain ⟨h1, h2, h3⟩ := hi4; refine ⟨by omega, by omega, ?_⟩; rw [e50, q_set_step _ (by omega) (by omega)]; (rw [if_neg (by simp [c41])]; exact h3)) rfl
          · refine q_iload_n F dX1_foundOut_44 3 rfl ?_
            refine q_iconst F dX1_foundOut_45 ?_
            refine q_iload_n F dX1_foundOut_46 4 rfl ?_
            refine q_ishl F dX1_foundOut_47 (fun z47 e47 h47 => ?_)
            refine q_ior F dX1_foundOut_48 (fun z48 e48 h48 => ?_)
            refine q_istore_n F dX1_foundOut_49 [(2, .int (q_I z48)), (4, .int (q_I v25)), (0, .ref (q_ad G c)), (1, .int (q_I s)), (3, .int (q_I g))] (Nat.le_of_ble_eq_true rfl) rfl ?_
            obtain ⟨v50, e50⟩ : ∃ z_ : Int, z_ = g + 1 := ⟨_, rfl⟩
            refine q_iinc F dX1_foundOut_50 4 rfl e50 [(3, .int (q_I v50)), (2, .int (q_I z48)), (4, .int (q_I v25)), (0, .ref (q_ad G c)), (1, .int (q_I s))] (Nat.le_of_ble_eq_true rfl) rfl ?_
            refine q_goto F 4 dX1_foundOut_53 (by decide) ?_
            refine q_drop [3, 4, 1, 0] rfl ?_
            exact ih4_1 _ (by omega) z48 v50 (by obtain ⟨h1, h2, h3⟩ := hi4; refine ⟨by omega, by omega, ?_⟩; rw [e50, q_set_step _ (by omega) (by omega)]; (rw [if_pos (by simp [q_fo, c41, ← e25, c33])]; rw [e48, e47, h3])) rfl
  refine q_drop [2, 3, 1, 0] rfl ?_
  exact lp4_1 _ 0 0 ⟨by omega, by omega, (q_set_0 _).symm⟩ rfl

set_option maxHeartbeats 4000000 in
set_option maxRecDepth 100000 in
theorem c_X1_takers (G : q_G) (hI : q_inj G) (M : q_M) (c : Nat) (hc : q_co G c) (a : Int) (p : Int) (hv : q_cv M c) (ha : (-2147483648 ≤ a ∧ a ≤ 2147483647) ∧ (-2147483648 ≤ p ∧ p ≤ 2147483647)) : q_CI G yX1_takers wsX1_takers ({ frames := 3, cells := 0, slots := 0, locals := 71 } : Room) [.ref (q_ad G c), .int (q_I a), .int (q_I p)] M (fun z M' => z = q_set (q_tk (M (c + 1)) (M (c + 2)) (M (c + 3)) (M c 4) (M c 5) a p) ∧ q_fr (c + 4) M M') := by
  refine q_CI.of hI (by decide) rfl RX1 rfl [(0, .ref (q_ad G c)), (1, .int (q_I a)), (2, .int (q_I p))] rfl (Nat.le_of_ble_eq_true rfl) (fun E F FI => ?_)
  refine q_MRof (fun hM => ?_)
  have hv4 := hv.1
  have hv5 := hv.2.1
  refine q_aload_n F dX1_takers_0 0 rfl ?_
  refine q_iload_n F dX1_takers_1 1 rfl ?_
  refine q_callVP (n := 1) (T := TX1) F (c_X1_hungry G hI M c hc a (by assumption) (by omega)) rfl rfl hc.1 gX1_takers_X1_hungry rfl ⟨by decide, by decide, by decide +kernel⟩ rfl ⟨rfl, rfl, Nat.le_of_ble_eq_true rfl, Nat.le_of_ble_eq_true rfl⟩ rfl (Nat.le_of_ble_eq_true rfl) dX1_takers_2 (fun h2 => ?_)
  refine q_nm (fun v5 e5 => ?_)
  refine q_istore_n F dX1_takers_5 [(3, .int (q_I v5)), (0, .ref (q_ad G c)), (1, .int (q_I a)), (2, .int (q_I p))] (Nat.le_of_ble_eq_true rfl) rfl ?_
  refine q_aload_n F dX1_takers_6 1 rfl ?_
  refine q_callVA (n := 0) (T := TX1) F (c_X1_allShown G hI M c hc (by assumption)) rfl rfl hc.1 gX1_takers_X1_allShown rfl ⟨by decide, by decide, by decide +kernel⟩ rfl ⟨rfl, rfl, Nat.le_of_ble_eq_true rfl, Nat.le_of_ble_eq_true rfl⟩ rfl (Nat.le_of_ble_eq_true rfl) dX1_takers_7 (fun N7 p7 => ?_)
  have hv1 := q_cv_fr hv p7.1 (by omega)
  have q1 := p7.1 (c + 1) (by omega)
  have q2 := p7.1 (c + 2) (by omega)
  have q0 := p7.1 c (by omega)
  refine q_iload_n F dX1_takers_10 0 rfl ?_
  refine q_aload_n F dX1_takers_11 1 rfl ?_
  refine q_iload_n F dX1_takers_12 0 rfl ?_
  refine q_callVP (n := 1) (T := TX1) F (c_X1_foundOut G hI N7 c hc v5 hv1 (by rw [e5]; exact q_set_R _)) rfl rfl hc.1 gX1_takers_X1_foundOut rfl ⟨by decide, by decide, by decide +kernel⟩ rfl ⟨rfl, rfl, Nat.le_of_ble_eq_true rfl, Nat.le_of_ble_eq_true rfl⟩ rfl (Nat.le_of_ble_eq_true rfl) dX1_takers_13 (fun h13 => ?_)
  refine q_iconst F dX1_takers_16 ?_
  refine q_ixor F dX1_takers_17 (fun z17 e17 h17 => ?_)
  refine q_iand F dX1_takers_18 (fun z18 e18 h18 => ?_)
  refine q_iload_n F dX1_takers_19 3 rfl ?_
  refine q_callNP (n := 3) F (c_X8_firstBy G hI N7 (c + 4) z18 p hc.2.2.2.2 (by have := q_set_R (fun x => q_has z18 x); rw [e18, e17, e5]; rw [q_andn_set]; exact ⟨q_set_R _, by omega⟩)) rfl gX1_takers_X8_firstBy_n79 (host := RX8) (by decide +kernel) (by decide +kernel) (by decide +kernel) ⟨by decide, by decide, by decide +kernel⟩ rfl ⟨rfl, rfl, Nat.le_of_ble_eq_true rfl, Nat.le_of_ble_eq_true rfl⟩ rfl (Nat.le_of_ble_eq_true rfl) dX1_takers_20 (fun h20 => ?_)
  exact q_iret F FI dX1_takers_23 (by omega) ⟨by rw [e18, e17, q1, q2, q0, e5]; exact q_tk_of p7.2, p7.1⟩

set_option maxHeartbeats 4000000 in
set_option maxRecDepth 100000 in
theorem c_X1_leftBy (G : q_G) (hI : q_inj G) (M : q_M) (c : Nat) (hc : q_co G c) (g : Int) (s : Int) (hv : q_cv M c) (hg : 0 ≤ g ∧ g < 6) (hs : 0 ≤ s ∧ s ≤ 63) : q_CI G yX1_leftBy wsX1_leftBy ({ frames := 1, cells := 0, slots := 0, locals := 21 } : Room) [.ref (q_ad G c), .int (q_I g), .int (q_I s)] M (fun z M' => z = q_left (M (c + 1)) s g ∧ M' = M) := by
  refine q_CI.of hI (by decide) rfl RX1 rfl [(0, .ref (q_ad G c)), (1, .int (q_I g)), (2, .int (q_I s))] rfl (Nat.le_of_ble_eq_true rfl) (fun E F FI => ?_)
  have huX1 : ∀ w ∈ wsX10, w ∈ wsX1_leftBy := by decide +kernel
  refine q_MRof (fun hM => ?_)
  have hv4 := hv.1
  have hv5 := hv.2.1
  have hvh := hv.2.2.1 g hg.1 hg.2
  refine q_aload_n F dX1_leftBy_0 0 rfl ?_
  refine q_getr (T := TX1) (ref := "LeastHungry$Company") F huX1 rfl hc.1 0 (by decide) (by decide +kernel) rfl rfl dX1_leftBy_1 ?_
  refine q_iload_n F dX1_leftBy_4 1 rfl ?_
  refine q_callNP (n := 2) F (c_X8_at G hI M (c + 1) 6 hc.2.1 g (by omega)) rfl gX1_leftBy_X8_at_n59 (host := RX8) (by decide +kernel) (by decide +kernel) (by decide +kernel) ⟨by decide, by decide, by decide +kernel⟩ rfl ⟨rfl, rfl, Nat.le_of_ble_eq_true rfl, Nat.le_of_ble_eq_true rfl⟩ rfl (Nat.le_of_ble_eq_true rfl) dX1_leftBy_5 (fun h5 => ?_)
  refine q_nm (fun v8 e8 => ?_)
  refine q_istore_n F dX1_leftBy_8 [(3, .int (q_I v8)), (0, .ref (q_ad G c)), (1, .int (q_I g)), (2, .int (q_I s))] (Nat.le_of_ble_eq_true rfl) rfl ?_
  refine q_iload_n F dX1_leftBy_9 3 rfl ?_
  refine q_iload_n F dX1_leftBy_10 2 rfl ?_
  refine q_callNP (n := 2) F (c_X8_holds G hI M s g (by omega)) rfl gX1_leftBy_X8_holds_n45 (host := RX8) (by decide +kernel) (by decide +kernel) (by decide +kernel) ⟨by decide, by decide, by decide +kernel⟩ rfl ⟨rfl, rfl, Nat.le_of_ble_eq_true rfl, Nat.le_of_ble_eq_true rfl⟩ rfl (Nat.le_of_ble_eq_true rfl) dX1_leftBy_11 (fun h11 => ?_)
  refine q_ifb_eq F 27 dX1_leftBy_14 (by decide) (fun c14 => ?_) (fun c14 => ?_)
  · refine q_iload_n F dX1_leftBy_27 0 rfl ?_
    exact q_iret F FI dX1_leftBy_28 (by omega) ⟨by rw [q_left, if_neg (by simp [c14]), e8], rfl⟩
  · refine q_iconst F dX1_leftBy_17 ?_
    refine q_iload_n F dX1_leftBy_18 0 rfl ?_
    refine q_iconst F dX1_leftBy_19 ?_
    refine q_isub F dX1_leftBy_20 ?_
    refine q_mmax F (by omega) (by decide +kernel) (by decide +kernel) (by decide +kernel) (by decide +kernel) ⟨Nat.le_of_ble_eq_true rfl, Nat.le_of_ble_eq_true rfl⟩ dX1_leftBy_21 ?_
    refine q_goto F 28 dX1_leftBy_24 (by decide) ?_
    exact q_iret F FI dX1_leftBy_28 (by omega) ⟨by rw [q_left, if_pos c14, e8], rfl⟩

set_option maxHeartbeats 4000000 in
set_option maxRecDepth 100000 in
theorem c_X1_feed (G : q_G) (hI : q_inj G) (M : q_M) (c : Nat) (hc : q_co G c) (s : Int) (hv : q_cv M c) (hs : 0 ≤ s ∧ s ≤ 63) : q_CV G yX1_feed wsX1_feed ({ frames := 2, cells := 0, slots := 0, locals := 44 } : Room) [.ref (q_ad G c), .int (q_I s)] M (fun M' => q_fr (c + 1) M M' ∧ M' (c + 1) = q_left (M (c + 1)) s) := by
  refine q_CV.of hI (by decide) rfl RX1 rfl [(0, .ref (q_ad G c)), (1, .int (q_I s))] rfl (Nat.le_of_ble_eq_true rfl) (fun E F FV => ?_)
  have huX1 : ∀ w ∈ wsX10, w ∈ wsX1_feed := by decide +kernel
  refine q_MRof (fun hM => ?_)
  have hv4 := hv.1
  have hv5 := hv.2.1
  refine q_iconst F dX1_feed_0 ?_
  refine q_istore_n F dX1_feed_1 [(2, .int (q_I 0)), (0, .ref (q_ad G c)), (1, .int (q_I s))] (Nat.le_of_ble_eq_true rfl) rfl ?_
  have lp2_1 : ∀ (k2_1 : Nat) (g : Int) (M1 : q_M), ((0 ≤ g ∧ g ≤ 6) ∧ q_fr (c + 1) M M1 ∧ (∀ x, M1 (c + 1) x = if 0 ≤ x ∧ x < g then q_left (M (c + 1)) s x else M (c + 1) x) ∧ q_cv M1 c) → (6 - g).toNat = k2_1 → q_Y G E 3 M1 [(0, .ref (q_ad G c)), (1, .int (q_I s)), (2, .int (q_I g))] 2 [] := by
    intro k2_1
    induction k2_1 using Nat.strongRecOn with
    | _ k2_1 ih2_1 =>
      intro g  M1 hi2 hk2
      refine q_MRof (fun hM2 => ?_)
      have hv1 := hi2.2.2.2
      have hvh : 0 ≤ g → g < 6 → _ := hv1.2.2.1 g
      refine q_iload_n F dX1_feed_2 2 rfl ?_
      refine q_aload_n F dX1_feed_3 0 rfl ?_
      refine q_getr (T := TX1) (ref := "LeastHungry$Company") F huX1 rfl hc.1 0 (by decide) (by decide +kernel) rfl rfl dX1_feed_4 ?_
      refine q_alen F 6 hc.2.1 rfl dX1_feed_7 ?_
      refine q_icmp_ge F 29 dX1_feed_8 (by decide) (by omega) (fun c8 => ?_) (fun c8 => ?_)
      · exact q_vret F FV dX1_feed_29 ⟨hi2.2.1, funext fun x => by rw [hi2.2.2.1 x]; exact q_left_ext (by omega)⟩
      · refine q_aload_n F dX1_feed_11 0 rfl ?_
        refine q_getr (T := TX1) (ref := "LeastHungry$Company") F huX1 rfl hc.1 0 (by decide) (by decide +kernel) rfl rfl dX1_feed_12 ?_
        refine q_iload_n F dX1_feed_15 2 rfl ?_
        refine q_aload_n F dX1_feed_16 0 rfl ?_
        refine q_iload_n F dX1_feed_17 2 rfl ?_
        refine q_iload_n F dX1_feed_18 1 rfl ?_
        refine q_callVP (n := 2) (T := TX1) F (c_X1_leftBy G hI M1 c hc g s hv1 (by omega) (by omega)) rfl rfl hc.1 gX1_feed_X1_leftBy rfl ⟨by decide, by decide, by decide +kernel⟩ rfl ⟨rfl, rfl, Nat.le_of_ble_eq_true rfl, Nat.le_of_ble_eq_true rfl⟩ rfl (Nat.le_of_ble_eq_true rfl) dX1_feed_19 (fun h19 => ?_)
        refine q_iast F hc.2.1 (Nat.le_of_ble_eq_true rfl) (by omega) h19 dX1_feed_22 (fun N22 eN22 => ?_)
        obtain ⟨v23, e23⟩ : ∃ z_ : Int, z_ = g + 1 := ⟨_, rfl⟩
        refine q_iinc F dX1_feed_23 2 rfl e23 [(2, .int (q_I v23)), (0, .ref (q_ad G c)), (1, .int (q_I s))] (Nat.le_of_ble_eq_true rfl) rfl ?_
        refine q_goto F 2 dX1_feed_26 (by decide) ?_
        refine q_drop [1, 2, 0] rfl ?_
        have e22 := eN22
        have hlg := q_left_R (s := s) hv1.2.2.1 hi2.1.1 c8
        exact ih2_1 _ (by omega) v23 N22 ⟨by omega, q_fr_tr hi2.2.1 (q_fr_up e22), fun x => by
      rw [e22, q_up_at]
      by_cases hx : x = g
      · rw [if_pos hx, if_pos (by omega), hx]
        have := hi2.2.2.1 g
        rw [if_neg (by omega)] at this
        unfold q_left
        rw [this]
      · rw [if_neg hx, hi2.2.2.1 x]
        by_cases hl : 0 ≤ x ∧ x < g
        · rw [if_pos hl, if_pos (by omega)]
        · rw [if_neg hl, if_neg (by omega)], q_cv_h hv1 e22 hlg⟩ rfl
  refine q_drop [1, 2, 0] rfl ?_
  exact lp2_1 _ 0 M ⟨by omega, q_fr_rf, fun x => by rw [if_neg (by omega)], hv⟩ rfl

set_option maxHeartbeats 4000000 in
set_option maxRecDepth 100000 in
theorem c_X1_growHungrier (G : q_G) (hI : q_inj G) (M : q_M) (c : Nat) (hc : q_co G c) (g : Int) (hv : q_cv M c) (hg : 0 ≤ g ∧ g < 6) : q_CV G yX1_growHungrier wsX1_growHungrier ({ frames := 1, cells := 0, slots := 0, locals := 22 } : Room) [.ref (q_ad G c), .int (q_I g)] M (fun M' => M' = q_up M (c + 1) g (min 20 (M (c + 1) g + 1))) := by
  refine q_CV.of hI (by decide) rfl RX1 rfl [(0, .ref (q_ad G c)), (1, .int (q_I g))] rfl (Nat.le_of_ble_eq_true rfl) (fun E F FV => ?_)
  have huX1 : ∀ w ∈ wsX10, w ∈ wsX1_growHungrier := by decide +kernel
  refine q_MRof (fun hM => ?_)
  have hv4 := hv.1
  have hv5 := hv.2.1
  have hvh := hv.2.2.1 g hg.1 hg.2
  refine q_aload_n F dX1_growHungrier_0 0 rfl ?_
  refine q_getr (T := TX1) (ref := "LeastHungry$Company") F huX1 rfl hc.1 0 (by decide) (by decide +kernel) rfl rfl dX1_growHungrier_1 ?_
  refine q_iload_n F dX1_growHungrier_4 1 rfl ?_
  refine q_bipush F dX1_growHungrier_5 (by decide) ?_
  refine q_aload_n F dX1_growHungrier_7 0 rfl ?_
  refine q_getr (T := TX1) (ref := "LeastHungry$Company") F huX1 rfl hc.1 0 (by decide) (by decide +kernel) rfl rfl dX1_growHungrier_8 ?_
  refine q_iload_n F dX1_growHungrier_11 1 rfl ?_
  refine q_callNP (n := 2) F (c_X8_at G hI M (c + 1) 6 hc.2.1 g (by omega)) rfl gX1_growHungrier_X8_at_n59 (host := RX8) (by decide +kernel) (by decide +kernel) (by decide +kernel) ⟨by decide, by decide, by decide +kernel⟩ rfl ⟨rfl, rfl, Nat.le_of_ble_eq_true rfl, Nat.le_of_ble_eq_true rfl⟩ rfl (Nat.le_of_ble_eq_true rfl) dX1_growHungrier_12 (fun h12 => ?_)
  refine q_iconst F dX1_growHungrier_15 ?_
  refine q_iadd F dX1_growHungrier_16 ?_
  refine q_mmin F (by omega) (by decide +kernel) (by decide +kernel) (by decide +kernel) (by decide +kernel) ⟨Nat.le_of_ble_eq_true rfl, Nat.le_of_ble_eq_true rfl⟩ dX1_growHungrier_17 ?_
  refine q_callNV (n := 3) F (c_X8_put G hI M (c + 1) 6 hc.2.1 g _ (by omega) (by omega)) rfl gX1_growHungrier_X8_put_n35 (host := RX8) (by decide +kernel) (by decide +kernel) (by decide +kernel) ⟨by decide, by decide, by decide +kernel⟩ rfl ⟨rfl, rfl, Nat.le_of_ble_eq_true rfl, Nat.le_of_ble_eq_true rfl⟩ rfl (Nat.le_of_ble_eq_true rfl) dX1_growHungrier_20 (fun N20 p20 => ?_)
  exact q_vret F FV dX1_growHungrier_23 p20

set_option maxHeartbeats 4000000 in
set_option maxRecDepth 100000 in
theorem c_X1_passHour (G : q_G) (hI : q_inj G) (M : q_M) (c : Nat) (hc : q_co G c) (hv : q_cv M c) : q_CV G yX1_passHour wsX1_passHour ({ frames := 2, cells := 0, slots := 0, locals := 43 } : Room) [.ref (q_ad G c)] M (fun M' => q_fr (c + 1) M M' ∧ M' (c + 1) = q_hrA (M (c + 1))) := by
  refine q_CV.of hI (by decide) rfl RX1 rfl [(0, .ref (q_ad G c))] rfl (Nat.le_of_ble_eq_true rfl) (fun E F FV => ?_)
  refine q_MRof (fun hM => ?_)
  have hv4 := hv.1
  have hv5 := hv.2.1
  refine q_iconst F dX1_passHour_0 ?_
  refine q_istore_n F dX1_passHour_1 [(1, .int (q_I 0)), (0, .ref (q_ad G c))] (Nat.le_of_ble_eq_true rfl) rfl ?_
  have lp2_1 : ∀ (k2_1 : Nat) (g : Int) (M1 : q_M), ((0 ≤ g ∧ g ≤ 6) ∧ q_fr (c + 1) M M1 ∧ (∀ x, M1 (c + 1) x = if 0 ≤ x ∧ x < g then min 20 (M (c + 1) x + 1) else M (c + 1) x) ∧ q_cv M1 c) → (6 - g).toNat = k2_1 → q_Y G E 2 M1 [(0, .ref (q_ad G c)), (1, .int (q_I g))] 2 [] := by
    intro k2_1
    induction k2_1 using Nat.strongRecOn with
    | _ k2_1 ih2_1 =>
      intro g  M1 hi2 hk2
      refine q_MRof (fun hM2 => ?_)
      have hv1 := hi2.2.2.2
      refine q_iload_n F dX1_passHour_2 1 rfl ?_
      refine q_bipush F dX1_passHour_3 (by decide) ?_
      refine q_icmp_ge F 19 dX1_passHour_5 (by decide) (by omega) (fun c5 => ?_) (fun c5 => ?_)
      · exact q_vret F FV dX1_passHour_19 ⟨hi2.2.1, funext fun x => by rw [hi2.2.2.1 x]; exact q_hrA_ext (by omega)⟩
      · refine q_aload_n F dX1_passHour_8 0 rfl ?_
        refine q_iload_n F dX1_passHour_9 1 rfl ?_
        refine q_callVV (n := 1) (T := TX1) F (c_X1_growHungrier G hI M1 c hc g hv1 (by omega)) rfl rfl hc.1 gX1_passHour_X1_growHungrier rfl ⟨by decide, by decide, by decide +kernel⟩ rfl ⟨rfl, rfl, Nat.le_of_ble_eq_true rfl, Nat.le_of_ble_eq_true rfl⟩ rfl (Nat.le_of_ble_eq_true rfl) dX1_passHour_10 (fun N10 p10 => ?_)
        obtain ⟨v13, e13⟩ : ∃ z_ : Int, z_ = g + 1 := ⟨_, rfl⟩
        refine q_iinc F dX1_passHour_13 1 rfl e13 [(1, .int (q_I v13)), (0, .ref (q_ad G c))] (Nat.le_of_ble_eq_true rfl) rfl ?_
        refine q_goto F 2 dX1_passHour_16 (by decide) ?_
        refine q_drop [1, 0] rfl ?_
        have e22 := p10
        have hvh := hv1.2.2.1 g hi2.1.1 c5
        exact ih2_1 _ (by omega) v13 N10 ⟨by omega, q_fr_tr hi2.2.1 (q_fr_up e22), fun x => by
      rw [e22, q_up_at]
      by_cases hx : x = g
      · rw [if_pos hx, if_pos (by omega), hx]
        have := hi2.2.2.1 g
        rw [if_neg (by omega)] at this
        rw [this]
      · rw [if_neg hx, hi2.2.2.1 x]
        by_cases hl : 0 ≤ x ∧ x < g
        · rw [if_pos hl, if_pos (by omega)]
        · rw [if_neg hl, if_neg (by omega)], q_cv_h hv1 e22 (by omega)⟩ rfl
  refine q_drop [1, 0] rfl ?_
  exact lp2_1 _ 0 M ⟨by omega, q_fr_rf, fun x => by rw [if_neg (by omega)], hv⟩ rfl

set_option maxHeartbeats 4000000 in
set_option maxRecDepth 100000 in
theorem c_X1_starved (G : q_G) (hI : q_inj G) (M : q_M) (c : Nat) (hc : q_co G c) (hv : q_cv M c) : q_CI G yX1_starved wsX1_starved ({ frames := 1, cells := 0, slots := 0, locals := 21 } : Room) [.ref (q_ad G c)] M (fun z M' => z = q_set (fun x => decide ((M (c + 1)) x = 20) && q_has (M c 4) x) ∧ M' = M) := by
  refine q_CI.of hI (by decide) rfl RX1 rfl [(0, .ref (q_ad G c))] rfl (Nat.le_of_ble_eq_true rfl) (fun E F FI => ?_)
  have huX1 : ∀ w ∈ wsX10, w ∈ wsX1_starved := by decide +kernel
  refine q_MRof (fun hM => ?_)
  have hv4 := hv.1
  have hv5 := hv.2.1
  refine q_iconst F dX1_starved_0 ?_
  refine q_istore_n F dX1_starved_1 [(1, .int (q_I 0)), (0, .ref (q_ad G c))] (Nat.le_of_ble_eq_true rfl) rfl ?_
  refine q_iconst F dX1_starved_2 ?_
  refine q_istore_n F dX1_starved_3 [(2, .int (q_I 0)), (1, .int (q_I 0)), (0, .ref (q_ad G c))] (Nat.le_of_ble_eq_true rfl) rfl ?_
  have lp4_1 : ∀ (k4_1 : Nat) (s : Int) (g : Int), (0 ≤ g ∧ g ≤ 6 ∧ s = q_set (q_lt (fun x => decide ((M (c + 1)) x = 20) && q_has (M c 4) x) g)) → (6 - g).toNat = k4_1 → q_Y G E 3 M [(0, .ref (q_ad G c)), (1, .int (q_I s)), (2, .int (q_I g))] 4 [] := by
    intro k4_1
    induction k4_1 using Nat.strongRecOn with
    | _ k4_1 ih4_1 =>
      intro s g   hi4 hk4
      refine q_iload_n F dX1_starved_4 2 rfl ?_
      refine q_aload_n F dX1_starved_5 0 rfl ?_
      refine q_getr (T := TX1) (ref := "LeastHungry$Company") F huX1 rfl hc.1 0 (by decide) (by decide +kernel) rfl rfl dX1_starved_6 ?_
      refine q_alen F 6 hc.2.1 rfl dX1_starved_9 ?_
      refine q_icmp_ge F 47 dX1_starved_10 (by decide) (by omega) (fun c10 => ?_) (fun c10 => ?_)
      · refine q_iload_n F dX1_starved_47 1 rfl ?_
        exact q_iret F FI dX1_starved_48 (by have := q_set_R (q_lt (fun x => decide ((M (c + 1)) x = 20) && q_has (M c 4) x) g); omega) (by obtain ⟨h1, h2, h3⟩ := hi4; rw [h3, show g = 6 by omega, q_set_6]; exact ⟨rfl, rfl⟩)
      · refine q_aload_n F dX1_starved_13 0 rfl ?_
        refine q_getr (T := TX1) (ref := "LeastHungry$Company") F huX1 rfl hc.1 0 (by decide) (by decide +kernel) rfl rfl dX1_starved_14 ?_
        refine q_iload_n F dX1_starved_17 2 rfl ?_
        refine q_iald F hc.2.1 (Nat.le_of_ble_eq_true rfl) (by omega) dX1_starved_18 (fun h18 => ?_)
        refine q_bipush F dX1_starved_19 (by decide) ?_
        refine q_icmp_ne F 41 dX1_starved_21 (by decide) (by omega) (fun c21 => ?_) (fun c21 => ?_)
        · obtain ⟨v41, e41⟩ : ∃ z_ : Int, z_ = g + 1 := ⟨_, rfl⟩
          refine q_iinc F dX1_starved_41 2 rfl e41 [(2, .int (q_I v41)), (0, .ref (q_ad G c)), (1, .int (q_I s))] (Nat.le_of_ble_eq_true rfl) rfl ?_
          refine q_goto F 4 dX1_starved_44 (by decide) ?_
          refine q_drop [1, 2, 0] rfl ?_
          exact ih4_1 _ (by omega) s v41 (by obtain ⟨h1, h2, h3⟩ := hi4; refine ⟨by omega, by omega, ?_⟩; rw [e41, q_set_step _ (by omega) (by omega)]; (rw [if_neg (by simp [c21])]; exact h3)) rfl
        · refine q_aload_n F dX1_starved_24 0 rfl ?_
          refine q_geti (T := TX1) (ref := "LeastHungry$Company") F huX1 rfl hc.1 4 (by decide) (by decide +kernel) rfl 4 rfl rfl dX1_starved_25 (fun h25 => ?_)
          refine q_iload_n F dX1_starved_28 2 rfl ?_
          refine q_callNP (n := 2) F (c_X8_holds G hI M _ g (by omega)) rfl gX1_starved_X8_holds_n45 (host := RX8) (by decide +kernel) (by decide +kernel) (by decide +kernel) ⟨by decide, by decide, by decide +kernel⟩ rfl ⟨rfl, rfl, Nat.le_of_ble_eq_true rfl, Nat.le_of_ble_eq_true rfl⟩ rfl (Nat.le_of_ble_eq_true rfl) dX1_starved_29 (fun h29 => ?_)
          refine q_ifb_eq F 41 dX1_starved_32 (by decide) (fun c32 => ?_) (fun c32 => ?_)
          · obtain ⟨v41, e41⟩ : ∃ z_ : Int, z_ = g + 1 := ⟨_, rfl⟩
            refine q_iinc F dX1_starved_41 2 rfl e41 [(2, .int (q_I v41)), (0, .ref (q_ad G c)), (1, .int (q_I s))] (Nat.le_of_ble_eq_true rfl) rfl ?_
            refine q_goto F 4 dX1_starved_44 (by decide) ?_
            refine q_drop [1, 2, 0] rfl ?_
            exact ih4_1 _ (by omega) s v41 (by obtain ⟨h1, h2, h3⟩ := hi4; refine ⟨by omega, by omega, ?_⟩; rw [e41, q_set_step _ (by omega) (by omega)]; (rw [if_neg (by simp [c32])]; exact h3)) rfl
          · refine q_iload_n F dX1_starved_35 1 rfl ?_
            refine q_iconst F dX1_starved_36 ?_
            refine q_iload_n F dX1_starved_37 2 rfl ?_
            refine q_ishl F dX1_starved_38 (fun z38 e38 h38 => ?_)
            refine q_ior F dX1_starved_39 (fun z39 e39 h39 => ?_)
            refine q_istore_n F dX1_starved_40 [(1, .int (q_I z39)), (0, .ref (q_ad G c)), (2, .int (q_I g))] (Nat.le_of_ble_eq_true rfl) rfl ?_
            obtain ⟨v41, e41⟩ : ∃ z_ : Int, z_ = g + 1 := ⟨_, rfl⟩
            refine q_iinc F dX1_starved_41 2 rfl e41 [(2, .int (q_I v41)), (1, .int (q_I z39)), (0, .ref (q_ad G c))] (Nat.le_of_ble_eq_true rfl) rfl ?_
            refine q_goto F 4 dX1_starved_44 (by decide) ?_
            refine q_drop [2, 1, 0] rfl ?_
            exact ih4_1 _ (by omega) z39 v41 (by obtain ⟨h1, h2, h3⟩ := hi4; refine ⟨by omega, by omega, ?_⟩; rw [e41, q_set_step _ (by omega) (by omega)]; (rw [if_pos (by simp [c21, c32])]; rw [e39, e38, h3])) rfl
  refine q_drop [2, 1, 0] rfl ?_
  exact lp4_1 _ 0 0 ⟨by omega, by omega, (q_set_0 _).symm⟩ rfl

set_option maxHeartbeats 4000000 in
set_option maxRecDepth 100000 in
theorem c_X1_hungerLeft (G : q_G) (hI : q_inj G) (M : q_M) (c : Nat) (hc : q_co G c) (s : Int) (fd : Int) (hv : q_cv M c) (hs : (0 ≤ s ∧ s ≤ 63) ∧ (0 ≤ fd ∧ fd ≤ 63)) : q_CI G yX1_hungerLeft wsX1_hungerLeft ({ frames := 2, cells := 0, slots := 0, locals := 44 } : Room) [.ref (q_ad G c), .int (q_I s), .int (q_I fd)] M (fun z M' => z = q_s6 (fun x => if q_has s x = true then q_left (M (c + 1)) fd x else 0) ∧ M' = M) := by
  refine q_CI.of hI (by decide) rfl RX1 rfl [(0, .ref (q_ad G c)), (1, .int (q_I s)), (2, .int (q_I fd))] rfl (Nat.le_of_ble_eq_true rfl) (fun E F FI => ?_)
  refine q_MRof (fun hM => ?_)
  have hv4 := hv.1
  have hv5 := hv.2.1
  have hR : ∀ x, 0 ≤ x → x < 6 → 0 ≤ (fun x => if q_has s x = true then q_left (M (c + 1)) fd x else 0) x ∧ (fun x => if q_has s x = true then q_left (M (c + 1)) fd x else 0) x ≤ 20 := fun x h0 h1 => by
      have := q_left_R (s := fd) hv.2.2.1 h0 h1
      show 0 ≤ (if q_has s x = true then _ else (0 : Int)) ∧ (if q_has s x = true then _ else (0 : Int)) ≤ 20
      split <;> omega
  refine q_iconst F dX1_hungerLeft_0 ?_
  refine q_istore_n F dX1_hungerLeft_1 [(3, .int (q_I 0)), (0, .ref (q_ad G c)), (1, .int (q_I s)), (2, .int (q_I fd))] (Nat.le_of_ble_eq_true rfl) rfl ?_
  refine q_iconst F dX1_hungerLeft_2 ?_
  refine q_istore F dX1_hungerLeft_3 [(4, .int (q_I 0)), (3, .int (q_I 0)), (0, .ref (q_ad G c)), (1, .int (q_I s)), (2, .int (q_I fd))] (Nat.le_of_ble_eq_true rfl) rfl ?_
  have lp5_1 : ∀ (k5_1 : Nat) (z : Int) (g : Int), (0 ≤ g ∧ g ≤ 6 ∧ z = q_s6 (q_lz (fun x => if q_has s x = true then q_left (M (c + 1)) fd x else 0) g)) → (6 - g).toNat = k5_1 → q_Y G E 5 M [(0, .ref (q_ad G c)), (1, .int (q_I s)), (2, .int (q_I fd)), (3, .int (q_I z)), (4, .int (q_I g))] 5 [] := by
    intro k5_1
    induction k5_1 using Nat.strongRecOn with
    | _ k5_1 ih5_1 =>
      intro z g   hi5 hk5
      have hz : 0 ≤ z ∧ z ≤ 120 := by rw [hi5.2.2]; exact q_s6_B hR
      refine q_iload F dX1_hungerLeft_5 4 rfl ?_
      refine q_bipush F dX1_hungerLeft_7 (by decide) ?_
      refine q_icmp_ge F 41 dX1_hungerLeft_9 (by decide) (by omega) (fun c9 => ?_) (fun c9 => ?_)
      · refine q_iload_n F dX1_hungerLeft_41 3 rfl ?_
        exact q_iret F FI dX1_hungerLeft_42 (by omega) (by obtain ⟨h1, h2, h3⟩ := hi5; rw [h3, show g = 6 by omega, q_s6_6]; exact ⟨rfl, rfl⟩)
      · refine q_iload_n F dX1_hungerLeft_12 3 rfl ?_
        refine q_iload_n F dX1_hungerLeft_13 1 rfl ?_
        refine q_iload F dX1_hungerLeft_14 4 rfl ?_
        refine q_callNP (n := 2) F (c_X8_holds G hI M s g (by omega)) rfl gX1_hungerLeft_X8_holds_n45 (host := RX8) (by decide +kernel) (by decide +kernel) (by decide +kernel) ⟨by decide, by decide, by decide +kernel⟩ rfl ⟨rfl, rfl, Nat.le_of_ble_eq_true rfl, Nat.le_of_ble_eq_true rfl⟩ rfl (Nat.le_of_ble_eq_true rfl) dX1_hungerLeft_16 (fun h16 => ?_)
        refine q_ifb_eq F 32 dX1_hungerLeft_19 (by decide) (fun c19 => ?_) (fun c19 => ?_)
        · refine q_iconst F dX1_hungerLeft_32 ?_
          refine q_iadd F dX1_hungerLeft_33 ?_
          refine q_nm (fun v34 e34 => ?_)
          refine q_istore_n F dX1_hungerLeft_34 [(3, .int (q_I v34)), (0, .ref (q_ad G c)), (1, .int (q_I s)), (2, .int (q_I fd)), (4, .int (q_I g))] (Nat.le_of_ble_eq_true rfl) rfl ?_
          obtain ⟨v35, e35⟩ : ∃ z_ : Int, z_ = g + 1 := ⟨_, rfl⟩
          refine q_iinc F dX1_hungerLeft_35 4 rfl e35 [(4, .int (q_I v35)), (3, .int (q_I v34)), (0, .ref (q_ad G c)), (1, .int (q_I s)), (2, .int (q_I fd))] (Nat.le_of_ble_eq_true rfl) rfl ?_
          refine q_goto F 5 dX1_hungerLeft_38 (by decide) ?_
          refine q_drop [2, 3, 4, 1, 0] rfl ?_
          exact ih5_1 _ (by omega) v34 v35 (by obtain ⟨h1, h2, h3⟩ := hi5; refine ⟨by omega, by omega, ?_⟩; rw [e35, q_s6_step _ (by omega) (by omega), e34, h3]; rw [if_neg (by simp [c19])]) rfl
        · refine q_aload_n F dX1_hungerLeft_22 0 rfl ?_
          refine q_iload F dX1_hungerLeft_23 4 rfl ?_
          refine q_iload_n F dX1_hungerLeft_25 2 rfl ?_
          refine q_callVP (n := 2) (T := TX1) F (c_X1_leftBy G hI M c hc g fd (by assumption) (by omega) (by omega)) rfl rfl hc.1 gX1_hungerLeft_X1_leftBy rfl ⟨by decide, by decide, by decide +kernel⟩ rfl ⟨rfl, rfl, Nat.le_of_ble_eq_true rfl, Nat.le_of_ble_eq_true rfl⟩ rfl (Nat.le_of_ble_eq_true rfl) dX1_hungerLeft_26 (fun h26 => ?_)
          have hl := q_left_R (s := fd) hv.2.2.1 hi5.1 c9
          refine q_goto F 33 dX1_hungerLeft_29 (by decide) ?_
          refine q_iadd F dX1_hungerLeft_33 ?_
          refine q_nm (fun v34 e34 => ?_)
          refine q_istore_n F dX1_hungerLeft_34 [(3, .int (q_I v34)), (0, .ref (q_ad G c)), (1, .int (q_I s)), (2, .int (q_I fd)), (4, .int (q_I g))] (Nat.le_of_ble_eq_true rfl) rfl ?_
          obtain ⟨v35, e35⟩ : ∃ z_ : Int, z_ = g + 1 := ⟨_, rfl⟩
          refine q_iinc F dX1_hungerLeft_35 4 rfl e35 [(4, .int (q_I v35)), (3, .int (q_I v34)), (0, .ref (q_ad G c)), (1, .int (q_I s)), (2, .int (q_I fd))] (Nat.le_of_ble_eq_true rfl) rfl ?_
          refine q_goto F 5 dX1_hungerLeft_38 (by decide) ?_
          refine q_drop [2, 3, 4, 1, 0] rfl ?_
          exact ih5_1 _ (by omega) v34 v35 (by obtain ⟨h1, h2, h3⟩ := hi5; refine ⟨by omega, by omega, ?_⟩; rw [e35, q_s6_step _ (by omega) (by omega), e34, h3]; rw [if_pos c19]) rfl
  refine q_drop [2, 3, 4, 1, 0] rfl ?_
  exact lp5_1 _ 0 0 ⟨by omega, by omega, (q_s6_0 _).symm⟩ rfl

set_option maxHeartbeats 4000000 in
set_option maxRecDepth 100000 in
theorem c_X1_greatestLeft (G : q_G) (hI : q_inj G) (M : q_M) (c : Nat) (hc : q_co G c) (s : Int) (fd : Int) (hv : q_cv M c) (hs : (0 ≤ s ∧ s ≤ 63) ∧ (0 ≤ fd ∧ fd ≤ 63)) : q_CI G yX1_greatestLeft wsX1_greatestLeft ({ frames := 2, cells := 0, slots := 0, locals := 44 } : Room) [.ref (q_ad G c), .int (q_I s), .int (q_I fd)] M (fun z M' => z = q_m6 (fun x => if q_has s x = true then q_left (M (c + 1)) fd x else 0) ∧ M' = M) := by
  refine q_CI.of hI (by decide) rfl RX1 rfl [(0, .ref (q_ad G c)), (1, .int (q_I s)), (2, .int (q_I fd))] rfl (Nat.le_of_ble_eq_true rfl) (fun E F FI => ?_)
  refine q_MRof (fun hM => ?_)
  have hv4 := hv.1
  have hv5 := hv.2.1
  have hR : ∀ x, 0 ≤ x → x < 6 → 0 ≤ (fun x => if q_has s x = true then q_left (M (c + 1)) fd x else 0) x ∧ (fun x => if q_has s x = true then q_left (M (c + 1)) fd x else 0) x ≤ 20 := fun x h0 h1 => by
      have := q_left_R (s := fd) hv.2.2.1 h0 h1
      show 0 ≤ (if q_has s x = true then _ else (0 : Int)) ∧ (if q_has s x = true then _ else (0 : Int)) ≤ 20
      split <;> omega
  refine q_iconst F dX1_greatestLeft_0 ?_
  refine q_istore_n F dX1_greatestLeft_1 [(3, .int (q_I 0)), (0, .ref (q_ad G c)), (1, .int (q_I s)), (2, .int (q_I fd))] (Nat.le_of_ble_eq_true rfl) rfl ?_
  refine q_iconst F dX1_greatestLeft_2 ?_
  refine q_istore F dX1_greatestLeft_3 [(4, .int (q_I 0)), (3, .int (q_I 0)), (0, .ref (q_ad G c)), (1, .int (q_I s)), (2, .int (q_I fd))] (Nat.le_of_ble_eq_true rfl) rfl ?_
  have lp5_1 : ∀ (k5_1 : Nat) (z : Int) (g : Int), (0 ≤ g ∧ g ≤ 6 ∧ z = q_m6 (q_lz (fun x => if q_has s x = true then q_left (M (c + 1)) fd x else 0) g)) → (6 - g).toNat = k5_1 → q_Y G E 5 M [(0, .ref (q_ad G c)), (1, .int (q_I s)), (2, .int (q_I fd)), (3, .int (q_I z)), (4, .int (q_I g))] 5 [] := by
    intro k5_1
    induction k5_1 using Nat.strongRecOn with
    | _ k5_1 ih5_1 =>
      intro z g   hi5 hk5
      have hz : 0 ≤ z ∧ z ≤ 120 := by rw [hi5.2.2]; exact q_m6_B hR
      refine q_iload F dX1_greatestLeft_5 4 rfl ?_
      refine q_bipush F dX1_greatestLeft_7 (by decide) ?_
      refine q_icmp_ge F 43 dX1_greatestLeft_9 (by decide) (by omega) (fun c9 => ?_) (fun c9 => ?_)
      · refine q_iload_n F dX1_greatestLeft_43 3 rfl ?_
        exact q_iret F FI dX1_greatestLeft_44 (by omega) (by obtain ⟨h1, h2, h3⟩ := hi5; rw [h3, show g = 6 by omega, q_m6_6]; exact ⟨rfl, rfl⟩)
      · refine q_iload_n F dX1_greatestLeft_12 3 rfl ?_
        refine q_iload_n F dX1_greatestLeft_13 1 rfl ?_
        refine q_iload F dX1_greatestLeft_14 4 rfl ?_
        refine q_callNP (n := 2) F (c_X8_holds G hI M s g (by omega)) rfl gX1_greatestLeft_X8_holds_n45 (host := RX8) (by decide +kernel) (by decide +kernel) (by decide +kernel) ⟨by decide, by decide, by decide +kernel⟩ rfl ⟨rfl, rfl, Nat.le_of_ble_eq_true rfl, Nat.le_of_ble_eq_true rfl⟩ rfl (Nat.le_of_ble_eq_true rfl) dX1_greatestLeft_16 (fun h16 => ?_)
        refine q_ifb_eq F 32 dX1_greatestLeft_19 (by decide) (fun c19 => ?_) (fun c19 => ?_)
        · refine q_iconst F dX1_greatestLeft_32 ?_
          refine q_mmax F (by omega) (by decide +kernel) (by decide +kernel) (by decide +kernel) (by decide +kernel) ⟨Nat.le_of_ble_eq_true rfl, Nat.le_of_ble_eq_true rfl⟩ dX1_greatestLeft_33 ?_
          refine q_nm (fun v36 e36 => ?_)
          refine q_istore_n F dX1_greatestLeft_36 [(3, .int (q_I v36)), (0, .ref (q_ad G c)), (1, .int (q_I s)), (2, .int (q_I fd)), (4, .int (q_I g))] (Nat.le_of_ble_eq_true rfl) rfl ?_
          obtain ⟨v37, e37⟩ : ∃ z_ : Int, z_ = g + 1 := ⟨_, rfl⟩
          refine q_iinc F dX1_greatestLeft_37 4 rfl e37 [(4, .int (q_I v37)), (3, .int (q_I v36)), (0, .ref (q_ad G c)), (1, .int (q_I s)), (2, .int (q_I fd))] (Nat.le_of_ble_eq_true rfl) rfl ?_
          refine q_goto F 5 dX1_greatestLeft_40 (by decide) ?_
          refine q_drop [2, 3, 4, 1, 0] rfl ?_
          exact ih5_1 _ (by omega) v36 v37 (by obtain ⟨h1, h2, h3⟩ := hi5; refine ⟨by omega, by omega, ?_⟩; rw [e37, q_m6_step _ (fun x h0 h1 => (hR x h0 h1).1) (by omega) (by omega), e36, h3]; rw [if_neg (by simp [c19])]) rfl
        · refine q_aload_n F dX1_greatestLeft_22 0 rfl ?_
          refine q_iload F dX1_greatestLeft_23 4 rfl ?_
          refine q_iload_n F dX1_greatestLeft_25 2 rfl ?_
          refine q_callVP (n := 2) (T := TX1) F (c_X1_leftBy G hI M c hc g fd (by assumption) (by omega) (by omega)) rfl rfl hc.1 gX1_greatestLeft_X1_leftBy rfl ⟨by decide, by decide, by decide +kernel⟩ rfl ⟨rfl, rfl, Nat.le_of_ble_eq_true rfl, Nat.le_of_ble_eq_true rfl⟩ rfl (Nat.le_of_ble_eq_true rfl) dX1_greatestLeft_26 (fun h26 => ?_)
          have hl := q_left_R (s := fd) hv.2.2.1 hi5.1 c9
          refine q_goto F 33 dX1_greatestLeft_29 (by decide) ?_
          refine q_mmax F (by omega) (by decide +kernel) (by decide +kernel) (by decide +kernel) (by decide +kernel) ⟨Nat.le_of_ble_eq_true rfl, Nat.le_of_ble_eq_true rfl⟩ dX1_greatestLeft_33 ?_
          refine q_nm (fun v36 e36 => ?_)
          refine q_istore_n F dX1_greatestLeft_36 [(3, .int (q_I v36)), (0, .ref (q_ad G c)), (1, .int (q_I s)), (2, .int (q_I fd)), (4, .int (q_I g))] (Nat.le_of_ble_eq_true rfl) rfl ?_
          obtain ⟨v37, e37⟩ : ∃ z_ : Int, z_ = g + 1 := ⟨_, rfl⟩
          refine q_iinc F dX1_greatestLeft_37 4 rfl e37 [(4, .int (q_I v37)), (3, .int (q_I v36)), (0, .ref (q_ad G c)), (1, .int (q_I s)), (2, .int (q_I fd))] (Nat.le_of_ble_eq_true rfl) rfl ?_
          refine q_goto F 5 dX1_greatestLeft_40 (by decide) ?_
          refine q_drop [2, 3, 4, 1, 0] rfl ?_
          exact ih5_1 _ (by omega) v36 v37 (by obtain ⟨h1, h2, h3⟩ := hi5; refine ⟨by omega, by omega, ?_⟩; rw [e37, q_m6_step _ (fun x h0 h1 => (hR x h0 h1).1) (by omega) (by omega), e36, h3]; rw [if_pos c19]) rfl
  refine q_drop [2, 3, 4, 1, 0] rfl ?_
  exact lp5_1 _ 0 0 ⟨by omega, by omega, (q_m6_0 _).symm⟩ rfl

set_option maxHeartbeats 4000000 in
set_option maxRecDepth 100000 in
theorem c_X1_become (G : q_G) (hI : q_inj G) (M : q_M) (c : Nat) (hc : q_co G c) (o : Nat) (ho : q_co G o) (hd : o + 4 < c ∨ c + 4 < o) : q_CV G yX1_become wsX1_become ({ frames := 2, cells := 0, slots := 0, locals := 47 } : Room) [.ref (q_ad G c), .ref (q_ad G o)] M (fun M' => (∀ j, (j < c ∨ c + 3 < j) → M' j = M j) ∧ M' c 4 = M o 4 ∧ M' c 5 = M o 5 ∧ ∀ x, 0 ≤ x → x < 6 → M' (c + 1) x = M (o + 1) x ∧ M' (c + 2) x = M (o + 2) x ∧ M' (c + 3) x = M (o + 3) x) := by
  refine q_CV.of hI (by decide) rfl RX1 rfl [(0, .ref (q_ad G c)), (1, .ref (q_ad G o))] rfl (Nat.le_of_ble_eq_true rfl) (fun E F FV => ?_)
  have huX1 : ∀ w ∈ wsX10, w ∈ wsX1_become := by decide +kernel
  refine q_MRof (fun hM => ?_)
  refine q_aload_n F dX1_become_0 1 rfl ?_
  refine q_getr (T := TX1) (ref := "LeastHungry$Company") F huX1 rfl ho.1 0 (by decide) (by decide +kernel) rfl rfl dX1_become_1 ?_
  refine q_aload_n F dX1_become_4 0 rfl ?_
  refine q_getr (T := TX1) (ref := "LeastHungry$Company") F huX1 rfl hc.1 0 (by decide) (by decide +kernel) rfl rfl dX1_become_5 ?_
  refine q_callNV (n := 2) F (c_X8_copyRow G hI M (o + 1) (c + 1) 6 ho.2.1 hc.2.1 (by omega)) rfl gX1_become_X8_copyRow_n28 (host := RX8) (by decide +kernel) (by decide +kernel) (by decide +kernel) ⟨by decide, by decide, by decide +kernel⟩ rfl ⟨rfl, rfl, Nat.le_of_ble_eq_true rfl, Nat.le_of_ble_eq_true rfl⟩ rfl (Nat.le_of_ble_eq_true rfl) dX1_become_8 (fun N8 p8 => ?_)
  refine q_aload_n F dX1_become_11 1 rfl ?_
  refine q_getr (T := TX1) (ref := "LeastHungry$Company") F huX1 rfl ho.1 1 (by decide) (by decide +kernel) rfl rfl dX1_become_12 ?_
  refine q_aload_n F dX1_become_15 0 rfl ?_
  refine q_getr (T := TX1) (ref := "LeastHungry$Company") F huX1 rfl hc.1 1 (by decide) (by decide +kernel) rfl rfl dX1_become_16 ?_
  refine q_callNV (n := 2) F (c_X8_copyRow G hI N8 (o + 2) (c + 2) 6 ho.2.2.1 hc.2.2.1 (by omega)) rfl gX1_become_X8_copyRow_n28 (host := RX8) (by decide +kernel) (by decide +kernel) (by decide +kernel) ⟨by decide, by decide, by decide +kernel⟩ rfl ⟨rfl, rfl, Nat.le_of_ble_eq_true rfl, Nat.le_of_ble_eq_true rfl⟩ rfl (Nat.le_of_ble_eq_true rfl) dX1_become_19 (fun N19 p19 => ?_)
  refine q_aload_n F dX1_become_22 1 rfl ?_
  refine q_getr (T := TX1) (ref := "LeastHungry$Company") F huX1 rfl ho.1 2 (by decide) (by decide +kernel) rfl rfl dX1_become_23 ?_
  refine q_aload_n F dX1_become_26 0 rfl ?_
  refine q_getr (T := TX1) (ref := "LeastHungry$Company") F huX1 rfl hc.1 2 (by decide) (by decide +kernel) rfl rfl dX1_become_27 ?_
  refine q_callNV (n := 2) F (c_X8_copyRow G hI N19 (o + 3) (c + 3) 6 ho.2.2.2.1 hc.2.2.2.1 (by omega)) rfl gX1_become_X8_copyRow_n28 (host := RX8) (by decide +kernel) (by decide +kernel) (by decide +kernel) ⟨by decide, by decide, by decide +kernel⟩ rfl ⟨rfl, rfl, Nat.le_of_ble_eq_true rfl, Nat.le_of_ble_eq_true rfl⟩ rfl (Nat.le_of_ble_eq_true rfl) dX1_become_30 (fun N30 p30 => ?_)
  refine q_aload_n F dX1_become_33 0 rfl ?_
  refine q_aload_n F dX1_become_34 1 rfl ?_
  refine q_geti (T := TX1) (ref := "LeastHungry$Company") F huX1 rfl ho.1 4 (by decide) (by decide +kernel) rfl 4 rfl rfl dX1_become_35 (fun h35 => ?_)
  refine q_puti (T := TX1) (ref := "LeastHungry$Company") F huX1 rfl hc.1 4 (by decide) (by decide +kernel) rfl 4 rfl tyX1 tyX1_ok nmX1 rfl rfl (by decide +kernel) (by omega) dX1_become_38 (fun N38 eN38 => ?_)
  refine q_aload_n F dX1_become_41 0 rfl ?_
  refine q_aload_n F dX1_become_42 1 rfl ?_
  refine q_geti (T := TX1) (ref := "LeastHungry$Company") F huX1 rfl ho.1 5 (by decide) (by decide +kernel) rfl 5 rfl rfl dX1_become_43 (fun h43 => ?_)
  refine q_puti (T := TX1) (ref := "LeastHungry$Company") F huX1 rfl hc.1 5 (by decide) (by decide +kernel) rfl 5 rfl tyX1 tyX1_ok nmX1 rfl rfl (by decide +kernel) (by omega) dX1_become_46 (fun N46 eN46 => ?_)
  exact q_vret F FV dX1_become_49 (by
      subst eN46 eN38 p30 p19 p8
      refine ⟨fun j hj => ?_, ?_, ?_, fun x h0 h1 => ⟨?_, ?_, ?_⟩⟩
      · rw [q_up_ne (by omega), q_up_ne (by omega), q_cp_ne (by omega), q_cp_ne (by omega), q_cp_ne (by omega)]
      · rw [q_up_at, if_neg (by omega), q_up_at, if_pos rfl, q_cp_ne (by omega), q_cp_ne (by omega), q_cp_ne (by omega)]
      · rw [q_up_at, if_pos rfl, q_up_ne (by omega), q_cp_ne (by omega), q_cp_ne (by omega), q_cp_ne (by omega)]
      · rw [q_up_ne (by omega), q_up_ne (by omega), q_cp_ne (by omega), q_cp_ne (by omega), q_cp_at, if_pos (by omega)]
      · rw [q_up_ne (by omega), q_up_ne (by omega), q_cp_ne (by omega), q_cp_at, if_pos (by omega), q_cp_ne (by omega)]
      · rw [q_up_ne (by omega), q_up_ne (by omega), q_cp_at, if_pos (by omega), q_cp_ne (by omega), q_cp_ne (by omega)])
