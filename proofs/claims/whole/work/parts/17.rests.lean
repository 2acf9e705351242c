/-! rows at rest, from the table -/
theorem q_rst_congr {S r : Int} {W W' : Int → Int → Int} (hS : 0 ≤ S ∧ S ≤ 63) (hn : q_cnt (q_has S) ≤ 4) (r0 : 0 ≤ r) (r1 : r < q_pw 3 (q_cnt (q_has S)).toNat) (h : ∀ r' x, 0 ≤ r' → r' < q_pw 3 (q_cnt (q_has S)).toNat → 0 ≤ x → x < 6 → W r' x = W' r' x) : q_rst S W r = q_rst S W' r := by
  unfold q_rst
  refine q_all6_congr (fun g g0 g1 => ?_)
  unfold q_rstG
  cases hg : q_has S g
  · rfl
  · rw [Bool.not_true, Bool.false_or, Bool.false_or]
    refine q_all3_congr (fun c c0 c1 => ?_)
    have hr := q_rep_R hS.1 hS.2 hn hg r0 r1 (show 0 ≤ c ∧ c ≤ 2 by omega)
    rw [h _ g hr.1 hr.2 g0 g1, h r g r0 r1 g0 g1]
theorem q_rsl_0 (P : Int → Bool) (D : Int → Int) (w r n : Int) : q_rsl P D w 0 r n = if w = -1 then n else -6 := rfl
set_option maxHeartbeats 4000000 in
set_option maxRecDepth 100000 in
theorem c_X2_rowsAtRest (G : q_G) (hI : q_inj G) (M : q_M) (w : Nat) (hw : q_fe G w) (o : Nat) (ho : q_co G o) (pl : Int) (p : Int) (wt : Int) (hvo : q_cv M o) (hd : o + 4 < w) (hp : (0 ≤ pl ∧ pl ≤ 2) ∧ (1 ≤ p ∧ p ≤ 9) ∧ (-2147483648 ≤ wt ∧ wt ≤ 2147483647)) (hn : q_cnt (q_has (q_set (q_ins (M (o + 3)) (M o 4) pl))) ≤ 4) : q_CI G yX2_rowsAtRest wsX2_rowsAtRest ({ frames := 4, cells := 0, slots := 0, locals := 94 } : Room) [.ref (q_ad G w), .ref (q_ad G o), .int (q_I pl), .int (q_I p), .int (q_I wt)] M (fun z M' => z = q_R3 (M (o + 1)) (M (o + 2)) (M (o + 3)) (M o 4) (M o 5) (q_set (q_ins (M (o + 3)) (M o 4) pl)) pl p wt ∧ ∀ j, (j < w ∨ w + 6 < j) → M' j = M j) := by
  refine q_CI.of hI (by decide) rfl RX2 rfl [(0, .ref (q_ad G w)), (1, .ref (q_ad G o)), (2, .int (q_I pl)), (3, .int (q_I p)), (4, .int (q_I wt))] rfl (Nat.le_of_ble_eq_true rfl) (fun E F FI => ?_)
  have huX1 : ∀ w ∈ wsX10, w ∈ wsX2_rowsAtRest := by decide +kernel
  have huX2 : ∀ w ∈ wsX20, w ∈ wsX2_rowsAtRest := by decide +kernel
  refine q_MRof (fun hM => ?_)
  refine q_aload_n F dX2_rowsAtRest_0 0 rfl ?_
  refine q_getr (T := TX2) (ref := "LeastHungry$Feigning") F huX2 rfl hw.1 0 (by decide) (by decide +kernel) rfl rfl dX2_rowsAtRest_1 ?_
  refine q_aload_n F dX2_rowsAtRest_4 1 rfl ?_
  refine q_callVV (n := 1) (T := TX1) F (c_X1_become G hI M (w + 1) hw.2.1 o ho (by omega)) rfl rfl hw.2.1.1 gX2_rowsAtRest_X1_become rfl ⟨by decide, by decide, by decide +kernel⟩ rfl ⟨rfl, rfl, Nat.le_of_ble_eq_true rfl, Nat.le_of_ble_eq_true rfl⟩ rfl (Nat.le_of_ble_eq_true rfl) dX2_rowsAtRest_5 (fun N5 p5 => ?_)
  obtain ⟨b1, b2, b3, b4⟩ := p5
  have hv5 : q_cv N5 (w + 1) := ⟨by rw [b2]; exact hvo.1, by rw [b3]; exact hvo.2.1, fun x h0 h1 => by rw [(b4 x h0 h1).1]; exact hvo.2.2.1 x h0 h1, fun x h0 h1 => by rw [(b4 x h0 h1).2.1]; exact hvo.2.2.2.1 x h0 h1, fun x h0 h1 => by rw [(b4 x h0 h1).2.2]; exact hvo.2.2.2.2 x h0 h1⟩
  have hag : q_agR (N5 (w + 1 + 1)) (N5 (w + 1 + 2)) (N5 (w + 1 + 3)) (M (o + 1)) (M (o + 2)) (M (o + 3)) := b4
  refine q_aload_n F dX2_rowsAtRest_8 0 rfl ?_
  refine q_getr (T := TX2) (ref := "LeastHungry$Feigning") F huX2 rfl hw.1 0 (by decide) (by decide +kernel) rfl rfl dX2_rowsAtRest_9 ?_
  refine q_iload_n F dX2_rowsAtRest_12 2 rfl ?_
  refine q_callVP (n := 1) (T := TX1) F (c_X1_inside G hI N5 (w + 1) hw.2.1 pl hv5 (by omega)) rfl rfl hw.2.1.1 gX2_rowsAtRest_X1_inside rfl ⟨by decide, by decide, by decide +kernel⟩ rfl ⟨rfl, rfl, Nat.le_of_ble_eq_true rfl, Nat.le_of_ble_eq_true rfl⟩ rfl (Nat.le_of_ble_eq_true rfl) dX2_rowsAtRest_13 (fun h13 => ?_)
  refine q_nm (fun v16 e16 => ?_)
  refine q_istore F dX2_rowsAtRest_16 [(5, .int (q_I v16)), (0, .ref (q_ad G w)), (1, .ref (q_ad G o)), (2, .int (q_I pl)), (3, .int (q_I p)), (4, .int (q_I wt))] (Nat.le_of_ble_eq_true rfl) rfl ?_
  have hS : 0 ≤ v16 ∧ v16 ≤ 63 := by rw [e16]; exact q_set_R _
  have e16o : v16 = q_set (q_ins (M (o + 3)) (M o 4) pl) := by
    rw [e16, b2]
    exact q_set_congr (fun x x0 x1 => q_ins_sim (q_agR_sim hag) x)
  have hn16 : q_cnt (q_has v16) ≤ 4 := by rw [e16o]; exact hn
  have hcr := q_cnt_R (q_has v16)
  refine q_iconst F dX2_rowsAtRest_18 ?_
  refine q_iload F dX2_rowsAtRest_19 0 rfl ?_
  refine q_callSP (n := 1) F (c_J6_bitCount_0f7a4 G hI N5 v16 (by omega)) rfl gX2_rowsAtRest_J6_bitCount_0f7a4 ⟨by decide, by decide, by decide +kernel⟩ rfl ⟨rfl, rfl, Nat.le_of_ble_eq_true rfl, Nat.le_of_ble_eq_true rfl⟩ rfl (Nat.le_of_ble_eq_true rfl) dX2_rowsAtRest_21 (fun h21 => ?_)
  refine q_callNP (n := 2) F (c_X8_power G hI N5 3 _ (by omega)) rfl gX2_rowsAtRest_X8_power_n57 (host := RX8) (by decide +kernel) (by decide +kernel) (by decide +kernel) ⟨by decide, by decide, by decide +kernel⟩ rfl ⟨rfl, rfl, Nat.le_of_ble_eq_true rfl, Nat.le_of_ble_eq_true rfl⟩ rfl (Nat.le_of_ble_eq_true rfl) dX2_rowsAtRest_24 (fun h24 => ?_)
  refine q_nm (fun v27 e27 => ?_)
  refine q_istore F dX2_rowsAtRest_27 [(6, .int (q_I v27)), (5, .int (q_I v16)), (0, .ref (q_ad G w)), (1, .ref (q_ad G o)), (2, .int (q_I pl)), (3, .int (q_I p)), (4, .int (q_I wt))] (Nat.le_of_ble_eq_true rfl) rfl ?_
  have hv27 : 1 ≤ v27 ∧ v27 ≤ 81 := by rw [e27]; exact ⟨q_pw_pos (by omega) _, q_pw3_80 hn16⟩
  refine q_iconst F dX2_rowsAtRest_29 ?_
  refine q_istore F dX2_rowsAtRest_30 [(7, .int (q_I 0)), (6, .int (q_I v27)), (5, .int (q_I v16)), (0, .ref (q_ad G w)), (1, .ref (q_ad G o)), (2, .int (q_I pl)), (3, .int (q_I p)), (4, .int (q_I wt))] (Nat.le_of_ble_eq_true rfl) rfl ?_
  have lp32_1 : ∀ (k32_1 : Nat) (r : Int) (M1 : q_M), ((0 ≤ r ∧ r ≤ v27) ∧ (∀ j, j ≠ w + 1 + 2 → j ≠ w + 1 + 4 → j ≠ w + 6 → M1 j = N5 j) ∧ q_cv M1 (w + 1) ∧ (∀ x, ¬ q_has v16 x = true → M1 (w + 1 + 2) x = N5 (w + 1 + 2) x) ∧ (∀ r' x, 0 ≤ r' → r' < r → 0 ≤ x → x < 6 → M1 (w + 6) (r' * 6 + x) = q_W3 (N5 (w + 1 + 1)) (N5 (w + 1 + 2)) (N5 (w + 1 + 3)) (N5 (w + 1) 4) (N5 (w + 1) 5) v16 pl p r' x)) → (v27 - r).toNat = k32_1 → q_Y G E 9 M1 [(0, .ref (q_ad G w)), (1, .ref (q_ad G o)), (2, .int (q_I pl)), (3, .int (q_I p)), (4, .int (q_I wt)), (5, .int (q_I v16)), (6, .int (q_I v27)), (7, .int (q_I r))] 32 [] := by
    intro k32_1
    induction k32_1 using Nat.strongRecOn with
    | _ k32_1 ih32_1 =>
      intro r  M1 hi32 hk32
      refine q_MRof (fun hM32 => ?_)
      refine q_iload F dX2_rowsAtRest_32 7 rfl ?_
      refine q_iload F dX2_rowsAtRest_34 6 rfl ?_
      refine q_icmp_ge F 76 dX2_rowsAtRest_36 (by decide) (by omega) (fun c36 => ?_) (fun c36 => ?_)
      · refine q_iconst F dX2_rowsAtRest_76 ?_
        refine q_istore F dX2_rowsAtRest_77 [(7, .int (q_I 0)), (0, .ref (q_ad G w)), (1, .ref (q_ad G o)), (2, .int (q_I pl)), (3, .int (q_I p)), (4, .int (q_I wt)), (5, .int (q_I v16)), (6, .int (q_I v27))] (Nat.le_of_ble_eq_true rfl) rfl ?_
        refine q_iconst F dX2_rowsAtRest_79 ?_
        refine q_istore F dX2_rowsAtRest_80 [(8, .int (q_I 0)), (7, .int (q_I 0)), (0, .ref (q_ad G w)), (1, .ref (q_ad G o)), (2, .int (q_I pl)), (3, .int (q_I p)), (4, .int (q_I wt)), (5, .int (q_I v16)), (6, .int (q_I v27))] (Nat.le_of_ble_eq_true rfl) rfl ?_
        have lp82_2 : ∀ (k82_2 : Nat) (n : Int) (r : Int), ((0 ≤ n ∧ n ≤ r ∧ 0 ≤ r ∧ r ≤ v27) ∧ True ∧ q_rsl (q_P3 (N5 (w + 1 + 1)) (N5 (w + 1 + 2)) (N5 (w + 1 + 3)) (N5 (w + 1) 4) (N5 (w + 1) 5) v16 pl p) (q_D3 v16) wt (v27 - r).toNat r n = q_rsl (q_P3 (N5 (w + 1 + 1)) (N5 (w + 1 + 2)) (N5 (w + 1 + 3)) (N5 (w + 1) 4) (N5 (w + 1) 5) v16 pl p) (q_D3 v16) wt v27.toNat 0 0) → (v27 - r).toNat = k82_2 → q_Y G E 9 M1 [(0, .ref (q_ad G w)), (1, .ref (q_ad G o)), (2, .int (q_I pl)), (3, .int (q_I p)), (4, .int (q_I wt)), (5, .int (q_I v16)), (6, .int (q_I v27)), (7, .int (q_I n)), (8, .int (q_I r))] 82 [] := by
          intro k82_2
          induction k82_2 using Nat.strongRecOn with
          | _ k82_2 ih82_2 =>
            intro n r   hi82 hk82
            refine q_iload F dX2_rowsAtRest_82 8 rfl ?_
            refine q_iload F dX2_rowsAtRest_84 6 rfl ?_
            refine q_icmp_ge F 125 dX2_rowsAtRest_86 (by decide) (by omega) (fun c86 => ?_) (fun c86 => ?_)
            · refine q_iload F dX2_rowsAtRest_125 4 rfl ?_
              refine q_iconst F dX2_rowsAtRest_127 ?_
              refine q_icmp_ne F 136 dX2_rowsAtRest_128 (by decide) (by omega) (fun c128 => ?_) (fun c128 => ?_)
              · refine q_bipush F dX2_rowsAtRest_136 (by decide) ?_
                exact q_iret F FI dX2_rowsAtRest_138 (by omega) (by
      have hu := hi82.2.2
      rw [show (v27 - r).toNat = 0 by omega] at hu
      rw [q_rsl_0] at hu
      rw [if_neg c128] at hu
      refine ⟨?_, fun j hj => ?_⟩
      · rw [show q_R3 (M (o + 1)) (M (o + 2)) (M (o + 3)) (M o 4) (M o 5) (q_set (q_ins (M (o + 3)) (M o 4) pl)) pl p wt = q_rsl (q_P3 (N5 (w + 1 + 1)) (N5 (w + 1 + 2)) (N5 (w + 1 + 3)) (N5 (w + 1) 4) (N5 (w + 1) 5) v16 pl p) (q_D3 v16) wt v27.toNat 0 0 by
          rw [← e16o, ← b2, ← b3, ← q_R3_ag hag, e27]
          rfl]
        exact hu
      · rw [hi32.2.1 j (by omega) (by omega) (by omega)]; exact b1 j (by omega))
              · refine q_iload F dX2_rowsAtRest_131 7 rfl ?_
                refine q_goto F 138 dX2_rowsAtRest_133 (by decide) ?_
                exact q_iret F FI dX2_rowsAtRest_138 (by omega) (by
      have hu := hi82.2.2
      rw [show (v27 - r).toNat = 0 by omega] at hu
      rw [q_rsl_0] at hu
      rw [if_pos c128] at hu
      refine ⟨?_, fun j hj => ?_⟩
      · rw [show q_R3 (M (o + 1)) (M (o + 2)) (M (o + 3)) (M o 4) (M o 5) (q_set (q_ins (M (o + 3)) (M o 4) pl)) pl p wt = q_rsl (q_P3 (N5 (w + 1 + 1)) (N5 (w + 1 + 2)) (N5 (w + 1 + 3)) (N5 (w + 1) 4) (N5 (w + 1) 5) v16 pl p) (q_D3 v16) wt v27.toNat 0 0 by
          rw [← e16o, ← b2, ← b3, ← q_R3_ag hag, e27]
          rfl]
        exact hu
      · rw [hi32.2.1 j (by omega) (by omega) (by omega)]; exact b1 j (by omega))
            · refine q_aload_n F dX2_rowsAtRest_89 0 rfl ?_
              refine q_iload F dX2_rowsAtRest_90 5 rfl ?_
              refine q_iload F dX2_rowsAtRest_92 8 rfl ?_
              refine q_callVP (n := 2) (T := TX2) F (c_X2_isAtRest G hI M1 w hw v16 r (by omega) hn16 ⟨hi82.1.2.2.1, by rw [← e27]; exact c86⟩) rfl rfl hw.1 gX2_rowsAtRest_X2_isAtRest rfl ⟨by decide, by decide, by decide +kernel⟩ rfl ⟨rfl, rfl, Nat.le_of_ble_eq_true rfl, Nat.le_of_ble_eq_true rfl⟩ rfl (Nat.le_of_ble_eq_true rfl) dX2_rowsAtRest_94 (fun h94 => ?_)
              have hP : q_rst v16 (fun r g => M1 (w + 6) (r * 6 + g)) r = q_P3 (N5 (w + 1 + 1)) (N5 (w + 1 + 2)) (N5 (w + 1 + 3)) (N5 (w + 1) 4) (N5 (w + 1) 5) v16 pl p r := q_rst_congr hS hn16 hi82.1.2.2.1 (by omega) (fun r' x h0 h1 x0 x1 => hi32.2.2.2.2 r' x h0 (by omega) x0 x1)
              rw [hP]
              refine q_ifb_eq F 119 dX2_rowsAtRest_97 (by decide) (fun c97 => ?_) (fun c97 => ?_)
              · obtain ⟨v119, e119⟩ : ∃ z_ : Int, z_ = r + 1 := ⟨_, rfl⟩
                refine q_iinc F dX2_rowsAtRest_119 8 rfl e119 [(8, .int (q_I v119)), (0, .ref (q_ad G w)), (1, .ref (q_ad G o)), (2, .int (q_I pl)), (3, .int (q_I p)), (4, .int (q_I wt)), (5, .int (q_I v16)), (6, .int (q_I v27)), (7, .int (q_I n))] (Nat.le_of_ble_eq_true rfl) rfl ?_
                refine q_goto F 82 dX2_rowsAtRest_122 (by decide) ?_
                refine q_drop [1, 2, 3, 4, 5, 6, 7, 8, 0] rfl ?_
                exact ih82_2 _ (by omega) n v119 ⟨by omega, trivial, by have hu := hi82.2.2; rw [show (v27 - r).toNat = (v27 - v119).toNat + 1 by omega, q_rsl_u, if_neg (by simp [c97])] at hu; rw [← hu, e119]⟩ rfl
              · refine q_iload F dX2_rowsAtRest_100 7 rfl ?_
                refine q_iload F dX2_rowsAtRest_102 4 rfl ?_
                refine q_icmp_ne F 116 dX2_rowsAtRest_104 (by decide) (by omega) (fun c104 => ?_) (fun c104 => ?_)
                · obtain ⟨v116, e116⟩ : ∃ z_ : Int, z_ = n + 1 := ⟨_, rfl⟩
                  refine q_iinc F dX2_rowsAtRest_116 7 rfl e116 [(7, .int (q_I v116)), (0, .ref (q_ad G w)), (1, .ref (q_ad G o)), (2, .int (q_I pl)), (3, .int (q_I p)), (4, .int (q_I wt)), (5, .int (q_I v16)), (6, .int (q_I v27)), (8, .int (q_I r))] (Nat.le_of_ble_eq_true rfl) rfl ?_
                  obtain ⟨v119, e119⟩ : ∃ z_ : Int, z_ = r + 1 := ⟨_, rfl⟩
                  refine q_iinc F dX2_rowsAtRest_119 8 rfl e119 [(8, .int (q_I v119)), (7, .int (q_I v116)), (0, .ref (q_ad G w)), (1, .ref (q_ad G o)), (2, .int (q_I pl)), (3, .int (q_I p)), (4, .int (q_I wt)), (5, .int (q_I v16)), (6, .int (q_I v27))] (Nat.le_of_ble_eq_true rfl) rfl ?_
                  refine q_goto F 82 dX2_rowsAtRest_122 (by decide) ?_
                  refine q_drop [2, 3, 4, 5, 6, 7, 8, 1, 0] rfl ?_
                  exact ih82_2 _ (by omega) v116 v119 ⟨by omega, trivial, by have hu := hi82.2.2; rw [show (v27 - r).toNat = (v27 - v119).toNat + 1 by omega, q_rsl_u, if_pos c97, if_neg c104] at hu; rw [← hu, e119, e116]⟩ rfl
                · refine q_aload_n F dX2_rowsAtRest_107 0 rfl ?_
                  refine q_iload F dX2_rowsAtRest_108 5 rfl ?_
                  refine q_iload F dX2_rowsAtRest_110 8 rfl ?_
                  refine q_callVI (n := 2) (T := TX2) F (c_X2_digitsOf G hI M1 w hw v16 r (by omega)) rfl rfl hw.1 gX2_rowsAtRest_X2_digitsOf rfl ⟨by decide, by decide, by decide +kernel⟩ rfl ⟨rfl, rfl, Nat.le_of_ble_eq_true rfl, Nat.le_of_ble_eq_true rfl⟩ rfl (Nat.le_of_ble_eq_true rfl) dX2_rowsAtRest_112 (fun r112 N112 h112 p112 => ?_)
                  exact q_iret F FI dX2_rowsAtRest_115 (by omega) (by
      have hu := hi82.2.2
      rw [show (v27 - r).toNat = (v27 - r - 1).toNat + 1 by omega, q_rsl_u, if_pos c97, if_pos c104, ← p112.1] at hu
      refine ⟨?_, fun j hj => ?_⟩
      · rw [show q_R3 (M (o + 1)) (M (o + 2)) (M (o + 3)) (M o 4) (M o 5) (q_set (q_ins (M (o + 3)) (M o 4) pl)) pl p wt = q_rsl (q_P3 (N5 (w + 1 + 1)) (N5 (w + 1 + 2)) (N5 (w + 1 + 3)) (N5 (w + 1) 4) (N5 (w + 1) 5) v16 pl p) (q_D3 v16) wt v27.toNat 0 0 by
          rw [← e16o, ← b2, ← b3, ← q_R3_ag hag, e27]
          rfl]
        exact hu
      · rw [p112.2 j (by omega), hi32.2.1 j (by omega) (by omega) (by omega)]; exact b1 j (by omega))
        refine q_drop [2, 3, 4, 5, 6, 7, 8, 1, 0] rfl ?_
        exact lp82_2 _ 0 0 ⟨by omega, trivial, by rw [show v27 - 0 = v27 by omega]⟩ rfl
      · refine q_aload_n F dX2_rowsAtRest_39 0 rfl ?_
        refine q_getr (T := TX2) (ref := "LeastHungry$Feigning") F huX2 rfl hw.1 0 (by decide) (by decide +kernel) rfl rfl dX2_rowsAtRest_40 ?_
        refine q_getr (T := TX1) (ref := "LeastHungry$Company") F huX1 rfl hw.2.1.1 1 (by decide) (by decide +kernel) rfl rfl dX2_rowsAtRest_43 ?_
        refine q_iload F dX2_rowsAtRest_46 5 rfl ?_
        refine q_iload F dX2_rowsAtRest_48 7 rfl ?_
        refine q_iconst F dX2_rowsAtRest_50 ?_
        refine q_iconst F dX2_rowsAtRest_51 ?_
        refine q_callNV (n := 5) F (c_X8_spread G hI M1 ((w + 1) + 2) 6 hw.2.1.2.2.1 v16 r 3 3 (by omega) (by decide)) rfl gX2_rowsAtRest_X8_spread_n60 (host := RX8) (by decide +kernel) (by decide +kernel) (by decide +kernel) ⟨by decide, by decide, by decide +kernel⟩ rfl ⟨rfl, rfl, Nat.le_of_ble_eq_true rfl, Nat.le_of_ble_eq_true rfl⟩ rfl (Nat.le_of_ble_eq_true rfl) dX2_rowsAtRest_52 (fun N52 p52 => ?_)
        have e52 : N52 (w + 1 + 2) = q_F3 v16 (N5 (w + 1 + 2)) r := funext fun x => by
          rw [p52.2 x]
          unfold q_F3
          by_cases hx : q_has v16 x = true
          · rw [if_pos hx, if_pos hx]
          · rw [if_neg hx, if_neg hx, hi32.2.2.2.1 x hx]
        have f52 : ∀ j, j ≠ w + 1 + 2 → j ≠ w + 1 + 4 → j ≠ w + 6 → N52 j = N5 j := fun j h1 h2 h3 => by rw [p52.1 j h1]; exact hi32.2.1 j h1 h2 h3
        have hv52 : q_cv N52 (w + 1) := ⟨by rw [f52 _ (by omega) (by omega) (by omega)]; exact hv5.1, by rw [f52 _ (by omega) (by omega) (by omega)]; exact hv5.2.1, by rw [f52 _ (by omega) (by omega) (by omega)]; exact hv5.2.2.1, by rw [e52]; exact q_F3_v hv5.2.2.2.1, by rw [f52 _ (by omega) (by omega) (by omega)]; exact hv5.2.2.2.2⟩
        refine q_aload_n F dX2_rowsAtRest_55 0 rfl ?_
        refine q_iload F dX2_rowsAtRest_56 7 rfl ?_
        refine q_aload_n F dX2_rowsAtRest_58 0 rfl ?_
        refine q_getr (T := TX2) (ref := "LeastHungry$Feigning") F huX2 rfl hw.1 0 (by decide) (by decide +kernel) rfl rfl dX2_rowsAtRest_59 ?_
        refine q_iload_n F dX2_rowsAtRest_62 2 rfl ?_
        refine q_iload_n F dX2_rowsAtRest_63 3 rfl ?_
        refine q_callVI (n := 2) (T := TX1) F (c_X1_takers G hI N52 (w + 1) hw.2.1 pl p hv52 (by omega)) rfl rfl hw.2.1.1 gX2_rowsAtRest_X1_takers rfl ⟨by decide, by decide, by decide +kernel⟩ rfl ⟨rfl, rfl, Nat.le_of_ble_eq_true rfl, Nat.le_of_ble_eq_true rfl⟩ rfl (Nat.le_of_ble_eq_true rfl) dX2_rowsAtRest_64 (fun r64 N64 h64 p64 => ?_)
        have hr64 : 0 ≤ r64 ∧ r64 ≤ 63 := by rw [p64.1]; exact q_set_R _
        have hv64 := q_cv_fr hv52 p64.2 (by omega)
        refine q_callVV (n := 2) (T := TX2) F (c_X2_noteWorths G hI N64 w hw r r64 hv64 (by omega)) rfl rfl hw.1 gX2_rowsAtRest_X2_noteWorths rfl ⟨by decide, by decide, by decide +kernel⟩ rfl ⟨rfl, rfl, Nat.le_of_ble_eq_true rfl, Nat.le_of_ble_eq_true rfl⟩ rfl (Nat.le_of_ble_eq_true rfl) dX2_rowsAtRest_67 (fun N67 p67 => ?_)
        obtain ⟨v70, e70⟩ : ∃ z_ : Int, z_ = r + 1 := ⟨_, rfl⟩
        refine q_iinc F dX2_rowsAtRest_70 7 rfl e70 [(7, .int (q_I v70)), (0, .ref (q_ad G w)), (1, .ref (q_ad G o)), (2, .int (q_I pl)), (3, .int (q_I p)), (4, .int (q_I wt)), (5, .int (q_I v16)), (6, .int (q_I v27))] (Nat.le_of_ble_eq_true rfl) rfl ?_
        refine q_goto F 32 dX2_rowsAtRest_73 (by decide) ?_
        refine q_drop [1, 2, 3, 4, 5, 6, 7, 0] rfl ?_
        exact ih32_1 _ (by omega) v70 N67 ⟨by omega, fun j h1 h2 h3 => by rw [p67.1 j h3, p64.2 j h2]; exact f52 j h1 h2 h3, q_cv_fr hv64 p67.1 (by omega), fun x hx => by
      rw [p67.1 _ (by omega), p64.2 _ (by omega), e52]
      unfold q_F3
      rw [if_neg hx], fun r' x h0 h1 x0 x1 => by
      rw [p67.2]
      by_cases hr : r' = r
      · rw [hr, if_pos (by omega), show r * 6 + x - r * 6 = x by omega, p64.2 _ (by omega), p64.2 _ (by omega), p64.1, e52, f52 _ (by omega) (by omega) (by omega), f52 _ (by omega) (by omega) (by omega), f52 _ (by omega) (by omega) (by omega)]
        rfl
      · rw [if_neg (by omega), p64.2 _ (by omega), p52.1 _ (by omega)]
        exact hi32.2.2.2.2 r' x h0 (by omega) x0 x1⟩ rfl
  refine q_drop [3, 4, 5, 6, 7, 2, 1, 0] rfl ?_
  exact lp32_1 _ 0 N5 ⟨by omega, fun _ _ _ _ => rfl, hv5, fun _ _ => rfl, fun _ _ h0 h1 => by omega⟩ rfl
