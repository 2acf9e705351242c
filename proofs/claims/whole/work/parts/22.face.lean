set_option maxHeartbeats 4000000 in
set_option maxRecDepth 100000 in
theorem c_X8_round (G : q_G) (hI : q_inj G) (M : q_M) (hx : q_lh G) (hX : q_X M) (g : Int) (m : Int) (d : Int) (w : Int) (hgR : -2147483648 ≤ g ∧ g ≤ 2147483647) (hmR : -2147483648 ≤ m ∧ m ≤ 2147483647) (hdR : -2147483648 ≤ d ∧ d ≤ 2147483647) (hwR : -2147483648 ≤ w ∧ w ≤ 2147483647) : q_CI G yX8_round wsX8_round ({ frames := 7, cells := 0, slots := 0, locals := 165 } : Room) [.ref (q_ad G 0), .int (q_I g), .int (q_I m), .int (q_I d), .int (q_I w)] M (fun z M' => z = S_round (M (1 + 1 + 1)) (M (1 + 1 + 2)) (M (1 + 1 + 3)) (M (1 + 1) 4) (M (1 + 1) 5) g m d w ∧ q_kp M M' ∧ q_ww M') := by
  refine q_CI.of hI (by decide) rfl RX8 rfl [(0, .ref (q_ad G 0)), (1, .int (q_I g)), (2, .int (q_I m)), (3, .int (q_I d)), (4, .int (q_I w))] rfl (Nat.le_of_ble_eq_true rfl) (fun E F FI => ?_)
  have huX0 : ∀ w ∈ wsX00, w ∈ wsX8_round := by decide +kernel
  have huX8 : ∀ w ∈ wsX80, w ∈ wsX8_round := by decide +kernel
  refine q_MRof (fun hM => ?_)
  obtain ⟨xv, xf, xs, xp, xw, xi1, xi2⟩ := id hX
  have xv4 := xv.1
  have xv5 := xv.2.1
  refine q_aload_n F dX8_round_0 0 rfl ?_
  refine q_getr (T := TX8) (ref := "LeastHungry") F huX8 rfl hx.1 0 (by decide) (by decide +kernel) rfl rfl dX8_round_1 ?_
  refine q_getr (T := TX0) (ref := "LeastHungry$Book") F huX0 rfl hx.2.1.1 0 (by decide) (by decide +kernel) rfl rfl dX8_round_4 ?_
  refine q_iload_n F dX8_round_7 1 rfl ?_
  refine q_callVP (n := 1) (T := TX1) F (c_X1_has G hI M (1 + 1) hx.2.1.2.1 g (by assumption) (by omega)) rfl rfl hx.2.1.2.1.1 gX8_round_X1_has rfl ⟨by decide, by decide, by decide +kernel⟩ rfl ⟨rfl, rfl, Nat.le_of_ble_eq_true rfl, Nat.le_of_ble_eq_true rfl⟩ rfl (Nat.le_of_ble_eq_true rfl) dX8_round_8 (fun h8 => ?_)
  refine q_ifb_ne F 16 dX8_round_11 (by decide) (fun c11 => ?_) (fun c11 => ?_)
  · have hgi := q_has_in c11
    have xvh := xv.2.2.1 g hgi.1 hgi.2
    refine q_iload_n F dX8_round_16 2 rfl ?_
    refine q_iconst F dX8_round_17 ?_
    refine q_callSP (n := 2) F (c_X8_isWithin G hI M m 5 (by omega)) rfl gX8_round_X8_isWithin ⟨by decide, by decide, by decide +kernel⟩ rfl ⟨rfl, rfl, Nat.le_of_ble_eq_true rfl, Nat.le_of_ble_eq_true rfl⟩ rfl (Nat.le_of_ble_eq_true rfl) dX8_round_18 (fun h18 => ?_)
    refine q_ifb_eq F 43 dX8_round_21 (by decide) (fun c21 => ?_) (fun c21 => ?_)
    · refine q_bipush F dX8_round_43 (by decide) ?_
      exact q_iret F FI dX8_round_45 (by omega) ⟨by unfold S_round; rw [if_pos c11, if_neg (fun h => absurd h.1 (q_df c21))], q_kp_rf, xw⟩
    · refine q_iload_n F dX8_round_24 3 rfl ?_
      refine q_sipush F dX8_round_25 (by decide) ?_
      refine q_callSP (n := 2) F (c_X8_isWithin G hI M d 999 (by omega)) rfl gX8_round_X8_isWithin ⟨by decide, by decide, by decide +kernel⟩ rfl ⟨rfl, rfl, Nat.le_of_ble_eq_true rfl, Nat.le_of_ble_eq_true rfl⟩ rfl (Nat.le_of_ble_eq_true rfl) dX8_round_28 (fun h28 => ?_)
      refine q_ifb_eq F 43 dX8_round_31 (by decide) (fun c31 => ?_) (fun c31 => ?_)
      · refine q_bipush F dX8_round_43 (by decide) ?_
        exact q_iret F FI dX8_round_45 (by omega) ⟨by unfold S_round; rw [if_pos c11, if_neg (fun h => absurd h.2.1 (q_df c31))], q_kp_rf, xw⟩
      · refine q_iload F dX8_round_34 4 rfl ?_
        refine q_iconst F dX8_round_36 ?_
        refine q_callSP (n := 2) F (c_X8_isWithin G hI M w 1 (by omega)) rfl gX8_round_X8_isWithin ⟨by decide, by decide, by decide +kernel⟩ rfl ⟨rfl, rfl, Nat.le_of_ble_eq_true rfl, Nat.le_of_ble_eq_true rfl⟩ rfl (Nat.le_of_ble_eq_true rfl) dX8_round_37 (fun h37 => ?_)
        refine q_ifb_ne F 46 dX8_round_40 (by decide) (fun c40 => ?_) (fun c40 => ?_)
        · have d1 := q_dt c21
          have d2 := q_dt c31
          have d3 := q_dt c40
          refine q_bipush F dX8_round_46 (by decide) ?_
          refine q_istore F dX8_round_48 [(5, .int (q_I 21)), (0, .ref (q_ad G 0)), (1, .int (q_I g)), (2, .int (q_I m)), (3, .int (q_I d)), (4, .int (q_I w))] (Nat.le_of_ble_eq_true rfl) rfl ?_
          refine q_bipush F dX8_round_50 (by decide) ?_
          refine q_istore F dX8_round_52 [(6, .int (q_I (-6))), (5, .int (q_I 21)), (0, .ref (q_ad G 0)), (1, .int (q_I g)), (2, .int (q_I m)), (3, .int (q_I d)), (4, .int (q_I w))] (Nat.le_of_ble_eq_true rfl) rfl ?_
          refine q_iconst F dX8_round_54 ?_
          refine q_iload_n F dX8_round_55 4 rfl ?_
          refine q_callSP (n := 2) F (c_X8_power G hI M 3 m (by omega)) rfl gX8_round_X8_power ⟨by decide, by decide, by decide +kernel⟩ rfl ⟨rfl, rfl, Nat.le_of_ble_eq_true rfl, Nat.le_of_ble_eq_true rfl⟩ rfl (Nat.le_of_ble_eq_true rfl) dX8_round_56 (fun h56 => ?_)
          refine q_nm (fun v59 e59 => ?_)
          refine q_istore F dX8_round_59 [(7, .int (q_I v59)), (6, .int (q_I (-6))), (5, .int (q_I 21)), (0, .ref (q_ad G 0)), (1, .int (q_I g)), (2, .int (q_I m)), (3, .int (q_I d)), (4, .int (q_I w))] (Nat.le_of_ble_eq_true rfl) rfl ?_
          have hv59 : 1 ≤ v59 ∧ v59 ≤ 243 := by
            rw [e59]
            exact q_pw3_243 (by omega)
          refine q_iconst F dX8_round_61 ?_
          refine q_istore F dX8_round_62 [(8, .int (q_I 0)), (7, .int (q_I v59)), (6, .int (q_I (-6))), (5, .int (q_I 21)), (0, .ref (q_ad G 0)), (1, .int (q_I g)), (2, .int (q_I m)), (3, .int (q_I d)), (4, .int (q_I w))] (Nat.le_of_ble_eq_true rfl) rfl ?_
          have lp64_1 : ∀ (k64_1 : Nat) (b : Int) (fi : Int) (y : Int) (M1 : q_M), ((0 ≤ y ∧ y ≤ v59) ∧ (-2147483648 ≤ b ∧ b ≤ 2147483647) ∧ (b, fi) = q_bsN (fun y => qt_h (q_wk (q_hrT (M (1 + 1) 4)) (M (1 + 1) 4) (M (1 + 1) 5) d g (fun x => y / q_pw 3 (m - 1 - x).toNat % 3) m.toNat (q_T0 (M (1 + 1 + 1)) (M (1 + 1 + 2)) (M (1 + 1 + 3)))) g) (fun y => if m = 0 then -6 else y / q_pw 3 (m - 1).toNat % 3) 21 y.toNat ∧ (∀ j, j < 30 → j ≠ 6 → M1 j = M j) ∧ q_ww M1 ∧ (-2147483648 ≤ fi ∧ fi ≤ 2147483647) ∧ True) → (v59 - y).toNat = k64_1 → q_Y G E 10 M1 [(0, .ref (q_ad G 0)), (1, .int (q_I g)), (2, .int (q_I m)), (3, .int (q_I d)), (4, .int (q_I w)), (5, .int (q_I b)), (6, .int (q_I fi)), (7, .int (q_I v59)), (8, .int (q_I y))] 64 [] := by
            intro k64_1
            induction k64_1 using Nat.strongRecOn with
            | _ k64_1 ih64_1 =>
              intro b fi y  M1 hi64 hk64
              refine q_MRof (fun hM64 => ?_)
              refine q_iload F dX8_round_64 8 rfl ?_
              refine q_iload F dX8_round_66 7 rfl ?_
              refine q_icmp_ge F 127 dX8_round_68 (by decide) (by omega) (fun c68 => ?_) (fun c68 => ?_)
              · refine q_iload F dX8_round_127 4 rfl ?_
                refine q_if_ne F 137 dX8_round_129 (by decide) (by omega) (fun c129 => ?_) (fun c129 => ?_)
                · refine q_iload F dX8_round_137 6 rfl ?_
                  exact q_iret F FI dX8_round_139 (by omega) ⟨by
      have hr := hi64.2.2.1
      rw [show y = v59 by omega, e59] at hr
      unfold S_round
      rw [if_pos c11, if_pos ⟨d1, d2, d3⟩, if_neg c129]
      unfold q_rnd
      rw [← hr], hi64.2.2.2.1, hi64.2.2.2.2.1⟩
                · refine q_iload F dX8_round_132 5 rfl ?_
                  refine q_goto F 139 dX8_round_134 (by decide) ?_
                  exact q_iret F FI dX8_round_139 (by omega) ⟨by
      have hr := hi64.2.2.1
      rw [show y = v59 by omega, e59] at hr
      unfold S_round
      rw [if_pos c11, if_pos ⟨d1, d2, d3⟩, if_pos c129]
      unfold q_rnd
      rw [← hr], hi64.2.2.2.1, hi64.2.2.2.2.1⟩
              · refine q_aload_n F dX8_round_71 0 rfl ?_
                refine q_getr (T := TX8) (ref := "LeastHungry") F huX8 rfl hx.1 4 (by decide) (by decide +kernel) rfl rfl dX8_round_72 ?_
                refine q_aload_n F dX8_round_75 0 rfl ?_
                refine q_getr (T := TX8) (ref := "LeastHungry") F huX8 rfl hx.1 0 (by decide) (by decide +kernel) rfl rfl dX8_round_76 ?_
                refine q_getr (T := TX0) (ref := "LeastHungry$Book") F huX0 rfl hx.2.1.1 0 (by decide) (by decide +kernel) rfl rfl dX8_round_79 ?_
                refine q_iload_n F dX8_round_82 1 rfl ?_
                refine q_iload_n F dX8_round_83 2 rfl ?_
                refine q_iload_n F dX8_round_84 3 rfl ?_
                refine q_iload F dX8_round_85 8 rfl ?_
                refine q_callVI (n := 5) (T := TX6) F (c_X6_walk G hI M1 30 hx.2.2.2.2.2.1 (1 + 1) hx.2.1.2.1 g m d y (q_cv_eq xv (fun j h1 h2 => hi64.2.2.2.1 j (by omega) (by omega))) (by omega) (by omega) (by rw [hi64.2.2.2.1 (1 + 1) (by omega) (by omega)]; exact c11)) rfl rfl hx.2.2.2.2.2.1.1 gX8_round_X6_walk rfl ⟨by decide, by decide, by decide +kernel⟩ rfl ⟨rfl, rfl, Nat.le_of_ble_eq_true rfl, Nat.le_of_ble_eq_true rfl⟩ rfl (Nat.le_of_ble_eq_true rfl) dX8_round_87 (fun r87 N87 h87 p87 => ?_)
                have e1 : ∀ j, j < 6 → M1 j = M j := fun j hj => hi64.2.2.2.1 j (by omega) (by omega)
                have w87 : qt_h (q_wk (q_hrT (M (1 + 1) 4)) (M (1 + 1) 4) (M (1 + 1) 5) d g (fun x => y / q_pw 3 (m - 1 - x).toNat % 3) m.toNat (q_T0 (M (1 + 1 + 1)) (M (1 + 1 + 2)) (M (1 + 1 + 3)))) g = r87 := by
                  rw [p87.1, e1 (1 + 1) (by omega), e1 (1 + 1 + 1) (by omega), e1 (1 + 1 + 2) (by omega), e1 (1 + 1 + 3) (by omega)]
                have b87 := p87.2.1
                have hw1 : q_ww N87 := fun i h0 h1 => by rw [b87 _ (by omega)]; exact hi64.2.2.2.2.1 i h0 h1
                refine q_istore F dX8_round_90 [(9, .int (q_I r87)), (0, .ref (q_ad G 0)), (1, .int (q_I g)), (2, .int (q_I m)), (3, .int (q_I d)), (4, .int (q_I w)), (5, .int (q_I b)), (6, .int (q_I fi)), (7, .int (q_I v59)), (8, .int (q_I y))] (Nat.le_of_ble_eq_true rfl) rfl ?_
                refine q_iload F dX8_round_92 0 rfl ?_
                refine q_iload F dX8_round_94 6 rfl ?_
                refine q_icmp_ge F 121 dX8_round_96 (by decide) (by omega) (fun c96 => ?_) (fun c96 => ?_)
                · obtain ⟨v121, e121⟩ : ∃ z_ : Int, z_ = y + 1 := ⟨_, rfl⟩
                  refine q_iinc F dX8_round_121 9 rfl e121 [(8, .int (q_I v121)), (9, .int (q_I r87)), (0, .ref (q_ad G 0)), (1, .int (q_I g)), (2, .int (q_I m)), (3, .int (q_I d)), (4, .int (q_I w)), (5, .int (q_I b)), (6, .int (q_I fi)), (7, .int (q_I v59))] (Nat.le_of_ble_eq_true rfl) rfl ?_
                  refine q_goto F 64 dX8_round_124 (by decide) ?_
                  refine q_drop [2, 3, 4, 5, 6, 7, 8, 9, 0] rfl ?_
                  exact ih64_1 _ (by omega) b fi v121 N87 ⟨by omega, by omega, by
          rw [show v121.toNat = y.toNat + 1 by omega, q_bsN_s, ← hi64.2.2.1]
          show _ = if qt_h (q_wk (q_hrT (M (1 + 1) 4)) (M (1 + 1) 4) (M (1 + 1) 5) d g (fun x => (y.toNat : Int) / q_pw 3 (m - 1 - x).toNat % 3) m.toNat (q_T0 (M (1 + 1 + 1)) (M (1 + 1 + 2)) (M (1 + 1 + 3)))) g < _ then (qt_h (q_wk (q_hrT (M (1 + 1) 4)) (M (1 + 1) 4) (M (1 + 1) 5) d g (fun x => (y.toNat : Int) / q_pw 3 (m - 1 - x).toNat % 3) m.toNat (q_T0 (M (1 + 1 + 1)) (M (1 + 1 + 2)) (M (1 + 1 + 3)))) g, if m = 0 then -6 else (y.toNat : Int) / q_pw 3 (m - 1).toNat % 3) else _
          rw [Int.toNat_of_nonneg hi64.1.1, w87]
          rw [if_neg (by show ¬ _ < b; omega)], fun j h1 h2 => (b87 j (by omega)).trans (hi64.2.2.2.1 j h1 h2), hw1, by omega, trivial⟩ rfl
                · refine q_iload F dX8_round_99 0 rfl ?_
                  refine q_istore F dX8_round_101 [(5, .int (q_I r87)), (9, .int (q_I r87)), (0, .ref (q_ad G 0)), (1, .int (q_I g)), (2, .int (q_I m)), (3, .int (q_I d)), (4, .int (q_I w)), (6, .int (q_I fi)), (7, .int (q_I v59)), (8, .int (q_I y))] (Nat.le_of_ble_eq_true rfl) rfl ?_
                  refine q_iload_n F dX8_round_103 4 rfl ?_
                  refine q_if_ne F 112 dX8_round_104 (by decide) (by omega) (fun c104 => ?_) (fun c104 => ?_)
                  · refine q_aload_n F dX8_round_112 2 rfl ?_
                    refine q_getr (T := TX8) (ref := "LeastHungry") F huX8 rfl hx.1 4 (by decide) (by decide +kernel) rfl rfl dX8_round_113 ?_
                    refine q_callVP (n := 0) (T := TX6) F (c_X6_firstStop G hI N87 30 hx.2.2.2.2.2.1) rfl rfl hx.2.2.2.2.2.1.1 gX8_round_X6_firstStop rfl ⟨by decide, by decide, by decide +kernel⟩ rfl ⟨rfl, rfl, Nat.le_of_ble_eq_true rfl, Nat.le_of_ble_eq_true rfl⟩ rfl (Nat.le_of_ble_eq_true rfl) dX8_round_116 (fun h116 => ?_)
                    have f87b := rfl (a := N87 (30 + 8) 0)
                    refine q_nm (fun v119 e119 => ?_)
                    refine q_istore F dX8_round_119 [(6, .int (q_I v119)), (5, .int (q_I r87)), (9, .int (q_I r87)), (0, .ref (q_ad G 0)), (1, .int (q_I g)), (2, .int (q_I m)), (3, .int (q_I d)), (4, .int (q_I w)), (7, .int (q_I v59)), (8, .int (q_I y))] (Nat.le_of_ble_eq_true rfl) rfl ?_
                    obtain ⟨v121, e121⟩ : ∃ z_ : Int, z_ = y + 1 := ⟨_, rfl⟩
                    refine q_iinc F dX8_round_121 9 rfl e121 [(8, .int (q_I v121)), (6, .int (q_I v119)), (5, .int (q_I r87)), (9, .int (q_I r87)), (0, .ref (q_ad G 0)), (1, .int (q_I g)), (2, .int (q_I m)), (3, .int (q_I d)), (4, .int (q_I w)), (7, .int (q_I v59))] (Nat.le_of_ble_eq_true rfl) rfl ?_
                    refine q_goto F 64 dX8_round_124 (by decide) ?_
                    refine q_drop [4, 5, 6, 7, 8, 2, 1, 9, 0] rfl ?_
                    exact ih64_1 _ (by omega) r87 v119 v121 N87 ⟨by omega, by omega, by
          rw [show v121.toNat = y.toNat + 1 by omega, q_bsN_s, ← hi64.2.2.1]
          show _ = if qt_h (q_wk (q_hrT (M (1 + 1) 4)) (M (1 + 1) 4) (M (1 + 1) 5) d g (fun x => (y.toNat : Int) / q_pw 3 (m - 1 - x).toNat % 3) m.toNat (q_T0 (M (1 + 1 + 1)) (M (1 + 1 + 2)) (M (1 + 1 + 3)))) g < _ then (qt_h (q_wk (q_hrT (M (1 + 1) 4)) (M (1 + 1) 4) (M (1 + 1) 5) d g (fun x => (y.toNat : Int) / q_pw 3 (m - 1 - x).toNat % 3) m.toNat (q_T0 (M (1 + 1 + 1)) (M (1 + 1 + 2)) (M (1 + 1 + 3)))) g, if m = 0 then -6 else (y.toNat : Int) / q_pw 3 (m - 1).toNat % 3) else _
          rw [Int.toNat_of_nonneg hi64.1.1, w87]
          rw [if_pos (by show _ < b; omega), if_neg c104, ← p87.2.2 (by omega), f87b, e119], fun j h1 h2 => (b87 j (by omega)).trans (hi64.2.2.2.1 j h1 h2), hw1, by omega, trivial⟩ rfl
                  · refine q_bipush F dX8_round_107 (by decide) ?_
                    refine q_goto F 119 dX8_round_109 (by decide) ?_
                    refine q_istore F dX8_round_119 [(6, .int (q_I (-6))), (5, .int (q_I r87)), (9, .int (q_I r87)), (0, .ref (q_ad G 0)), (1, .int (q_I g)), (2, .int (q_I m)), (3, .int (q_I d)), (4, .int (q_I w)), (7, .int (q_I v59)), (8, .int (q_I y))] (Nat.le_of_ble_eq_true rfl) rfl ?_
                    obtain ⟨v121, e121⟩ : ∃ z_ : Int, z_ = y + 1 := ⟨_, rfl⟩
                    refine q_iinc F dX8_round_121 9 rfl e121 [(8, .int (q_I v121)), (6, .int (q_I (-6))), (5, .int (q_I r87)), (9, .int (q_I r87)), (0, .ref (q_ad G 0)), (1, .int (q_I g)), (2, .int (q_I m)), (3, .int (q_I d)), (4, .int (q_I w)), (7, .int (q_I v59))] (Nat.le_of_ble_eq_true rfl) rfl ?_
                    refine q_goto F 64 dX8_round_124 (by decide) ?_
                    refine q_drop [4, 5, 6, 7, 8, 2, 1, 9, 0] rfl ?_
                    exact ih64_1 _ (by omega) r87 (-6) v121 N87 ⟨by omega, by omega, by
          rw [show v121.toNat = y.toNat + 1 by omega, q_bsN_s, ← hi64.2.2.1]
          show _ = if qt_h (q_wk (q_hrT (M (1 + 1) 4)) (M (1 + 1) 4) (M (1 + 1) 5) d g (fun x => (y.toNat : Int) / q_pw 3 (m - 1 - x).toNat % 3) m.toNat (q_T0 (M (1 + 1 + 1)) (M (1 + 1 + 2)) (M (1 + 1 + 3)))) g < _ then (qt_h (q_wk (q_hrT (M (1 + 1) 4)) (M (1 + 1) 4) (M (1 + 1) 5) d g (fun x => (y.toNat : Int) / q_pw 3 (m - 1 - x).toNat % 3) m.toNat (q_T0 (M (1 + 1 + 1)) (M (1 + 1 + 2)) (M (1 + 1 + 3)))) g, if m = 0 then -6 else (y.toNat : Int) / q_pw 3 (m - 1).toNat % 3) else _
          rw [Int.toNat_of_nonneg hi64.1.1, w87]
          rw [if_pos (by show _ < b; omega), if_pos c104], fun j h1 h2 => (b87 j (by omega)).trans (hi64.2.2.2.1 j h1 h2), hw1, by omega, trivial⟩ rfl
          refine q_drop [4, 5, 6, 7, 8, 3, 2, 1, 0] rfl ?_
          exact lp64_1 _ 21 (-6) 0 M ⟨by omega, by omega, rfl, fun _ _ _ => rfl, xw, by omega, trivial⟩ rfl
        · refine q_bipush F dX8_round_43 (by decide) ?_
          exact q_iret F FI dX8_round_45 (by omega) ⟨by unfold S_round; rw [if_pos c11, if_neg (fun h => absurd h.2.2 (q_df c40))], q_kp_rf, xw⟩
  · refine q_iconst F dX8_round_14 ?_
    exact q_iret F FI dX8_round_15 (by omega) ⟨by unfold S_round; rw [if_neg (by simp [c11])], q_kp_rf, xw⟩

set_option maxHeartbeats 4000000 in
set_option maxRecDepth 100000 in
theorem c_X8_rules (G : q_G) (hI : q_inj G) (M : q_M) (hx : q_lh G) (hX : q_X M) (pl : Int) (p : Int) (ru : Int) (w : Int) (hplR : -2147483648 ≤ pl ∧ pl ≤ 2147483647) (hpR : -2147483648 ≤ p ∧ p ≤ 2147483647) (hruR : -2147483648 ≤ ru ∧ ru ≤ 2147483647) (hwR : -2147483648 ≤ w ∧ w ≤ 2147483647) : q_CI G yX8_rules wsX8_rules ({ frames := 5, cells := 0, slots := 0, locals := 119 } : Room) [.ref (q_ad G 0), .int (q_I pl), .int (q_I p), .int (q_I ru), .int (q_I w)] M (fun z M' => z = S_rules (M (1 + 1 + 1)) (M (1 + 1 + 2)) (M (1 + 1 + 3)) (M (1 + 1) 4) (M (1 + 1) 5) pl p ru w ∧ q_kp M M' ∧ q_ww M') := by
  refine q_CI.of hI (by decide) rfl RX8 rfl [(0, .ref (q_ad G 0)), (1, .int (q_I pl)), (2, .int (q_I p)), (3, .int (q_I ru)), (4, .int (q_I w))] rfl (Nat.le_of_ble_eq_true rfl) (fun E F FI => ?_)
  have huX0 : ∀ w ∈ wsX00, w ∈ wsX8_rules := by decide +kernel
  have huX8 : ∀ w ∈ wsX80, w ∈ wsX8_rules := by decide +kernel
  refine q_MRof (fun hM => ?_)
  obtain ⟨xv, xf, xs, xp, xw, xi1, xi2⟩ := id hX
  have xv4 := xv.1
  have xv5 := xv.2.1
  refine q_iload_n F dX8_rules_0 1 rfl ?_
  refine q_callSP (n := 1) F (c_X8_isHouse G hI M pl (by omega)) rfl gX8_rules_X8_isHouse ⟨by decide, by decide, by decide +kernel⟩ rfl ⟨rfl, rfl, Nat.le_of_ble_eq_true rfl, Nat.le_of_ble_eq_true rfl⟩ rfl (Nat.le_of_ble_eq_true rfl) dX8_rules_1 (fun h1 => ?_)
  refine q_ifb_ne F 9 dX8_rules_4 (by decide) (fun c4 => ?_) (fun c4 => ?_)
  · have d1 := q_dt c4
    refine q_iload_n F dX8_rules_9 2 rfl ?_
    refine q_callSP (n := 1) F (c_X8_isDish G hI M p (by omega)) rfl gX8_rules_X8_isDish ⟨by decide, by decide, by decide +kernel⟩ rfl ⟨rfl, rfl, Nat.le_of_ble_eq_true rfl, Nat.le_of_ble_eq_true rfl⟩ rfl (Nat.le_of_ble_eq_true rfl) dX8_rules_10 (fun h10 => ?_)
    refine q_ifb_eq F 33 dX8_rules_13 (by decide) (fun c13 => ?_) (fun c13 => ?_)
    · refine q_bipush F dX8_rules_33 (by decide) ?_
      exact q_iret F FI dX8_rules_35 (by omega) ⟨by unfold S_rules; rw [if_pos (q_dt c4), if_neg (fun h => absurd h.1 (q_df c13))], q_kp_rf, xw⟩
    · refine q_iload_n F dX8_rules_16 3 rfl ?_
      refine q_iconst F dX8_rules_17 ?_
      refine q_callSP (n := 2) F (c_X8_isWithin G hI M ru 2 (by omega)) rfl gX8_rules_X8_isWithin ⟨by decide, by decide, by decide +kernel⟩ rfl ⟨rfl, rfl, Nat.le_of_ble_eq_true rfl, Nat.le_of_ble_eq_true rfl⟩ rfl (Nat.le_of_ble_eq_true rfl) dX8_rules_18 (fun h18 => ?_)
      refine q_ifb_eq F 33 dX8_rules_21 (by decide) (fun c21 => ?_) (fun c21 => ?_)
      · refine q_bipush F dX8_rules_33 (by decide) ?_
        exact q_iret F FI dX8_rules_35 (by omega) ⟨by unfold S_rules; rw [if_pos (q_dt c4), if_neg (fun h => absurd h.2.1 (q_df c21))], q_kp_rf, xw⟩
      · refine q_iload F dX8_rules_24 4 rfl ?_
        refine q_iconst F dX8_rules_26 ?_
        refine q_callSP (n := 2) F (c_X8_isWithin G hI M w 1 (by omega)) rfl gX8_rules_X8_isWithin ⟨by decide, by decide, by decide +kernel⟩ rfl ⟨rfl, rfl, Nat.le_of_ble_eq_true rfl, Nat.le_of_ble_eq_true rfl⟩ rfl (Nat.le_of_ble_eq_true rfl) dX8_rules_27 (fun h27 => ?_)
        refine q_ifb_ne F 36 dX8_rules_30 (by decide) (fun c30 => ?_) (fun c30 => ?_)
        · have d2 := q_dt c13
          have d3 := q_dt c21
          have d4 := q_dt c30
          refine q_aload_n F dX8_rules_36 0 rfl ?_
          refine q_getr (T := TX8) (ref := "LeastHungry") F huX8 rfl hx.1 0 (by decide) (by decide +kernel) rfl rfl dX8_rules_37 ?_
          refine q_getr (T := TX0) (ref := "LeastHungry$Book") F huX0 rfl hx.2.1.1 0 (by decide) (by decide +kernel) rfl rfl dX8_rules_40 ?_
          refine q_iload_n F dX8_rules_43 1 rfl ?_
          refine q_callVP (n := 1) (T := TX1) F (c_X1_inside G hI M (1 + 1) hx.2.1.2.1 pl (by assumption) (by omega)) rfl rfl hx.2.1.2.1.1 gX8_rules_X1_inside rfl ⟨by decide, by decide, by decide +kernel⟩ rfl ⟨rfl, rfl, Nat.le_of_ble_eq_true rfl, Nat.le_of_ble_eq_true rfl⟩ rfl (Nat.le_of_ble_eq_true rfl) dX8_rules_44 (fun h44 => ?_)
          refine q_nm (fun v47 e47 => ?_)
          refine q_istore F dX8_rules_47 [(5, .int (q_I v47)), (0, .ref (q_ad G 0)), (1, .int (q_I pl)), (2, .int (q_I p)), (3, .int (q_I ru)), (4, .int (q_I w))] (Nat.le_of_ble_eq_true rfl) rfl ?_
          have hS1 : 0 ≤ v47 ∧ v47 ≤ 63 := by rw [e47]; exact q_set_R _
          refine q_aload_n F dX8_rules_49 1 rfl ?_
          refine q_getr (T := TX8) (ref := "LeastHungry") F huX8 rfl hx.1 8 (by decide) (by decide +kernel) rfl rfl dX8_rules_50 ?_
          refine q_aload_n F dX8_rules_53 1 rfl ?_
          refine q_getr (T := TX8) (ref := "LeastHungry") F huX8 rfl hx.1 0 (by decide) (by decide +kernel) rfl rfl dX8_rules_54 ?_
          refine q_getr (T := TX0) (ref := "LeastHungry$Book") F huX0 rfl hx.2.1.1 0 (by decide) (by decide +kernel) rfl rfl dX8_rules_57 ?_
          refine q_iload_n F dX8_rules_60 2 rfl ?_
          refine q_iload_n F dX8_rules_61 3 rfl ?_
          refine q_iload_n F dX8_rules_62 4 rfl ?_
          refine q_callVI (n := 4) (T := TX4) F (c_X4_servedByRule G hI M 58 hx.2.2.2.2.2.2.2.2.2 (1 + 1) hx.2.1.2.1 pl p ru (by assumption) (by omega) (by omega)) rfl rfl hx.2.2.2.2.2.2.2.2.2.1 gX8_rules_X4_servedByRule rfl ⟨by decide, by decide, by decide +kernel⟩ rfl ⟨rfl, rfl, Nat.le_of_ble_eq_true rfl, Nat.le_of_ble_eq_true rfl⟩ rfl (Nat.le_of_ble_eq_true rfl) dX8_rules_63 (fun r63 N63 h63 p63 => ?_)
          have hr63 : 0 ≤ r63 ∧ r63 ≤ 63 := by rw [p63.1]; exact q_set_R _
          have fr63 : ∀ j, j < 6 → N63 j = M j := fun j hj => p63.2 j (by omega) (by omega)
          have xv63 : q_cv N63 (1 + 1) := q_cv_eq xv (fun j h1 h2 => fr63 j (by omega))
          have hlR : ∀ x, 0 ≤ x → x < 6 → 0 ≤ (fun x => if q_has v47 x = true then q_left (N63 (1 + 1 + 1)) r63 x else 0) x ∧ (fun x => if q_has v47 x = true then q_left (N63 (1 + 1 + 1)) r63 x else 0) x ≤ 20 := fun x h0 h1 => by
            have := q_left_R (s := r63) xv63.2.2.1 h0 h1
            show 0 ≤ (if q_has v47 x = true then _ else (0 : Int)) ∧ (if q_has v47 x = true then _ else (0 : Int)) ≤ 20
            split <;> omega
          refine q_istore F dX8_rules_66 [(6, .int (q_I r63)), (5, .int (q_I v47)), (0, .ref (q_ad G 0)), (1, .int (q_I pl)), (2, .int (q_I p)), (3, .int (q_I ru)), (4, .int (q_I w))] (Nat.le_of_ble_eq_true rfl) rfl ?_
          refine q_iload F dX8_rules_68 6 rfl ?_
          refine q_if_ne F 90 dX8_rules_70 (by decide) (by omega) (fun c70 => ?_) (fun c70 => ?_)
          · refine q_aload_n F dX8_rules_90 2 rfl ?_
            refine q_getr (T := TX8) (ref := "LeastHungry") F huX8 rfl hx.1 0 (by decide) (by decide +kernel) rfl rfl dX8_rules_91 ?_
            refine q_getr (T := TX0) (ref := "LeastHungry$Book") F huX0 rfl hx.2.1.1 0 (by decide) (by decide +kernel) rfl rfl dX8_rules_94 ?_
            refine q_iload F dX8_rules_97 1 rfl ?_
            refine q_iload F dX8_rules_99 0 rfl ?_
            refine q_callVP (n := 2) (T := TX1) F (c_X1_greatestLeft G hI N63 (1 + 1) hx.2.1.2.1 v47 r63 xv63 ⟨hS1, hr63⟩) rfl rfl hx.2.1.2.1.1 gX8_rules_X1_greatestLeft rfl ⟨by decide, by decide, by decide +kernel⟩ rfl ⟨rfl, rfl, Nat.le_of_ble_eq_true rfl, Nat.le_of_ble_eq_true rfl⟩ rfl (Nat.le_of_ble_eq_true rfl) dX8_rules_101 (fun h101 => ?_)
            exact q_iret F FI dX8_rules_104 (by omega) ⟨by unfold S_rules; rw [if_pos d1, if_pos ⟨d2, d3, d4⟩, if_neg c70, e47, p63.1, fr63 _ (by omega)], fun j h1 h2 => p63.2 j (by omega) (by omega), fun i h0 h1 => by rw [p63.2 _ (by omega) (by omega)]; exact xw i h0 h1⟩
          · refine q_aload_n F dX8_rules_73 2 rfl ?_
            refine q_getr (T := TX8) (ref := "LeastHungry") F huX8 rfl hx.1 0 (by decide) (by decide +kernel) rfl rfl dX8_rules_74 ?_
            refine q_getr (T := TX0) (ref := "LeastHungry$Book") F huX0 rfl hx.2.1.1 0 (by decide) (by decide +kernel) rfl rfl dX8_rules_77 ?_
            refine q_iload F dX8_rules_80 1 rfl ?_
            refine q_iload F dX8_rules_82 0 rfl ?_
            refine q_callVP (n := 2) (T := TX1) F (c_X1_hungerLeft G hI N63 (1 + 1) hx.2.1.2.1 v47 r63 xv63 ⟨hS1, hr63⟩) rfl rfl hx.2.1.2.1.1 gX8_rules_X1_hungerLeft rfl ⟨by decide, by decide, by decide +kernel⟩ rfl ⟨rfl, rfl, Nat.le_of_ble_eq_true rfl, Nat.le_of_ble_eq_true rfl⟩ rfl (Nat.le_of_ble_eq_true rfl) dX8_rules_84 (fun h84 => ?_)
            refine q_goto F 104 dX8_rules_87 (by decide) ?_
            exact q_iret F FI dX8_rules_104 (by omega) ⟨by unfold S_rules; rw [if_pos d1, if_pos ⟨d2, d3, d4⟩, if_pos c70, e47, p63.1, fr63 _ (by omega)], fun j h1 h2 => p63.2 j (by omega) (by omega), fun i h0 h1 => by rw [p63.2 _ (by omega) (by omega)]; exact xw i h0 h1⟩
        · refine q_bipush F dX8_rules_33 (by decide) ?_
          exact q_iret F FI dX8_rules_35 (by omega) ⟨by unfold S_rules; rw [if_pos (q_dt c4), if_neg (fun h => absurd h.2.2 (q_df c30))], q_kp_rf, xw⟩
  · refine q_iconst F dX8_rules_7 ?_
    exact q_iret F FI dX8_rules_8 (by omega) ⟨by unfold S_rules; rw [if_neg (q_df c4)], q_kp_rf, xw⟩

set_option maxHeartbeats 4000000 in
set_option maxRecDepth 100000 in
theorem c_X8_seen (G : q_G) (hI : q_inj G) (M : q_M) (hx : q_lh G) (hX : q_X M) (p : Int) (s : Int) (hpR : -2147483648 ≤ p ∧ p ≤ 2147483647) (hsR : -2147483648 ≤ s ∧ s ≤ 2147483647) : q_CI G yX8_seen wsX8_seen ({ frames := 2, cells := 0, slots := 0, locals := 44 } : Room) [.ref (q_ad G 0), .int (q_I p), .int (q_I s)] M (fun z M' => (¬ ((1 ≤ p ∧ p ≤ 9) ∧ (0 ≤ s ∧ s ≤ 63)) → z = -2 ∧ M' = M) ∧ ((1 ≤ p ∧ p ≤ 9) ∧ (0 ≤ s ∧ s ≤ 63) → (8 ≤ M 1 4 → z = -4 ∧ M' = M) ∧ (M 1 4 < 8 → z = M 1 4 + 1 ∧ M' = q_up (q_up (q_up M (1 + 7) (M 1 4) p) (1 + 8) (M 1 4) s) 1 4 (M 1 4 + 1)))) := by
  refine q_CI.of hI (by decide) rfl RX8 rfl [(0, .ref (q_ad G 0)), (1, .int (q_I p)), (2, .int (q_I s))] rfl (Nat.le_of_ble_eq_true rfl) (fun E F FI => ?_)
  have huX8 : ∀ w ∈ wsX80, w ∈ wsX8_seen := by decide +kernel
  refine q_MRof (fun hM => ?_)
  obtain ⟨xv, xf, xs, xp, xw, xi1, xi2⟩ := id hX
  have xv4 := xv.1
  have xv5 := xv.2.1
  refine q_iload_n F dX8_seen_0 1 rfl ?_
  refine q_callSP (n := 1) F (c_X8_isDish G hI M p (by omega)) rfl gX8_seen_X8_isDish ⟨by decide, by decide, by decide +kernel⟩ rfl ⟨rfl, rfl, Nat.le_of_ble_eq_true rfl, Nat.le_of_ble_eq_true rfl⟩ rfl (Nat.le_of_ble_eq_true rfl) dX8_seen_1 (fun h1 => ?_)
  refine q_ifb_eq F 16 dX8_seen_4 (by decide) (fun c4 => ?_) (fun c4 => ?_)
  · refine q_bipush F dX8_seen_16 (by decide) ?_
    exact q_iret F FI dX8_seen_18 (by omega) ⟨fun _ => ⟨rfl, rfl⟩, fun h => absurd h.1 (q_df c4)⟩
  · refine q_iload_n F dX8_seen_7 2 rfl ?_
    refine q_bipush F dX8_seen_8 (by decide) ?_
    refine q_callSP (n := 2) F (c_X8_isWithin G hI M s 63 (by omega)) rfl gX8_seen_X8_isWithin ⟨by decide, by decide, by decide +kernel⟩ rfl ⟨rfl, rfl, Nat.le_of_ble_eq_true rfl, Nat.le_of_ble_eq_true rfl⟩ rfl (Nat.le_of_ble_eq_true rfl) dX8_seen_10 (fun h10 => ?_)
    refine q_ifb_ne F 19 dX8_seen_13 (by decide) (fun c13 => ?_) (fun c13 => ?_)
    · refine q_aload_n F dX8_seen_19 0 rfl ?_
      refine q_getr (T := TX8) (ref := "LeastHungry") F huX8 rfl hx.1 0 (by decide) (by decide +kernel) rfl rfl dX8_seen_20 ?_
      refine q_iload_n F dX8_seen_23 1 rfl ?_
      refine q_iload_n F dX8_seen_24 2 rfl ?_
      refine q_callVI (n := 2) (T := TX0) F (c_X0_addSight G hI M 1 hx.2.1 p s (by assumption) (by omega)) rfl rfl hx.2.1.1 gX8_seen_X0_addSight rfl ⟨by decide, by decide, by decide +kernel⟩ rfl ⟨rfl, rfl, Nat.le_of_ble_eq_true rfl, Nat.le_of_ble_eq_true rfl⟩ rfl (Nat.le_of_ble_eq_true rfl) dX8_seen_25 (fun r25 N25 h25 p25 => ?_)
      exact q_iret F FI dX8_seen_28 (by omega) ⟨fun h => absurd ⟨q_dt c4, q_dt c13⟩ h, fun _ => p25⟩
    · refine q_bipush F dX8_seen_16 (by decide) ?_
      exact q_iret F FI dX8_seen_18 (by omega) ⟨fun _ => ⟨rfl, rfl⟩, fun h => absurd h.2 (q_df c13)⟩

set_option maxHeartbeats 4000000 in
set_option maxRecDepth 100000 in
theorem c_X8_forget (G : q_G) (hI : q_inj G) (M : q_M) (hx : q_lh G) (hX : q_X M) : q_CI G yX8_forget wsX8_forget ({ frames := 0, cells := 0, slots := 0, locals := 0 } : Room) [.ref (q_ad G 0)] M (fun z M' => z = M 1 4 ∧ M' = q_up M 1 4 0) := by
  refine q_CI.of hI (by decide) rfl RX8 rfl [(0, .ref (q_ad G 0))] rfl (Nat.le_of_ble_eq_true rfl) (fun E F FI => ?_)
  have huX0 : ∀ w ∈ wsX00, w ∈ wsX8_forget := by decide +kernel
  have huX8 : ∀ w ∈ wsX80, w ∈ wsX8_forget := by decide +kernel
  refine q_MRof (fun hM => ?_)
  obtain ⟨xv, xf, xs, xp, xw, xi1, xi2⟩ := id hX
  have xv4 := xv.1
  have xv5 := xv.2.1
  refine q_aload_n F dX8_forget_0 0 rfl ?_
  refine q_getr (T := TX8) (ref := "LeastHungry") F huX8 rfl hx.1 0 (by decide) (by decide +kernel) rfl rfl dX8_forget_1 ?_
  refine q_geti (T := TX0) (ref := "LeastHungry$Book") F huX0 rfl hx.2.1.1 4 (by decide) (by decide +kernel) rfl 4 rfl rfl dX8_forget_4 (fun h4 => ?_)
  refine q_nm (fun v7 e7 => ?_)
  refine q_istore_n F dX8_forget_7 [(1, .int (q_I v7)), (0, .ref (q_ad G 0))] (Nat.le_of_ble_eq_true rfl) rfl ?_
  refine q_aload_n F dX8_forget_8 1 rfl ?_
  refine q_getr (T := TX8) (ref := "LeastHungry") F huX8 rfl hx.1 0 (by decide) (by decide +kernel) rfl rfl dX8_forget_9 ?_
  refine q_iconst F dX8_forget_12 ?_
  refine q_puti (T := TX0) (ref := "LeastHungry$Book") F huX0 rfl hx.2.1.1 4 (by decide) (by decide +kernel) rfl 4 rfl tyX0 tyX0_ok nmX0 rfl rfl (by decide +kernel) (by omega) dX8_forget_13 (fun N13 eN13 => ?_)
  refine q_iload_n F dX8_forget_16 0 rfl ?_
  exact q_iret F FI dX8_forget_17 (by omega) ⟨e7, eN13⟩

set_option maxHeartbeats 4000000 in
set_option maxRecDepth 100000 in
theorem c_X8_worlds (G : q_G) (hI : q_inj G) (M : q_M) (hx : q_lh G) (hX : q_X M) (g : Int) (w : Int) (hgR : -2147483648 ≤ g ∧ g ≤ 2147483647) (hwR : -2147483648 ≤ w ∧ w ≤ 2147483647) : q_CI G yX8_worlds wsX8_worlds ({ frames := 5, cells := 0, slots := 0, locals := 116 } : Room) [.ref (q_ad G 0), .int (q_I g), .int (q_I w)] M (fun z M' => z = S_worlds (M (1 + 1 + 1)) (M (1 + 1 + 2)) (M (1 + 1 + 3)) (M (1 + 1) 4) (M (1 + 1) 5) (M (1 + 7)) (M (1 + 8)) (M 1 4) g w ∧ q_kp M M' ∧ q_ww M') := by
  refine q_CI.of hI (by decide) rfl RX8 rfl [(0, .ref (q_ad G 0)), (1, .int (q_I g)), (2, .int (q_I w))] rfl (Nat.le_of_ble_eq_true rfl) (fun E F FI => ?_)
  have huX0 : ∀ w ∈ wsX00, w ∈ wsX8_worlds := by decide +kernel
  have huX7 : ∀ w ∈ wsX70, w ∈ wsX8_worlds := by decide +kernel
  have huX8 : ∀ w ∈ wsX80, w ∈ wsX8_worlds := by decide +kernel
  refine q_MRof (fun hM => ?_)
  obtain ⟨xv, xf, xs, xp, xw, xi1, xi2⟩ := id hX
  have xv4 := xv.1
  have xv5 := xv.2.1
  refine q_iload_n F dX8_worlds_0 1 rfl ?_
  refine q_iconst F dX8_worlds_1 ?_
  refine q_icmp_eq F 25 dX8_worlds_2 (by decide) (by omega) (fun c2 => ?_) (fun c2 => ?_)
  · have hg : g = -1 ∨ q_ins (M (1 + 1 + 3)) (M (1 + 1) 4) 0 g = true := by
      first
      | exact Or.inl c2
      | exact Or.inr (by
          have hi := q_has_in c20
          rw [q_has_set hi.1 hi.2] at c20
          exact c20)
    refine q_iload_n F dX8_worlds_25 2 rfl ?_
    refine q_iconst F dX8_worlds_26 ?_
    refine q_callSP (n := 2) F (c_X8_isWithin G hI M w 1 (by omega)) rfl gX8_worlds_X8_isWithin ⟨by decide, by decide, by decide +kernel⟩ rfl ⟨rfl, rfl, Nat.le_of_ble_eq_true rfl, Nat.le_of_ble_eq_true rfl⟩ rfl (Nat.le_of_ble_eq_true rfl) dX8_worlds_27 (fun h27 => ?_)
    refine q_ifb_ne F 36 dX8_worlds_30 (by decide) (fun c30 => ?_) (fun c30 => ?_)
    · have d2 := q_dt c30
      refine q_aload_n F dX8_worlds_36 0 rfl ?_
      refine q_iconst F dX8_worlds_37 ?_
      refine q_callVP (n := 1) (T := TX8) F (c_X8_isCrowded G hI M hx (by assumption) 0 (by omega)) rfl rfl hx.1 gX8_worlds_X8_isCrowded rfl ⟨by decide, by decide, by decide +kernel⟩ rfl ⟨rfl, rfl, Nat.le_of_ble_eq_true rfl, Nat.le_of_ble_eq_true rfl⟩ rfl (Nat.le_of_ble_eq_true rfl) dX8_worlds_38 (fun h38 => ?_)
      refine q_ifb_eq F 47 dX8_worlds_41 (by decide) (fun c41 => ?_) (fun c41 => ?_)
      · refine q_aload_n F dX8_worlds_47 0 rfl ?_
        refine q_getr (T := TX8) (ref := "LeastHungry") F huX8 rfl hx.1 6 (by decide) (by decide +kernel) rfl rfl dX8_worlds_48 ?_
        refine q_aload_n F dX8_worlds_51 0 rfl ?_
        refine q_getr (T := TX8) (ref := "LeastHungry") F huX8 rfl hx.1 0 (by decide) (by decide +kernel) rfl rfl dX8_worlds_52 ?_
        refine q_callVV (n := 1) (T := TX7) F (c_X7_look G hI M 46 hx.2.2.2.2.2.2.2.1 1 hx.2.1 (by assumption) (by assumption) (by omega) (by have := q_df c41; omega)) rfl rfl hx.2.2.2.2.2.2.2.1.1 gX8_worlds_X7_look rfl ⟨by decide, by decide, by decide +kernel⟩ rfl ⟨rfl, rfl, Nat.le_of_ble_eq_true rfl, Nat.le_of_ble_eq_true rfl⟩ rfl (Nat.le_of_ble_eq_true rfl) dX8_worlds_55 (fun N55 p55 => ?_)
        obtain ⟨bf, lk⟩ := p55
        have hkp : q_kp M N55 ∧ q_ww N55 := ⟨fun j h1 _ => bf j (by omega), fun i h0 h1 => by rw [bf _ (by omega)]; exact xw i h0 h1⟩
        have hcnt : N55 46 5 = q_Wc (M (1 + 1 + 1)) (M (1 + 1 + 2)) (M (1 + 1 + 3)) (M (1 + 1) 4) (M (1 + 1) 5) (M (1 + 7)) (M (1 + 8)) (M 1 4) := lk.1
        have hwt : ∀ p q, 1 ≤ p → p ≤ 9 → 0 ≤ q → q ≤ 63 → N55 (46 + 9) (p * 64 + q) = q_Wt (M (1 + 1 + 1)) (M (1 + 1 + 2)) (M (1 + 1 + 3)) (M (1 + 1) 4) (M (1 + 1) 5) (M (1 + 7)) (M (1 + 8)) (M 1 4) p q := lk.2.2
        have hwm : ∀ p, 1 ≤ p → p ≤ 9 → q_mxN (fun s => N55 (46 + 9) (p * 64 + s)) 64 = q_Wm (M (1 + 1 + 1)) (M (1 + 1 + 2)) (M (1 + 1 + 3)) (M (1 + 1) 4) (M (1 + 1) 5) (M (1 + 7)) (M (1 + 8)) (M 1 4) p := fun p p0 p1 => q_mxN_congr 64 (fun x h0 h1 => hwt p x p0 p1 h0 (by omega))
        refine q_iload_n F dX8_worlds_58 1 rfl ?_
        refine q_iconst F dX8_worlds_59 ?_
        refine q_icmp_ne F 71 dX8_worlds_60 (by decide) (by omega) (fun c60 => ?_) (fun c60 => ?_)
        · have hgi : 0 ≤ g ∧ g < 6 := by
            rcases hg with h | h
            · exact absurd h c60
            · exact q_ins_in h
          refine q_aload_n F dX8_worlds_71 0 rfl ?_
          refine q_getr (T := TX8) (ref := "LeastHungry") F huX8 rfl hx.1 6 (by decide) (by decide +kernel) rfl rfl dX8_worlds_72 ?_
          refine q_iload_n F dX8_worlds_75 1 rfl ?_
          refine q_iload_n F dX8_worlds_76 2 rfl ?_
          refine q_iconst F dX8_worlds_77 ?_
          refine q_icmp_ne F 85 dX8_worlds_78 (by decide) (by omega) (fun c78 => ?_) (fun c78 => ?_)
          · refine q_iconst F dX8_worlds_85 ?_
            refine q_callVP (n := 2) (T := TX7) F (c_X7_hungerOf G hI N55 46 hx.2.2.2.2.2.2.2.1 g 0 (by omega)) rfl rfl hx.2.2.2.2.2.2.2.1.1 gX8_worlds_X7_hungerOf rfl ⟨by decide, by decide, by decide +kernel⟩ rfl ⟨rfl, rfl, Nat.le_of_ble_eq_true rfl, Nat.le_of_ble_eq_true rfl⟩ rfl (Nat.le_of_ble_eq_true rfl) dX8_worlds_86 (fun h86 => ?_)
            exact q_iret F FI dX8_worlds_89 (by omega) ⟨by
      unfold S_worlds
      rw [if_pos hg, if_pos d2, if_neg (q_df c41), if_neg c60, hcnt]
      by_cases h0 : q_Wc (M (1 + 1 + 1)) (M (1 + 1 + 2)) (M (1 + 1 + 3)) (M (1 + 1) 4) (M (1 + 1) 5) (M (1 + 7)) (M (1 + 8)) (M 1 4) = 0
      · rw [if_pos h0, if_pos h0]
      · rw [if_neg h0, if_neg h0, if_pos rfl, if_pos (by omega)]; exact (lk.2.1 g hgi.1 hgi.2).1, hkp⟩
          · refine q_iconst F dX8_worlds_81 ?_
            refine q_goto F 86 dX8_worlds_82 (by decide) ?_
            refine q_callVP (n := 2) (T := TX7) F (c_X7_hungerOf G hI N55 46 hx.2.2.2.2.2.2.2.1 g 1 (by omega)) rfl rfl hx.2.2.2.2.2.2.2.1.1 gX8_worlds_X7_hungerOf rfl ⟨by decide, by decide, by decide +kernel⟩ rfl ⟨rfl, rfl, Nat.le_of_ble_eq_true rfl, Nat.le_of_ble_eq_true rfl⟩ rfl (Nat.le_of_ble_eq_true rfl) dX8_worlds_86 (fun h86 => ?_)
            exact q_iret F FI dX8_worlds_89 (by omega) ⟨by
      unfold S_worlds
      rw [if_pos hg, if_pos d2, if_neg (q_df c41), if_neg c60, hcnt]
      by_cases h0 : q_Wc (M (1 + 1 + 1)) (M (1 + 1 + 2)) (M (1 + 1 + 3)) (M (1 + 1) 4) (M (1 + 1) 5) (M (1 + 7)) (M (1 + 8)) (M 1 4) = 0
      · rw [if_pos h0, if_pos h0]
      · rw [if_neg h0, if_neg h0, if_neg (by decide), if_neg (by omega)]; exact (lk.2.1 g hgi.1 hgi.2).2, hkp⟩
        · refine q_aload_n F dX8_worlds_63 0 rfl ?_
          refine q_getr (T := TX8) (ref := "LeastHungry") F huX8 rfl hx.1 6 (by decide) (by decide +kernel) rfl rfl dX8_worlds_64 ?_
          refine q_geti (T := TX7) (ref := "LeastHungry$Worlds") F huX7 rfl hx.2.2.2.2.2.2.2.1.1 5 (by decide) (by decide +kernel) rfl 5 rfl rfl dX8_worlds_67 (fun h67 => ?_)
          exact q_iret F FI dX8_worlds_70 (by omega) ⟨by unfold S_worlds; rw [if_pos hg, if_pos d2, if_neg (q_df c41), if_pos c60]; exact hcnt, hkp⟩
      · refine q_bipush F dX8_worlds_44 (by decide) ?_
        exact q_iret F FI dX8_worlds_46 (by omega) ⟨by unfold S_worlds; rw [if_pos hg, if_pos d2, if_pos (q_dt c41)], q_kp_rf, xw⟩
    · refine q_bipush F dX8_worlds_33 (by decide) ?_
      exact q_iret F FI dX8_worlds_35 (by omega) ⟨by unfold S_worlds; rw [if_pos hg, if_neg (q_df c30)], q_kp_rf, xw⟩
  · refine q_aload_n F dX8_worlds_5 0 rfl ?_
    refine q_getr (T := TX8) (ref := "LeastHungry") F huX8 rfl hx.1 0 (by decide) (by decide +kernel) rfl rfl dX8_worlds_6 ?_
    refine q_getr (T := TX0) (ref := "LeastHungry$Book") F huX0 rfl hx.2.1.1 0 (by decide) (by decide +kernel) rfl rfl dX8_worlds_9 ?_
    refine q_iconst F dX8_worlds_12 ?_
    refine q_callVP (n := 1) (T := TX1) F (c_X1_inside G hI M (1 + 1) hx.2.1.2.1 0 (by assumption) (by omega)) rfl rfl hx.2.1.2.1.1 gX8_worlds_X1_inside rfl ⟨by decide, by decide, by decide +kernel⟩ rfl ⟨rfl, rfl, Nat.le_of_ble_eq_true rfl, Nat.le_of_ble_eq_true rfl⟩ rfl (Nat.le_of_ble_eq_true rfl) dX8_worlds_13 (fun h13 => ?_)
    refine q_iload_n F dX8_worlds_16 1 rfl ?_
    refine q_callSP (n := 2) F (c_X8_holds G hI M _ g (by have := q_set_R (q_ins (M (1 + 1 + 3)) (M (1 + 1) 4) 0); omega)) rfl gX8_worlds_X8_holds ⟨by decide, by decide, by decide +kernel⟩ rfl ⟨rfl, rfl, Nat.le_of_ble_eq_true rfl, Nat.le_of_ble_eq_true rfl⟩ rfl (Nat.le_of_ble_eq_true rfl) dX8_worlds_17 (fun h17 => ?_)
    refine q_ifb_ne F 25 dX8_worlds_20 (by decide) (fun c20 => ?_) (fun c20 => ?_)
    · have hg : g = -1 ∨ q_ins (M (1 + 1 + 3)) (M (1 + 1) 4) 0 g = true := by
        first
        | exact Or.inl c2
        | exact Or.inr (by
            have hi := q_has_in c20
            rw [q_has_set hi.1 hi.2] at c20
            exact c20)
      refine q_iload_n F dX8_worlds_25 2 rfl ?_
      refine q_iconst F dX8_worlds_26 ?_
      refine q_callSP (n := 2) F (c_X8_isWithin G hI M w 1 (by omega)) rfl gX8_worlds_X8_isWithin ⟨by decide, by decide, by decide +kernel⟩ rfl ⟨rfl, rfl, Nat.le_of_ble_eq_true rfl, Nat.le_of_ble_eq_true rfl⟩ rfl (Nat.le_of_ble_eq_true rfl) dX8_worlds_27 (fun h27 => ?_)
      refine q_ifb_ne F 36 dX8_worlds_30 (by decide) (fun c30 => ?_) (fun c30 => ?_)
      · have d2 := q_dt c30
        refine q_aload_n F dX8_worlds_36 0 rfl ?_
        refine q_iconst F dX8_worlds_37 ?_
        refine q_callVP (n := 1) (T := TX8) F (c_X8_isCrowded G hI M hx (by assumption) 0 (by omega)) rfl rfl hx.1 gX8_worlds_X8_isCrowded rfl ⟨by decide, by decide, by decide +kernel⟩ rfl ⟨rfl, rfl, Nat.le_of_ble_eq_true rfl, Nat.le_of_ble_eq_true rfl⟩ rfl (Nat.le_of_ble_eq_true rfl) dX8_worlds_38 (fun h38 => ?_)
        refine q_ifb_eq F 47 dX8_worlds_41 (by decide) (fun c41 => ?_) (fun c41 => ?_)
        · refine q_aload_n F dX8_worlds_47 0 rfl ?_
          refine q_getr (T := TX8) (ref := "LeastHungry") F huX8 rfl hx.1 6 (by decide) (by decide +kernel) rfl rfl dX8_worlds_48 ?_
          refine q_aload_n F dX8_worlds_51 0 rfl ?_
          refine q_getr (T := TX8) (ref := "LeastHungry") F huX8 rfl hx.1 0 (by decide) (by decide +kernel) rfl rfl dX8_worlds_52 ?_
          refine q_callVV (n := 1) (T := TX7) F (c_X7_look G hI M 46 hx.2.2.2.2.2.2.2.1 1 hx.2.1 (by assumption) (by assumption) (by omega) (by have := q_df c41; omega)) rfl rfl hx.2.2.2.2.2.2.2.1.1 gX8_worlds_X7_look rfl ⟨by decide, by decide, by decide +kernel⟩ rfl ⟨rfl, rfl, Nat.le_of_ble_eq_true rfl, Nat.le_of_ble_eq_true rfl⟩ rfl (Nat.le_of_ble_eq_true rfl) dX8_worlds_55 (fun N55 p55 => ?_)
          obtain ⟨bf, lk⟩ := p55
          have hkp : q_kp M N55 ∧ q_ww N55 := ⟨fun j h1 _ => bf j (by omega), fun i h0 h1 => by rw [bf _ (by omega)]; exact xw i h0 h1⟩
          have hcnt : N55 46 5 = q_Wc (M (1 + 1 + 1)) (M (1 + 1 + 2)) (M (1 + 1 + 3)) (M (1 + 1) 4) (M (1 + 1) 5) (M (1 + 7)) (M (1 + 8)) (M 1 4) := lk.1
          have hwt : ∀ p q, 1 ≤ p → p ≤ 9 → 0 ≤ q → q ≤ 63 → N55 (46 + 9) (p * 64 + q) = q_Wt (M (1 + 1 + 1)) (M (1 + 1 + 2)) (M (1 + 1 + 3)) (M (1 + 1) 4) (M (1 + 1) 5) (M (1 + 7)) (M (1 + 8)) (M 1 4) p q := lk.2.2
          have hwm : ∀ p, 1 ≤ p → p ≤ 9 → q_mxN (fun s => N55 (46 + 9) (p * 64 + s)) 64 = q_Wm (M (1 + 1 + 1)) (M (1 + 1 + 2)) (M (1 + 1 + 3)) (M (1 + 1) 4) (M (1 + 1) 5) (M (1 + 7)) (M (1 + 8)) (M 1 4) p := fun p p0 p1 => q_mxN_congr 64 (fun x h0 h1 => hwt p x p0 p1 h0 (by omega))
          refine q_iload_n F dX8_worlds_58 1 rfl ?_
          refine q_iconst F dX8_worlds_59 ?_
          refine q_icmp_ne F 71 dX8_worlds_60 (by decide) (by omega) (fun c60 => ?_) (fun c60 => ?_)
          · have hgi : 0 ≤ g ∧ g < 6 := by
              rcases hg with h | h
              · exact absurd h c60
              · exact q_ins_in h
            refine q_aload_n F dX8_worlds_71 0 rfl ?_
            refine q_getr (T := TX8) (ref := "LeastHungry") F huX8 rfl hx.1 6 (by decide) (by decide +kernel) rfl rfl dX8_worlds_72 ?_
            refine q_iload_n F dX8_worlds_75 1 rfl ?_
            refine q_iload_n F dX8_worlds_76 2 rfl ?_
            refine q_iconst F dX8_worlds_77 ?_
            refine q_icmp_ne F 85 dX8_worlds_78 (by decide) (by omega) (fun c78 => ?_) (fun c78 => ?_)
            · refine q_iconst F dX8_worlds_85 ?_
              refine q_callVP (n := 2) (T := TX7) F (c_X7_hungerOf G hI N55 46 hx.2.2.2.2.2.2.2.1 g 0 (by omega)) rfl rfl hx.2.2.2.2.2.2.2.1.1 gX8_worlds_X7_hungerOf rfl ⟨by decide, by decide, by decide +kernel⟩ rfl ⟨rfl, rfl, Nat.le_of_ble_eq_true rfl, Nat.le_of_ble_eq_true rfl⟩ rfl (Nat.le_of_ble_eq_true rfl) dX8_worlds_86 (fun h86 => ?_)
              exact q_iret F FI dX8_worlds_89 (by omega) ⟨by
      unfold S_worlds
      rw [if_pos hg, if_pos d2, if_neg (q_df c41), if_neg c60, hcnt]
      by_cases h0 : q_Wc (M (1 + 1 + 1)) (M (1 + 1 + 2)) (M (1 + 1 + 3)) (M (1 + 1) 4) (M (1 + 1) 5) (M (1 + 7)) (M (1 + 8)) (M 1 4) = 0
      · rw [if_pos h0, if_pos h0]
      · rw [if_neg h0, if_neg h0, if_pos rfl, if_pos (by omega)]; exact (lk.2.1 g hgi.1 hgi.2).1, hkp⟩
            · refine q_iconst F dX8_worlds_81 ?_
              refine q_goto F 86 dX8_worlds_82 (by decide) ?_
              refine q_callVP (n := 2) (T := TX7) F (c_X7_hungerOf G hI N55 46 hx.2.2.2.2.2.2.2.1 g 1 (by omega)) rfl rfl hx.2.2.2.2.2.2.2.1.1 gX8_worlds_X7_hungerOf rfl ⟨by decide, by decide, by decide +kernel⟩ rfl ⟨rfl, rfl, Nat.le_of_ble_eq_true rfl, Nat.le_of_ble_eq_true rfl⟩ rfl (Nat.le_of_ble_eq_true rfl) dX8_worlds_86 (fun h86 => ?_)
              exact q_iret F FI dX8_worlds_89 (by omega) ⟨by
      unfold S_worlds
      rw [if_pos hg, if_pos d2, if_neg (q_df c41), if_neg c60, hcnt]
      by_cases h0 : q_Wc (M (1 + 1 + 1)) (M (1 + 1 + 2)) (M (1 + 1 + 3)) (M (1 + 1) 4) (M (1 + 1) 5) (M (1 + 7)) (M (1 + 8)) (M 1 4) = 0
      · rw [if_pos h0, if_pos h0]
      · rw [if_neg h0, if_neg h0, if_neg (by decide), if_neg (by omega)]; exact (lk.2.1 g hgi.1 hgi.2).2, hkp⟩
          · refine q_aload_n F dX8_worlds_63 0 rfl ?_
            refine q_getr (T := TX8) (ref := "LeastHungry") F huX8 rfl hx.1 6 (by decide) (by decide +kernel) rfl rfl dX8_worlds_64 ?_
            refine q_geti (T := TX7) (ref := "LeastHungry$Worlds") F huX7 rfl hx.2.2.2.2.2.2.2.1.1 5 (by decide) (by decide +kernel) rfl 5 rfl rfl dX8_worlds_67 (fun h67 => ?_)
            exact q_iret F FI dX8_worlds_70 (by omega) ⟨by unfold S_worlds; rw [if_pos hg, if_pos d2, if_neg (q_df c41), if_pos c60]; exact hcnt, hkp⟩
        · refine q_bipush F dX8_worlds_44 (by decide) ?_
          exact q_iret F FI dX8_worlds_46 (by omega) ⟨by unfold S_worlds; rw [if_pos hg, if_pos d2, if_pos (q_dt c41)], q_kp_rf, xw⟩
      · refine q_bipush F dX8_worlds_33 (by decide) ?_
        exact q_iret F FI dX8_worlds_35 (by omega) ⟨by unfold S_worlds; rw [if_pos hg, if_neg (q_df c30)], q_kp_rf, xw⟩
    · refine q_iconst F dX8_worlds_23 ?_
      exact q_iret F FI dX8_worlds_24 (by omega) ⟨by
      unfold S_worlds
      rw [if_neg (fun h => by
        rcases h with h | h
        · exact c2 h
        · have hi := q_ins_in h
          rw [q_has_set hi.1 hi.2, h] at c20
          cases c20)], q_kp_rf, xw⟩

set_option maxHeartbeats 4000000 in
set_option maxRecDepth 100000 in
theorem c_X8_tells (G : q_G) (hI : q_inj G) (M : q_M) (hx : q_lh G) (hX : q_X M) (w : Int) (hwR : -2147483648 ≤ w ∧ w ≤ 2147483647) : q_CI G yX8_tells wsX8_tells ({ frames := 5, cells := 0, slots := 0, locals := 116 } : Room) [.ref (q_ad G 0), .int (q_I w)] M (fun z M' => z = S_tells (M (1 + 1 + 1)) (M (1 + 1 + 2)) (M (1 + 1 + 3)) (M (1 + 1) 4) (M (1 + 1) 5) (M (1 + 7)) (M (1 + 8)) (M 1 4) w ∧ q_kp M M' ∧ q_ww M') := by
  refine q_CI.of hI (by decide) rfl RX8 rfl [(0, .ref (q_ad G 0)), (1, .int (q_I w))] rfl (Nat.le_of_ble_eq_true rfl) (fun E F FI => ?_)
  have huX7 : ∀ w ∈ wsX70, w ∈ wsX8_tells := by decide +kernel
  have huX8 : ∀ w ∈ wsX80, w ∈ wsX8_tells := by decide +kernel
  refine q_MRof (fun hM => ?_)
  obtain ⟨xv, xf, xs, xp, xw, xi1, xi2⟩ := id hX
  have xv4 := xv.1
  have xv5 := xv.2.1
  refine q_iload_n F dX8_tells_0 1 rfl ?_
  refine q_iconst F dX8_tells_1 ?_
  refine q_callSP (n := 2) F (c_X8_isWithin G hI M w 1 (by omega)) rfl gX8_tells_X8_isWithin ⟨by decide, by decide, by decide +kernel⟩ rfl ⟨rfl, rfl, Nat.le_of_ble_eq_true rfl, Nat.le_of_ble_eq_true rfl⟩ rfl (Nat.le_of_ble_eq_true rfl) dX8_tells_2 (fun h2 => ?_)
  refine q_ifb_ne F 11 dX8_tells_5 (by decide) (fun c5 => ?_) (fun c5 => ?_)
  · have d2 := q_dt c5
    refine q_aload_n F dX8_tells_11 0 rfl ?_
    refine q_iconst F dX8_tells_12 ?_
    refine q_callVP (n := 1) (T := TX8) F (c_X8_isCrowded G hI M hx (by assumption) 0 (by omega)) rfl rfl hx.1 gX8_tells_X8_isCrowded rfl ⟨by decide, by decide, by decide +kernel⟩ rfl ⟨rfl, rfl, Nat.le_of_ble_eq_true rfl, Nat.le_of_ble_eq_true rfl⟩ rfl (Nat.le_of_ble_eq_true rfl) dX8_tells_13 (fun h13 => ?_)
    refine q_ifb_eq F 22 dX8_tells_16 (by decide) (fun c16 => ?_) (fun c16 => ?_)
    · refine q_aload_n F dX8_tells_22 0 rfl ?_
      refine q_getr (T := TX8) (ref := "LeastHungry") F huX8 rfl hx.1 6 (by decide) (by decide +kernel) rfl rfl dX8_tells_23 ?_
      refine q_aload_n F dX8_tells_26 0 rfl ?_
      refine q_getr (T := TX8) (ref := "LeastHungry") F huX8 rfl hx.1 0 (by decide) (by decide +kernel) rfl rfl dX8_tells_27 ?_
      refine q_callVV (n := 1) (T := TX7) F (c_X7_look G hI M 46 hx.2.2.2.2.2.2.2.1 1 hx.2.1 (by assumption) (by assumption) (by omega) (by have := q_df c16; omega)) rfl rfl hx.2.2.2.2.2.2.2.1.1 gX8_tells_X7_look rfl ⟨by decide, by decide, by decide +kernel⟩ rfl ⟨rfl, rfl, Nat.le_of_ble_eq_true rfl, Nat.le_of_ble_eq_true rfl⟩ rfl (Nat.le_of_ble_eq_true rfl) dX8_tells_30 (fun N30 p30 => ?_)
      obtain ⟨bf, lk⟩ := p30
      have hkp : q_kp M N30 ∧ q_ww N30 := ⟨fun j h1 _ => bf j (by omega), fun i h0 h1 => by rw [bf _ (by omega)]; exact xw i h0 h1⟩
      have hcnt : N30 46 5 = q_Wc (M (1 + 1 + 1)) (M (1 + 1 + 2)) (M (1 + 1 + 3)) (M (1 + 1) 4) (M (1 + 1) 5) (M (1 + 7)) (M (1 + 8)) (M 1 4) := lk.1
      have hwt : ∀ p q, 1 ≤ p → p ≤ 9 → 0 ≤ q → q ≤ 63 → N30 (46 + 9) (p * 64 + q) = q_Wt (M (1 + 1 + 1)) (M (1 + 1 + 2)) (M (1 + 1 + 3)) (M (1 + 1) 4) (M (1 + 1) 5) (M (1 + 7)) (M (1 + 8)) (M 1 4) p q := lk.2.2
      have hwm : ∀ p, 1 ≤ p → p ≤ 9 → q_mxN (fun s => N30 (46 + 9) (p * 64 + s)) 64 = q_Wm (M (1 + 1 + 1)) (M (1 + 1 + 2)) (M (1 + 1 + 3)) (M (1 + 1) 4) (M (1 + 1) 5) (M (1 + 7)) (M (1 + 8)) (M 1 4) p := fun p p0 p1 => q_mxN_congr 64 (fun x h0 h1 => hwt p x p0 p1 h0 (by omega))
      refine q_aload_n F dX8_tells_33 0 rfl ?_
      refine q_getr (T := TX8) (ref := "LeastHungry") F huX8 rfl hx.1 6 (by decide) (by decide +kernel) rfl rfl dX8_tells_34 ?_
      refine q_geti (T := TX7) (ref := "LeastHungry$Worlds") F huX7 rfl hx.2.2.2.2.2.2.2.1.1 5 (by decide) (by decide +kernel) rfl 5 rfl rfl dX8_tells_37 (fun h37 => ?_)
      refine q_if_ne F 46 dX8_tells_40 (by decide) (by omega) (fun c40 => ?_) (fun c40 => ?_)
      · refine q_aload_n F dX8_tells_46 0 rfl ?_
        refine q_getr (T := TX8) (ref := "LeastHungry") F huX8 rfl hx.1 6 (by decide) (by decide +kernel) rfl rfl dX8_tells_47 ?_
        refine q_callVP (n := 0) (T := TX7) F (c_X7_tellingDish G hI N30 46 hx.2.2.2.2.2.2.2.1) rfl rfl hx.2.2.2.2.2.2.2.1.1 gX8_tells_X7_tellingDish rfl ⟨by decide, by decide, by decide +kernel⟩ rfl ⟨rfl, rfl, Nat.le_of_ble_eq_true rfl, Nat.le_of_ble_eq_true rfl⟩ rfl (Nat.le_of_ble_eq_true rfl) dX8_tells_50 (fun h50 => ?_)
        have hbest : q_best (fun p => q_mxN (fun s => N30 (46 + 9) (p * 64 + s)) 64) 8 = q_best (q_Wm (M (1 + 1 + 1)) (M (1 + 1 + 2)) (M (1 + 1 + 3)) (M (1 + 1) 4) (M (1 + 1) 5) (M (1 + 7)) (M (1 + 8)) (M 1 4)) 8 := q_best_congr 8 (fun p p0 p1 => hwm p p0 (by omega))
        rw [hbest]
        have hbR := q_best_R (q_Wm (M (1 + 1 + 1)) (M (1 + 1 + 2)) (M (1 + 1 + 3)) (M (1 + 1) 4) (M (1 + 1) 5) (M (1 + 7)) (M (1 + 8)) (M 1 4)) 8
        refine q_nm (fun v53 e53 => ?_)
        refine q_istore_n F dX8_tells_53 [(2, .int (q_I v53)), (0, .ref (q_ad G 0)), (1, .int (q_I w))] (Nat.le_of_ble_eq_true rfl) rfl ?_
        refine q_iload_n F dX8_tells_54 2 rfl ?_
        refine q_if_ne F 62 dX8_tells_55 (by decide) (by omega) (fun c55 => ?_) (fun c55 => ?_)
        · refine q_aload_n F dX8_tells_62 1 rfl ?_
          refine q_getr (T := TX8) (ref := "LeastHungry") F huX8 rfl hx.1 6 (by decide) (by decide +kernel) rfl rfl dX8_tells_63 ?_
          refine q_iload_n F dX8_tells_66 0 rfl ?_
          refine q_callVP (n := 1) (T := TX7) F (c_X7_mostLeft G hI N30 46 hx.2.2.2.2.2.2.2.1 v53 (by omega)) rfl rfl hx.2.2.2.2.2.2.2.1.1 gX8_tells_X7_mostLeft rfl ⟨by decide, by decide, by decide +kernel⟩ rfl ⟨rfl, rfl, Nat.le_of_ble_eq_true rfl, Nat.le_of_ble_eq_true rfl⟩ rfl (Nat.le_of_ble_eq_true rfl) dX8_tells_67 (fun h67 => ?_)
          exact q_iret F FI dX8_tells_70 (by omega) ⟨by unfold S_tells; rw [if_pos d2, if_neg (q_df c16), if_neg (by rw [← hcnt]; exact c40), if_neg c55, hwm v53 (by omega) (by omega), e53], hkp⟩
        · refine q_iload_n F dX8_tells_58 0 rfl ?_
          refine q_goto F 70 dX8_tells_59 (by decide) ?_
          exact q_iret F FI dX8_tells_70 (by omega) ⟨by unfold S_tells; rw [if_pos d2, if_neg (q_df c16), if_neg (by rw [← hcnt]; exact c40), if_pos c55, e53], hkp⟩
      · refine q_bipush F dX8_tells_43 (by decide) ?_
        exact q_iret F FI dX8_tells_45 (by omega) ⟨by unfold S_tells; rw [if_pos d2, if_neg (q_df c16), if_pos (by rw [← hcnt]; exact c40)], hkp⟩
    · refine q_bipush F dX8_tells_19 (by decide) ?_
      exact q_iret F FI dX8_tells_21 (by omega) ⟨by unfold S_tells; rw [if_pos d2, if_pos (q_dt c16)], q_kp_rf, xw⟩
  · refine q_bipush F dX8_tells_8 (by decide) ?_
    exact q_iret F FI dX8_tells_10 (by omega) ⟨by unfold S_tells; rw [if_neg (q_df c5)], q_kp_rf, xw⟩

set_option maxHeartbeats 4000000 in
set_option maxRecDepth 100000 in
theorem c_X8_portions (G : q_G) (hI : q_inj G) (M : q_M) (hx : q_lh G) (hX : q_X M) (n : Int) (w : Int) (hnR : -2147483648 ≤ n ∧ n ≤ 2147483647) (hwR : -2147483648 ≤ w ∧ w ≤ 2147483647) : q_CI G yX8_portions wsX8_portions ({ frames := 4, cells := 0, slots := 0, locals := 98 } : Room) [.ref (q_ad G 0), .int (q_I n), .int (q_I w)] M (fun z M' => z = S_portions (M (1 + 1 + 1)) (M (1 + 1 + 3)) (M (1 + 1) 4) n w ∧ q_kp M M' ∧ q_ww M') := by
  refine q_CI.of hI (by decide) rfl RX8 rfl [(0, .ref (q_ad G 0)), (1, .int (q_I n)), (2, .int (q_I w))] rfl (Nat.le_of_ble_eq_true rfl) (fun E F FI => ?_)
  have huX0 : ∀ w ∈ wsX00, w ∈ wsX8_portions := by decide +kernel
  have huX8 : ∀ w ∈ wsX80, w ∈ wsX8_portions := by decide +kernel
  refine q_MRof (fun hM => ?_)
  obtain ⟨xv, xf, xs, xp, xw, xi1, xi2⟩ := id hX
  have xv4 := xv.1
  have xv5 := xv.2.1
  refine q_iload_n F dX8_portions_0 1 rfl ?_
  refine q_ldc (n := 999999) F dX8_portions_1 (by decide +kernel) ?_
  refine q_callSP (n := 2) F (c_X8_isWithin G hI M n 999999 (by omega)) rfl gX8_portions_X8_isWithin ⟨by decide, by decide, by decide +kernel⟩ rfl ⟨rfl, rfl, Nat.le_of_ble_eq_true rfl, Nat.le_of_ble_eq_true rfl⟩ rfl (Nat.le_of_ble_eq_true rfl) dX8_portions_3 (fun h3 => ?_)
  refine q_ifb_eq F 17 dX8_portions_6 (by decide) (fun c6 => ?_) (fun c6 => ?_)
  · refine q_bipush F dX8_portions_17 (by decide) ?_
    exact q_iret F FI dX8_portions_19 (by omega) ⟨by unfold S_portions; rw [if_neg (fun h => absurd h.1 (q_df c6))], q_kp_rf, xw⟩
  · have d1 := q_dt c6
    refine q_iload_n F dX8_portions_9 2 rfl ?_
    refine q_iconst F dX8_portions_10 ?_
    refine q_callSP (n := 2) F (c_X8_isWithin G hI M w 1 (by omega)) rfl gX8_portions_X8_isWithin ⟨by decide, by decide, by decide +kernel⟩ rfl ⟨rfl, rfl, Nat.le_of_ble_eq_true rfl, Nat.le_of_ble_eq_true rfl⟩ rfl (Nat.le_of_ble_eq_true rfl) dX8_portions_11 (fun h11 => ?_)
    refine q_ifb_ne F 20 dX8_portions_14 (by decide) (fun c14 => ?_) (fun c14 => ?_)
    · have d2 := q_dt c14
      refine q_aload_n F dX8_portions_20 0 rfl ?_
      refine q_getr (T := TX8) (ref := "LeastHungry") F huX8 rfl hx.1 8 (by decide) (by decide +kernel) rfl rfl dX8_portions_21 ?_
      refine q_aload_n F dX8_portions_24 0 rfl ?_
      refine q_getr (T := TX8) (ref := "LeastHungry") F huX8 rfl hx.1 0 (by decide) (by decide +kernel) rfl rfl dX8_portions_25 ?_
      refine q_getr (T := TX0) (ref := "LeastHungry$Book") F huX0 rfl hx.2.1.1 0 (by decide) (by decide +kernel) rfl rfl dX8_portions_28 ?_
      refine q_iload_n F dX8_portions_31 1 rfl ?_
      refine q_callVI (n := 2) (T := TX4) F (c_X4_firstGainer G hI M 58 hx.2.2.2.2.2.2.2.2.2 (1 + 1) hx.2.1.2.1 n (by assumption) (by omega) (by omega)) rfl rfl hx.2.2.2.2.2.2.2.2.2.1 gX8_portions_X4_firstGainer rfl ⟨by decide, by decide, by decide +kernel⟩ rfl ⟨rfl, rfl, Nat.le_of_ble_eq_true rfl, Nat.le_of_ble_eq_true rfl⟩ rfl (Nat.le_of_ble_eq_true rfl) dX8_portions_32 (fun r32 N32 h32 p32 => ?_)
      have hkp := q_fr_kp p32.2 (by omega) xw
      have hga : r32 = S_gain (M (1 + 1 + 1)) (M (1 + 1 + 3)) (M (1 + 1) 4) n := p32.1
      refine q_istore_n F dX8_portions_35 [(3, .int (q_I r32)), (0, .ref (q_ad G 0)), (1, .int (q_I n)), (2, .int (q_I w))] (Nat.le_of_ble_eq_true rfl) rfl ?_
      refine q_iload_n F dX8_portions_36 3 rfl ?_
      refine q_iconst F dX8_portions_37 ?_
      refine q_icmp_ne F 43 dX8_portions_38 (by decide) (by omega) (fun c38 => ?_) (fun c38 => ?_)
      · refine q_iload_n F dX8_portions_43 0 rfl ?_
        refine q_bipush F dX8_portions_44 (by decide) ?_
        refine q_icmp_ne F 53 dX8_portions_46 (by decide) (by omega) (fun c46 => ?_) (fun c46 => ?_)
        · refine q_iconst F dX8_portions_53 ?_
          exact q_iret F FI dX8_portions_54 (by omega) ⟨by unfold S_portions; rw [if_pos ⟨d1, d2⟩, if_neg c38, ← hga, if_neg c46], hkp⟩
        · refine q_iconst F dX8_portions_49 ?_
          refine q_goto F 54 dX8_portions_50 (by decide) ?_
          exact q_iret F FI dX8_portions_54 (by omega) ⟨by unfold S_portions; rw [if_pos ⟨d1, d2⟩, if_neg c38, ← hga, if_pos c46], hkp⟩
      · refine q_iload_n F dX8_portions_41 0 rfl ?_
        exact q_iret F FI dX8_portions_42 (by omega) ⟨by unfold S_portions; rw [if_pos ⟨d1, d2⟩, if_pos c38]; exact hga, hkp⟩
    · refine q_bipush F dX8_portions_17 (by decide) ?_
      exact q_iret F FI dX8_portions_19 (by omega) ⟨by unfold S_portions; rw [if_neg (fun h => absurd h.2 (q_df c14))], q_kp_rf, xw⟩

set_option maxHeartbeats 4000000 in
set_option maxRecDepth 100000 in
theorem c_X8_seats (G : q_G) (hI : q_inj G) (M : q_M) (hx : q_lh G) (hX : q_X M) (pl : Int) (i : Int) (hplR : -2147483648 ≤ pl ∧ pl ≤ 2147483647) (hiR : -2147483648 ≤ i ∧ i ≤ 2147483647) : q_CI G yX8_seats wsX8_seats ({ frames := 4, cells := 0, slots := 0, locals := 93 } : Room) [.ref (q_ad G 0), .int (q_I pl), .int (q_I i)] M (fun z M' => z = S_seats (M (1 + 6)) (M (1 + 1 + 3)) (M (1 + 1) 4) pl i ∧ q_kp M M' ∧ q_ww M') := by
  refine q_CI.of hI (by decide) rfl RX8 rfl [(0, .ref (q_ad G 0)), (1, .int (q_I pl)), (2, .int (q_I i))] rfl (Nat.le_of_ble_eq_true rfl) (fun E F FI => ?_)
  have huX0 : ∀ w ∈ wsX00, w ∈ wsX8_seats := by decide +kernel
  have huX8 : ∀ w ∈ wsX80, w ∈ wsX8_seats := by decide +kernel
  refine q_MRof (fun hM => ?_)
  obtain ⟨xv, xf, xs, xp, xw, xi1, xi2⟩ := id hX
  have xv4 := xv.1
  have xv5 := xv.2.1
  refine q_iload_n F dX8_seats_0 1 rfl ?_
  refine q_callSP (n := 1) F (c_X8_isHouse G hI M pl (by omega)) rfl gX8_seats_X8_isHouse ⟨by decide, by decide, by decide +kernel⟩ rfl ⟨rfl, rfl, Nat.le_of_ble_eq_true rfl, Nat.le_of_ble_eq_true rfl⟩ rfl (Nat.le_of_ble_eq_true rfl) dX8_seats_1 (fun h1 => ?_)
  refine q_ifb_ne F 9 dX8_seats_4 (by decide) (fun c4 => ?_) (fun c4 => ?_)
  · have d1 := q_dt c4
    refine q_aload_n F dX8_seats_9 0 rfl ?_
    refine q_getr (T := TX8) (ref := "LeastHungry") F huX8 rfl hx.1 0 (by decide) (by decide +kernel) rfl rfl dX8_seats_10 ?_
    refine q_getr (T := TX0) (ref := "LeastHungry$Book") F huX0 rfl hx.2.1.1 0 (by decide) (by decide +kernel) rfl rfl dX8_seats_13 ?_
    refine q_iload_n F dX8_seats_16 1 rfl ?_
    refine q_callVP (n := 1) (T := TX1) F (c_X1_inside G hI M (1 + 1) hx.2.1.2.1 pl (by assumption) (by omega)) rfl rfl hx.2.1.2.1.1 gX8_seats_X1_inside rfl ⟨by decide, by decide, by decide +kernel⟩ rfl ⟨rfl, rfl, Nat.le_of_ble_eq_true rfl, Nat.le_of_ble_eq_true rfl⟩ rfl (Nat.le_of_ble_eq_true rfl) dX8_seats_17 (fun h17 => ?_)
    refine q_nm (fun v20 e20 => ?_)
    refine q_istore_n F dX8_seats_20 [(3, .int (q_I v20)), (0, .ref (q_ad G 0)), (1, .int (q_I pl)), (2, .int (q_I i))] (Nat.le_of_ble_eq_true rfl) rfl ?_
    have hS : 0 ≤ v20 ∧ v20 ≤ 63 := by rw [e20]; exact q_set_R _
    have hss : q_sub v20 v20 := (q_sub_iff hS hS).mpr (fun _ h => h)
    refine q_aload_n F dX8_seats_21 1 rfl ?_
    refine q_getr (T := TX8) (ref := "LeastHungry") F huX8 rfl hx.1 7 (by decide) (by decide +kernel) rfl rfl dX8_seats_22 ?_
    refine q_aload_n F dX8_seats_25 1 rfl ?_
    refine q_getr (T := TX8) (ref := "LeastHungry") F huX8 rfl hx.1 0 (by decide) (by decide +kernel) rfl rfl dX8_seats_26 ?_
    refine q_getr (T := TX0) (ref := "LeastHungry$Book") F huX0 rfl hx.2.1.1 1 (by decide) (by decide +kernel) rfl rfl dX8_seats_29 ?_
    refine q_iload_n F dX8_seats_32 0 rfl ?_
    refine q_callVV (n := 2) (T := TX5) F (c_X5_arrange G hI M 56 hx.2.2.2.2.2.2.2.2.1 (1 + 6) hx.2.1.2.2.1 (by omega) xf v20 xw (by omega)) rfl rfl hx.2.2.2.2.2.2.2.2.1.1 gX8_seats_X5_arrange rfl ⟨by decide, by decide, by decide +kernel⟩ rfl ⟨rfl, rfl, Nat.le_of_ble_eq_true rfl, Nat.le_of_ble_eq_true rfl⟩ rfl (Nat.le_of_ble_eq_true rfl) dX8_seats_33 (fun N33 p33 => ?_)
    have ek : N33 (1 + 6) = M (1 + 6) := p33.1 _ (by omega)
    have tb : q_tab N33 56 (N33 (1 + 6)) v20 64 := by rw [ek]; exact p33.2.1
    have hkp : q_kp M N33 ∧ q_ww N33 := ⟨fun j h1 _ => p33.1 j (by omega), p33.2.2⟩
    refine q_iload_n F dX8_seats_36 3 rfl ?_
    refine q_iconst F dX8_seats_37 ?_
    refine q_icmp_ne F 52 dX8_seats_38 (by decide) (by omega) (fun c38 => ?_) (fun c38 => ?_)
    · refine q_aload_n F dX8_seats_52 1 rfl ?_
      refine q_getr (T := TX8) (ref := "LeastHungry") F huX8 rfl hx.1 7 (by decide) (by decide +kernel) rfl rfl dX8_seats_53 ?_
      refine q_aload_n F dX8_seats_56 1 rfl ?_
      refine q_getr (T := TX8) (ref := "LeastHungry") F huX8 rfl hx.1 0 (by decide) (by decide +kernel) rfl rfl dX8_seats_57 ?_
      refine q_getr (T := TX0) (ref := "LeastHungry$Book") F huX0 rfl hx.2.1.1 1 (by decide) (by decide +kernel) rfl rfl dX8_seats_60 ?_
      refine q_iload_n F dX8_seats_63 0 rfl ?_
      refine q_iload_n F dX8_seats_64 3 rfl ?_
      refine q_callVP (n := 3) (T := TX5) F (c_X5_whoSits G hI N33 56 hx.2.2.2.2.2.2.2.2.1 (1 + 6) hx.2.1.2.2.1 (by omega) (by rw [ek]; exact xf) v20 i tb p33.2.2 (by omega)) rfl rfl hx.2.2.2.2.2.2.2.2.1.1 gX8_seats_X5_whoSits rfl ⟨by decide, by decide, by decide +kernel⟩ rfl ⟨rfl, rfl, Nat.le_of_ble_eq_true rfl, Nat.le_of_ble_eq_true rfl⟩ rfl (Nat.le_of_ble_eq_true rfl) dX8_seats_65 (fun h65 => ?_)
      exact q_iret F FI dX8_seats_68 (by omega) ⟨by unfold S_seats; rw [if_pos d1, if_neg c38, ek, e20], hkp⟩
    · refine q_aload_n F dX8_seats_41 1 rfl ?_
      refine q_getr (T := TX8) (ref := "LeastHungry") F huX8 rfl hx.1 7 (by decide) (by decide +kernel) rfl rfl dX8_seats_42 ?_
      refine q_iload_n F dX8_seats_45 0 rfl ?_
      refine q_callVP (n := 1) (T := TX5) F (c_X5_rowsOf G hI N33 56 hx.2.2.2.2.2.2.2.2.1 v20 (N33 (1 + 6)) v20 tb p33.2.2 (by omega) hss) rfl rfl hx.2.2.2.2.2.2.2.2.1.1 gX8_seats_X5_rowsOf rfl ⟨by decide, by decide, by decide +kernel⟩ rfl ⟨rfl, rfl, Nat.le_of_ble_eq_true rfl, Nat.le_of_ble_eq_true rfl⟩ rfl (Nat.le_of_ble_eq_true rfl) dX8_seats_46 (fun h46 => ?_)
      have hrwR : 0 ≤ q_rows (N33 (1 + 6)) v20 ∧ q_rows (N33 (1 + 6)) v20 ≤ 300000 := by
        unfold q_rows
        split
        · omega
        · exact q_rb_R _ _ _
      refine q_goto F 68 dX8_seats_49 (by decide) ?_
      exact q_iret F FI dX8_seats_68 (by omega) ⟨by unfold S_seats; rw [if_pos d1, if_pos c38, ek, e20], hkp⟩
  · refine q_iconst F dX8_seats_7 ?_
    exact q_iret F FI dX8_seats_8 (by omega) ⟨by unfold S_seats; rw [if_neg (q_df c4)], q_kp_rf, xw⟩

set_option maxHeartbeats 4000000 in
set_option maxRecDepth 100000 in
theorem c_X8_belch (G : q_G) (hI : q_inj G) (M : q_M) (hx : q_lh G) (hX : q_X M) (g : Int) (p : Int) (t : Int) (w : Int) (hgR : -2147483648 ≤ g ∧ g ≤ 2147483647) (hpR : -2147483648 ≤ p ∧ p ≤ 2147483647) (htR : -2147483648 ≤ t ∧ t ≤ 2147483647) (hwR : -2147483648 ≤ w ∧ w ≤ 2147483647) : q_CL G yX8_belch wsX8_belch ({ frames := 4, cells := 0, slots := 0, locals := 94 } : Room) [.ref (q_ad G 0), .int (q_I g), .int (q_I p), .int (q_I t), .int (q_I w)] M (fun r M' => r = q_J (S_belch (M (1 + 1 + 1)) (M (1 + 1 + 2)) (M (1 + 1 + 3)) (M (1 + 1) 4) g p t w) ∧ q_kp M M' ∧ q_ww M') := by
  refine q_CL.of hI (by decide) rfl RX8 rfl [(0, .ref (q_ad G 0)), (1, .int (q_I g)), (2, .int (q_I p)), (3, .int (q_I t)), (4, .int (q_I w))] rfl (Nat.le_of_ble_eq_true rfl) (fun E F FL => ?_)
  have huX0 : ∀ w ∈ wsX00, w ∈ wsX8_belch := by decide +kernel
  have huX1 : ∀ w ∈ wsX10, w ∈ wsX8_belch := by decide +kernel
  have huX8 : ∀ w ∈ wsX80, w ∈ wsX8_belch := by decide +kernel
  refine q_MRof (fun hM => ?_)
  obtain ⟨xv, xf, xs, xp, xw, xi1, xi2⟩ := id hX
  have xv4 := xv.1
  have xv5 := xv.2.1
  refine q_aload_n F dX8_belch_0 0 rfl ?_
  refine q_getr (T := TX8) (ref := "LeastHungry") F huX8 rfl hx.1 0 (by decide) (by decide +kernel) rfl rfl dX8_belch_1 ?_
  refine q_getr (T := TX0) (ref := "LeastHungry$Book") F huX0 rfl hx.2.1.1 0 (by decide) (by decide +kernel) rfl rfl dX8_belch_4 ?_
  refine q_iload_n F dX8_belch_7 1 rfl ?_
  refine q_callVP (n := 1) (T := TX1) F (c_X1_has G hI M (1 + 1) hx.2.1.2.1 g (by assumption) (by omega)) rfl rfl hx.2.1.2.1.1 gX8_belch_X1_has rfl ⟨by decide, by decide, by decide +kernel⟩ rfl ⟨rfl, rfl, Nat.le_of_ble_eq_true rfl, Nat.le_of_ble_eq_true rfl⟩ rfl (Nat.le_of_ble_eq_true rfl) dX8_belch_8 (fun h8 => ?_)
  refine q_ifb_ne F 18 dX8_belch_11 (by decide) (fun c11 => ?_) (fun c11 => ?_)
  · have hgi := q_has_in c11
    have xva := xv.2.2.2.2 g hgi.1 hgi.2
    refine q_iload_n F dX8_belch_18 2 rfl ?_
    refine q_callSP (n := 1) F (c_X8_isDish G hI M p (by omega)) rfl gX8_belch_X8_isDish ⟨by decide, by decide, by decide +kernel⟩ rfl ⟨rfl, rfl, Nat.le_of_ble_eq_true rfl, Nat.le_of_ble_eq_true rfl⟩ rfl (Nat.le_of_ble_eq_true rfl) dX8_belch_19 (fun h19 => ?_)
    refine q_ifb_eq F 43 dX8_belch_22 (by decide) (fun c22 => ?_) (fun c22 => ?_)
    · refine q_ldc2 (n := (-1000000000000000002)) F dX8_belch_43 (by decide +kernel) ?_
      exact q_lret F FL dX8_belch_46 ⟨by unfold S_belch; rw [if_pos c11, if_neg (fun h => absurd h.1 (q_df c22))], q_kp_rf, xw⟩
    · refine q_iload_n F dX8_belch_25 3 rfl ?_
      refine q_bipush F dX8_belch_26 (by decide) ?_
      refine q_callSP (n := 2) F (c_X8_isWithin G hI M t 10 (by omega)) rfl gX8_belch_X8_isWithin ⟨by decide, by decide, by decide +kernel⟩ rfl ⟨rfl, rfl, Nat.le_of_ble_eq_true rfl, Nat.le_of_ble_eq_true rfl⟩ rfl (Nat.le_of_ble_eq_true rfl) dX8_belch_28 (fun h28 => ?_)
      refine q_ifb_eq F 43 dX8_belch_31 (by decide) (fun c31 => ?_) (fun c31 => ?_)
      · refine q_ldc2 (n := (-1000000000000000002)) F dX8_belch_43 (by decide +kernel) ?_
        exact q_lret F FL dX8_belch_46 ⟨by unfold S_belch; rw [if_pos c11, if_neg (fun h => absurd h.2.1 (q_df c31))], q_kp_rf, xw⟩
      · refine q_iload F dX8_belch_34 4 rfl ?_
        refine q_iconst F dX8_belch_36 ?_
        refine q_callSP (n := 2) F (c_X8_isWithin G hI M w 1 (by omega)) rfl gX8_belch_X8_isWithin ⟨by decide, by decide, by decide +kernel⟩ rfl ⟨rfl, rfl, Nat.le_of_ble_eq_true rfl, Nat.le_of_ble_eq_true rfl⟩ rfl (Nat.le_of_ble_eq_true rfl) dX8_belch_37 (fun h37 => ?_)
        refine q_ifb_ne F 47 dX8_belch_40 (by decide) (fun c40 => ?_) (fun c40 => ?_)
        · have d2 := q_dt c22
          have d3 := q_dt c31
          have d4 := q_dt c40
          refine q_aload_n F dX8_belch_47 0 rfl ?_
          refine q_getr (T := TX8) (ref := "LeastHungry") F huX8 rfl hx.1 0 (by decide) (by decide +kernel) rfl rfl dX8_belch_48 ?_
          refine q_getr (T := TX0) (ref := "LeastHungry$Book") F huX0 rfl hx.2.1.1 0 (by decide) (by decide +kernel) rfl rfl dX8_belch_51 ?_
          refine q_aload_n F dX8_belch_54 0 rfl ?_
          refine q_getr (T := TX8) (ref := "LeastHungry") F huX8 rfl hx.1 0 (by decide) (by decide +kernel) rfl rfl dX8_belch_55 ?_
          refine q_getr (T := TX0) (ref := "LeastHungry$Book") F huX0 rfl hx.2.1.1 0 (by decide) (by decide +kernel) rfl rfl dX8_belch_58 ?_
          refine q_getr (T := TX1) (ref := "LeastHungry$Company") F huX1 rfl hx.2.1.2.1.1 2 (by decide) (by decide +kernel) rfl rfl dX8_belch_61 ?_
          refine q_iload_n F dX8_belch_64 1 rfl ?_
          refine q_callSP (n := 2) F (c_X8_at G hI M ((1 + 1) + 3) 6 hx.2.1.2.1.2.2.2.1 g (by omega)) rfl gX8_belch_X8_at ⟨by decide, by decide, by decide +kernel⟩ rfl ⟨rfl, rfl, Nat.le_of_ble_eq_true rfl, Nat.le_of_ble_eq_true rfl⟩ rfl (Nat.le_of_ble_eq_true rfl) dX8_belch_65 (fun h65 => ?_)
          refine q_callVP (n := 1) (T := TX1) F (c_X1_feigners G hI M (1 + 1) hx.2.1.2.1 _ (by assumption) (by omega)) rfl rfl hx.2.1.2.1.1 gX8_belch_X1_feigners rfl ⟨by decide, by decide, by decide +kernel⟩ rfl ⟨rfl, rfl, Nat.le_of_ble_eq_true rfl, Nat.le_of_ble_eq_true rfl⟩ rfl (Nat.le_of_ble_eq_true rfl) dX8_belch_68 (fun h68 => ?_)
          refine q_nm (fun v71 e71 => ?_)
          refine q_istore F dX8_belch_71 [(5, .int (q_I v71)), (0, .ref (q_ad G 0)), (1, .int (q_I g)), (2, .int (q_I p)), (3, .int (q_I t)), (4, .int (q_I w))] (Nat.le_of_ble_eq_true rfl) rfl ?_
          have hS1 : 0 ≤ v71 ∧ v71 ≤ 63 := by rw [e71]; exact q_set_R _
          have hcR := q_cnt_R (q_has v71)
          refine q_aload_n F dX8_belch_73 1 rfl ?_
          refine q_getr (T := TX8) (ref := "LeastHungry") F huX8 rfl hx.1 8 (by decide) (by decide +kernel) rfl rfl dX8_belch_74 ?_
          refine q_aload_n F dX8_belch_77 1 rfl ?_
          refine q_getr (T := TX8) (ref := "LeastHungry") F huX8 rfl hx.1 0 (by decide) (by decide +kernel) rfl rfl dX8_belch_78 ?_
          refine q_getr (T := TX0) (ref := "LeastHungry$Book") F huX0 rfl hx.2.1.1 0 (by decide) (by decide +kernel) rfl rfl dX8_belch_81 ?_
          refine q_iload_n F dX8_belch_84 2 rfl ?_
          refine q_iload_n F dX8_belch_85 3 rfl ?_
          refine q_iload_n F dX8_belch_86 4 rfl ?_
          refine q_callVI (n := 4) (T := TX4) F (c_X4_chances G hI M 58 hx.2.2.2.2.2.2.2.2.2 (1 + 1) hx.2.1.2.1 g p t (by assumption) (by omega) (by omega)) rfl rfl hx.2.2.2.2.2.2.2.2.2.1 gX8_belch_X4_chances rfl ⟨by decide, by decide, by decide +kernel⟩ rfl ⟨rfl, rfl, Nat.le_of_ble_eq_true rfl, Nat.le_of_ble_eq_true rfl⟩ rfl (Nat.le_of_ble_eq_true rfl) dX8_belch_87 (fun r87 N87 h87 p87 => ?_)
          have hkp := q_fr_kp p87.2.1 (by omega) xw
          refine q_istore F dX8_belch_90 [(6, .int (q_I r87)), (5, .int (q_I v71)), (0, .ref (q_ad G 0)), (1, .int (q_I g)), (2, .int (q_I p)), (3, .int (q_I t)), (4, .int (q_I w))] (Nat.le_of_ble_eq_true rfl) rfl ?_
          refine q_bipush F dX8_belch_92 (by decide) ?_
          refine q_iload F dX8_belch_94 1 rfl ?_
          refine q_callSP (n := 1) F (c_J6_bitCount_0f7a4 G hI N87 v71 (by omega)) rfl gX8_belch_J6_bitCount_0f7a4 ⟨by decide, by decide, by decide +kernel⟩ rfl ⟨rfl, rfl, Nat.le_of_ble_eq_true rfl, Nat.le_of_ble_eq_true rfl⟩ rfl (Nat.le_of_ble_eq_true rfl) dX8_belch_96 (fun h96 => ?_)
          refine q_callSP (n := 2) F (c_X8_power G hI N87 10 _ (by omega)) rfl gX8_belch_X8_power ⟨by decide, by decide, by decide +kernel⟩ rfl ⟨rfl, rfl, Nat.le_of_ble_eq_true rfl, Nat.le_of_ble_eq_true rfl⟩ rfl (Nat.le_of_ble_eq_true rfl) dX8_belch_99 (fun h99 => ?_)
          refine q_nm (fun v102 e102 => ?_)
          refine q_istore F dX8_belch_102 [(7, .int (q_I v102)), (6, .int (q_I r87)), (5, .int (q_I v71)), (0, .ref (q_ad G 0)), (1, .int (q_I g)), (2, .int (q_I p)), (3, .int (q_I t)), (4, .int (q_I w))] (Nat.le_of_ble_eq_true rfl) rfl ?_
          have hlo := q_pw_R (b := 10) (by omega) (q_cnt (q_has v71)).toNat (by omega)
          rw [← e102] at hlo
          refine q_iload F dX8_belch_104 1 rfl ?_
          refine q_iload F dX8_belch_106 0 rfl ?_
          refine q_iload F dX8_belch_108 7 rfl ?_
          refine q_callSL (n := 3) F (c_X8_lowestTerm G hI N87 r87 v102 w (by omega)) rfl gX8_belch_X8_lowestTerm ⟨by decide, by decide, by decide +kernel⟩ rfl ⟨rfl, rfl, Nat.le_of_ble_eq_true rfl, Nat.le_of_ble_eq_true rfl⟩ rfl (Nat.le_of_ble_eq_true rfl) dX8_belch_110 (fun r110 N110 p110 => ?_)
          obtain ⟨p110, rfl⟩ := p110
          exact q_lret F FL dX8_belch_113 ⟨by
      rw [p110]
      unfold S_belch
      rw [if_pos c11, if_pos (show (1 ≤ p ∧ p ≤ 9) ∧ (0 ≤ t ∧ t ≤ 10) ∧ (0 ≤ w ∧ w ≤ 1) from ⟨d2, d3, d4⟩), e102, e71, p87.1]
      rfl, hkp⟩
        · refine q_ldc2 (n := (-1000000000000000002)) F dX8_belch_43 (by decide +kernel) ?_
          exact q_lret F FL dX8_belch_46 ⟨by unfold S_belch; rw [if_pos c11, if_neg (fun h => absurd h.2.2 (q_df c40))], q_kp_rf, xw⟩
  · refine q_ldc2 (n := (-1000000000000000001)) F dX8_belch_14 (by decide +kernel) ?_
    exact q_lret F FL dX8_belch_17 ⟨by unfold S_belch; rw [if_neg (by simp [c11])], q_kp_rf, xw⟩

set_option maxHeartbeats 4000000 in
set_option maxRecDepth 100000 in
theorem c_X8_host (G : q_G) (hI : q_inj G) (M : q_M) (hx : q_lh G) (hX : q_X M) : q_CI G yX8_host wsX8_host ({ frames := 7, cells := 0, slots := 0, locals := 167 } : Room) [.ref (q_ad G 0)] M (fun z M' => z = S_host (M (1 + 1) 4) (q_flt (M (28 + 1)) (M 28 1) 61 0) (fun v => q_NI (M (1 + 1) 4) (M (1 + 1) 5) (M (28 + 1)) (M 28 1) v (M (1 + 1 + 1)) (M (1 + 1 + 2)) (M (1 + 1 + 3))) ∧ q_kp M M' ∧ q_ww M') := by
  refine q_CI.of hI (by decide) rfl RX8 rfl [(0, .ref (q_ad G 0))] rfl (Nat.le_of_ble_eq_true rfl) (fun E F FI => ?_)
  have huX0 : ∀ w ∈ wsX00, w ∈ wsX8_host := by decide +kernel
  have huX6 : ∀ w ∈ wsX60, w ∈ wsX8_host := by decide +kernel
  have huX8 : ∀ w ∈ wsX80, w ∈ wsX8_host := by decide +kernel
  refine q_MRof (fun hM => ?_)
  obtain ⟨xv, xf, xs, xp, xw, xi1, xi2⟩ := id hX
  have xv4 := xv.1
  have xv5 := xv.2.1
  refine q_aload_n F dX8_host_0 0 rfl ?_
  refine q_getr (T := TX8) (ref := "LeastHungry") F huX8 rfl hx.1 4 (by decide) (by decide +kernel) rfl rfl dX8_host_1 ?_
  refine q_aload_n F dX8_host_4 0 rfl ?_
  refine q_getr (T := TX8) (ref := "LeastHungry") F huX8 rfl hx.1 3 (by decide) (by decide +kernel) rfl rfl dX8_host_5 ?_
  refine q_aload_n F dX8_host_8 0 rfl ?_
  refine q_getr (T := TX8) (ref := "LeastHungry") F huX8 rfl hx.1 0 (by decide) (by decide +kernel) rfl rfl dX8_host_9 ?_
  refine q_getr (T := TX0) (ref := "LeastHungry$Book") F huX0 rfl hx.2.1.1 0 (by decide) (by decide +kernel) rfl rfl dX8_host_12 ?_
  refine q_iconst F dX8_host_15 ?_
  refine q_callVI (n := 3) (T := TX6) F (c_X6_play G hI M 30 hx.2.2.2.2.2.1 28 hx.2.2.2.2.1 (1 + 1) hx.2.1.2.1 0 (by assumption) (by assumption) (by omega) (by omega)) rfl rfl hx.2.2.2.2.2.1.1 gX8_host_X6_play rfl ⟨by decide, by decide, by decide +kernel⟩ rfl ⟨rfl, rfl, Nat.le_of_ble_eq_true rfl, Nat.le_of_ble_eq_true rfl⟩ rfl (Nat.le_of_ble_eq_true rfl) dX8_host_16 (fun r16 N16 h16 p16 => ?_)
  obtain ⟨b16, rfl, p16⟩ := p16
  have kp := q_pl_kp p16.1 xw
  refine q_ifb_ne F 25 dX8_host_19 (by decide) (fun c19 => ?_) (fun c19 => ?_)
  · have hfl : (q_flt (M (28 + 1)) (M 28 1) 61 0) = -6 := by
      by_cases h : (q_flt (M (28 + 1)) (M 28 1) 61 0) = -6
      · exact h
      · rw [p16.2.2.2.1 h] at c19
        cases c19
    have q16 := p16.2.2.2.2 hfl
    have hbar : (q_flt (M (28 + 1)) (M 28 1) 61 0) = -6 ∧ (q_NI (M (1 + 1) 4) (M (1 + 1) 5) (M (28 + 1)) (M 28 1) 0 (M (1 + 1 + 1)) (M (1 + 1 + 2)) (M (1 + 1 + 3))).1 = -6 := ⟨hfl, by rw [q16.1] at c19; exact q_dt c19⟩
    refine q_aload_n F dX8_host_25 0 rfl ?_
    refine q_getr (T := TX8) (ref := "LeastHungry") F huX8 rfl hx.1 4 (by decide) (by decide +kernel) rfl rfl dX8_host_26 ?_
    refine q_getr (T := TX6) (ref := "LeastHungry$Trial") F huX6 rfl hx.2.2.2.2.2.1.1 0 (by decide) (by decide +kernel) rfl rfl dX8_host_29 ?_
    refine q_callVP (n := 0) (T := TX1) F (c_X1_starved G hI N16 (30 + 1) hx.2.2.2.2.2.1.2.1 p16.2.1) rfl rfl hx.2.2.2.2.2.1.2.1.1 gX8_host_X1_starved rfl ⟨by decide, by decide, by decide +kernel⟩ rfl ⟨rfl, rfl, Nat.le_of_ble_eq_true rfl, Nat.le_of_ble_eq_true rfl⟩ rfl (Nat.le_of_ble_eq_true rfl) dX8_host_32 (fun h32 => ?_)
    have hth := p16.2.2.1.1
    have hst : q_set (fun x => decide (N16 (30 + 1 + 1) x = 20) && q_has (N16 (30 + 1) 4) x) = S_star (M (1 + 1) 4) (qt_h (q_NI (M (1 + 1) 4) (M (1 + 1) 5) (M (28 + 1)) (M 28 1) 0 (M (1 + 1 + 1)) (M (1 + 1 + 2)) (M (1 + 1 + 3))).2.2) := by
      rw [hth]
      exact q_set_congr (fun x _ _ => by
        cases hx : q_has (M (1 + 1) 4) x
        · simp
        · rw [(q16.2.2.2.1 x hx).1.symm]
          rfl)
    rw [hst]
    refine q_nm (fun v35 e35 => ?_)
    refine q_istore_n F dX8_host_35 [(1, .int (q_I v35)), (0, .ref (q_ad G 0))] (Nat.le_of_ble_eq_true rfl) rfl ?_
    refine q_bipush F dX8_host_36 (by decide) ?_
    refine q_istore_n F dX8_host_38 [(2, .int (q_I 9)), (1, .int (q_I v35)), (0, .ref (q_ad G 0))] (Nat.le_of_ble_eq_true rfl) rfl ?_
    have lp39_1 : ∀ (k39_1 : Nat) (v : Int) (M1 : q_M), ((0 ≤ v ∧ v ≤ 9) ∧ q_hs (q_hsP (fun v => q_NI (M (1 + 1) 4) (M (1 + 1) 5) (M (28 + 1)) (M 28 1) v (M (1 + 1 + 1)) (M (1 + 1 + 2)) (M (1 + 1 + 3))) (M (1 + 1) 4)) v.toNat = q_hs (q_hsP (fun v => q_NI (M (1 + 1) 4) (M (1 + 1) 5) (M (28 + 1)) (M 28 1) v (M (1 + 1 + 1)) (M (1 + 1 + 2)) (M (1 + 1 + 3))) (M (1 + 1) 4)) 9 ∧ (∀ j, j < 30 → j ≠ 6 → M1 j = M j) ∧ q_ww M1) → v.toNat = k39_1 → q_Y G E 3 M1 [(0, .ref (q_ad G 0)), (1, .int (q_I v35)), (2, .int (q_I v))] 39 [] := by
      intro k39_1
      induction k39_1 using Nat.strongRecOn with
      | _ k39_1 ih39_1 =>
        intro v  M1 hi39 hk39
        refine q_MRof (fun hM39 => ?_)
        refine q_iload_n F dX8_host_39 2 rfl ?_
        refine q_if_le F 88 dX8_host_40 (by decide) (by omega) (fun c40 => ?_) (fun c40 => ?_)
        · refine q_iconst F dX8_host_88 ?_
          exact q_iret F FI dX8_host_89 (by omega) ⟨by
      have hu := hi39.2.1
      rw [show v.toNat = 0 by omega] at hu
      unfold S_host
      rw [if_pos (show (q_flt (M (28 + 1)) (M 28 1) 61 0) = -6 ∧ _ from hbar), ← hu]
      rfl, hi39.2.2⟩
        · refine q_aload_n F dX8_host_43 0 rfl ?_
          refine q_getr (T := TX8) (ref := "LeastHungry") F huX8 rfl hx.1 4 (by decide) (by decide +kernel) rfl rfl dX8_host_44 ?_
          refine q_aload_n F dX8_host_47 0 rfl ?_
          refine q_getr (T := TX8) (ref := "LeastHungry") F huX8 rfl hx.1 3 (by decide) (by decide +kernel) rfl rfl dX8_host_48 ?_
          refine q_aload_n F dX8_host_51 0 rfl ?_
          refine q_getr (T := TX8) (ref := "LeastHungry") F huX8 rfl hx.1 0 (by decide) (by decide +kernel) rfl rfl dX8_host_52 ?_
          refine q_getr (T := TX0) (ref := "LeastHungry$Book") F huX0 rfl hx.2.1.1 0 (by decide) (by decide +kernel) rfl rfl dX8_host_55 ?_
          refine q_iload_n F dX8_host_58 2 rfl ?_
          refine q_callVI (n := 3) (T := TX6) F (c_X6_play G hI M1 30 hx.2.2.2.2.2.1 28 hx.2.2.2.2.1 (1 + 1) hx.2.1.2.1 v (q_cv_eq xv (fun j h1 h2 => hi39.2.2.1 j (by omega) (by omega))) (by unfold q_pv; rw [hi39.2.2.1 28 (by omega) (by omega), hi39.2.2.1 (28 + 1) (by omega) (by omega)]; exact xp) (by omega) (by omega)) rfl rfl hx.2.2.2.2.2.1.1 gX8_host_X6_play rfl ⟨by decide, by decide, by decide +kernel⟩ rfl ⟨rfl, rfl, Nat.le_of_ble_eq_true rfl, Nat.le_of_ble_eq_true rfl⟩ rfl (Nat.le_of_ble_eq_true rfl) dX8_host_59 (fun r59 N59 h59 p59 => ?_)
          obtain ⟨b59, rfl, p59⟩ := p59
          have kp59 := q_pl_kp p59.1 hi39.2.2.2
          have e1 : ∀ j, j < 30 → j ≠ 6 → M1 j = M j := hi39.2.2.1
          have p59c := p59.2.2.2.2
          have p59d := p59.2.2.1.1
          rw [e1 28 (by omega) (by omega), e1 (28 + 1) (by omega) (by omega), e1 (1 + 1) (by omega) (by omega), e1 (1 + 1 + 1) (by omega) (by omega), e1 (1 + 1 + 2) (by omega) (by omega), e1 (1 + 1 + 3) (by omega) (by omega)] at p59c
          rw [e1 (1 + 1) (by omega) (by omega)] at p59d
          have q59 := p59c hfl
          refine q_pop F dX8_host_62 rfl ?_
          refine q_aload_n F dX8_host_63 0 rfl ?_
          refine q_getr (T := TX8) (ref := "LeastHungry") F huX8 rfl hx.1 4 (by decide) (by decide +kernel) rfl rfl dX8_host_64 ?_
          refine q_getr (T := TX6) (ref := "LeastHungry$Trial") F huX6 rfl hx.2.2.2.2.2.1.1 0 (by decide) (by decide +kernel) rfl rfl dX8_host_67 ?_
          refine q_callVP (n := 0) (T := TX1) F (c_X1_starved G hI N59 (30 + 1) hx.2.2.2.2.2.1.2.1 p59.2.1) rfl rfl hx.2.2.2.2.2.1.2.1.1 gX8_host_X1_starved rfl ⟨by decide, by decide, by decide +kernel⟩ rfl ⟨rfl, rfl, Nat.le_of_ble_eq_true rfl, Nat.le_of_ble_eq_true rfl⟩ rfl (Nat.le_of_ble_eq_true rfl) dX8_host_70 (fun h70 => ?_)
          have hst2 : q_set (fun x => decide (N59 (30 + 1 + 1) x = 20) && q_has (N59 (30 + 1) 4) x) = S_star (M (1 + 1) 4) (qt_h (q_NI (M (1 + 1) 4) (M (1 + 1) 5) (M (28 + 1)) (M 28 1) v (M (1 + 1 + 1)) (M (1 + 1 + 2)) (M (1 + 1 + 3))).2.2) := by
            rw [p59d]
            exact q_set_congr (fun x _ _ => by
              cases hx : q_has (M (1 + 1) 4) x
              · simp
              · rw [(q59.2.2.2.1 x hx).1.symm]
                rfl)
          rw [hst2]
          refine q_iload_n F dX8_host_73 1 rfl ?_
          refine q_iconst F dX8_host_74 ?_
          refine q_ixor F dX8_host_75 (fun z75 e75 h75 => ?_)
          refine q_iand F dX8_host_76 (fun z76 e76 h76 => ?_)
          refine q_if_ne F 82 dX8_host_77 (by decide) (by omega) (fun c77 => ?_) (fun c77 => ?_)
          · obtain ⟨v82, e82⟩ : ∃ z_ : Int, z_ = v + (-1) := ⟨_, rfl⟩
            refine q_iinc F dX8_host_82 2 rfl e82 [(2, .int (q_I v82)), (0, .ref (q_ad G 0)), (1, .int (q_I v35))] (Nat.le_of_ble_eq_true rfl) rfl ?_
            refine q_goto F 39 dX8_host_85 (by decide) ?_
            refine q_drop [1, 2, 0] rfl ?_
            exact ih39_1 _ (by omega) v82 N59 ⟨by omega, by
      have hu := hi39.2.1
      rw [show v.toNat = v82.toNat + 1 by omega, q_hs_s, if_neg] at hu
      · exact hu
      · rw [show ((v82.toNat : Nat) : Int) + 1 = v by omega]
        unfold q_hsP
        show ¬ decide (q_and (S_star (M (1 + 1) 4) (qt_h (q_NI (M (1 + 1) 4) (M (1 + 1) 5) (M (28 + 1)) (M 28 1) v (M (1 + 1 + 1)) (M (1 + 1 + 2)) (M (1 + 1 + 3))).2.2)) (q_xor (S_star (M (1 + 1) 4) (qt_h (q_NI (M (1 + 1) 4) (M (1 + 1) 5) (M (28 + 1)) (M 28 1) 0 (M (1 + 1 + 1)) (M (1 + 1 + 2)) (M (1 + 1 + 3))).2.2)) (-1)) = 0) = true
        rw [← e35, ← e75, ← e76]
        simpa using c77, fun j h1 h2 => (kp59.1 j h1 h2).trans (e1 j h1 h2), kp59.2⟩ rfl
          · refine q_iload_n F dX8_host_80 2 rfl ?_
            exact q_iret F FI dX8_host_81 (by omega) ⟨by
      have hu := hi39.2.1
      rw [show v.toNat = (v - 1).toNat + 1 by omega, q_hs_s, if_pos] at hu
      · unfold S_host
        rw [if_pos (show (q_flt (M (28 + 1)) (M 28 1) 61 0) = -6 ∧ _ from hbar), ← hu]
        omega
      · rw [show (((v - 1).toNat : Nat) : Int) + 1 = v by omega]
        unfold q_hsP
        show decide (q_and (S_star (M (1 + 1) 4) (qt_h (q_NI (M (1 + 1) 4) (M (1 + 1) 5) (M (28 + 1)) (M 28 1) v (M (1 + 1 + 1)) (M (1 + 1 + 2)) (M (1 + 1 + 3))).2.2)) (q_xor (S_star (M (1 + 1) 4) (qt_h (q_NI (M (1 + 1) 4) (M (1 + 1) 5) (M (28 + 1)) (M 28 1) 0 (M (1 + 1 + 1)) (M (1 + 1 + 2)) (M (1 + 1 + 3))).2.2)) (-1)) = 0) = true
        rw [← e35, ← e75, ← e76]
        simpa using c77, fun j h1 h2 => (kp59.1 j h1 h2).trans (e1 j h1 h2), kp59.2⟩
    refine q_drop [2, 1, 0] rfl ?_
    exact lp39_1 _ 9 N16 ⟨by omega, rfl, kp.1, kp.2⟩ rfl
  · refine q_bipush F dX8_host_22 (by decide) ?_
    exact q_iret F FI dX8_host_24 (by omega) ⟨by unfold S_host; rw [if_neg (fun h => by
        have := (p16.2.2.2.2 h.1).1
        rw [c19] at this
        exact q_df this.symm h.2)], kp⟩

set_option maxHeartbeats 4000000 in
set_option maxRecDepth 100000 in
theorem c_X8_year (G : q_G) (hI : q_inj G) (M : q_M) (hx : q_lh G) (hX : q_X M) (seed : Int) (m : Int) (w : Int) (hseedR : -2147483648 ≤ seed ∧ seed ≤ 2147483647) (hmR : -2147483648 ≤ m ∧ m ≤ 2147483647) (hwR : -2147483648 ≤ w ∧ w ≤ 2147483647) : q_CI G yX8_year wsX8_year ({ frames := 7, cells := 0, slots := 0, locals := 163 } : Room) [.ref (q_ad G 0), .int (q_I seed), .int (q_I m), .int (q_I w)] M (fun z M' => z = S_year (M (1 + 1 + 1)) (M (1 + 1 + 2)) (M (1 + 1 + 3)) (M (1 + 1) 4) (M (1 + 1) 5) seed m w ∧ q_kp M M' ∧ q_ww M') := by
  refine q_CI.of hI (by decide) rfl RX8 rfl [(0, .ref (q_ad G 0)), (1, .int (q_I seed)), (2, .int (q_I m)), (3, .int (q_I w))] rfl (Nat.le_of_ble_eq_true rfl) (fun E F FI => ?_)
  have huX0 : ∀ w ∈ wsX00, w ∈ wsX8_year := by decide +kernel
  have huX1 : ∀ w ∈ wsX10, w ∈ wsX8_year := by decide +kernel
  have huX6 : ∀ w ∈ wsX60, w ∈ wsX8_year := by decide +kernel
  have huX8 : ∀ w ∈ wsX80, w ∈ wsX8_year := by decide +kernel
  refine q_MRof (fun hM => ?_)
  obtain ⟨xv, xf, xs, xp, xw, xi1, xi2⟩ := id hX
  have xv4 := xv.1
  have xv5 := xv.2.1
  refine q_iload_n F dX8_year_0 1 rfl ?_
  refine q_sipush F dX8_year_1 (by decide) ?_
  refine q_callSP (n := 2) F (c_X8_isWithin G hI M seed 9999 (by omega)) rfl gX8_year_X8_isWithin ⟨by decide, by decide, by decide +kernel⟩ rfl ⟨rfl, rfl, Nat.le_of_ble_eq_true rfl, Nat.le_of_ble_eq_true rfl⟩ rfl (Nat.le_of_ble_eq_true rfl) dX8_year_4 (fun h4 => ?_)
  refine q_ifb_eq F 29 dX8_year_7 (by decide) (fun c7 => ?_) (fun c7 => ?_)
  · refine q_bipush F dX8_year_29 (by decide) ?_
    exact q_iret F FI dX8_year_31 (by omega) ⟨by unfold S_year; rw [if_neg (fun h => absurd h.1 (q_df c7))], q_kp_rf, xw⟩
  · have d1 := q_dt c7
    refine q_iload_n F dX8_year_10 2 rfl ?_
    refine q_iconst F dX8_year_11 ?_
    refine q_icmp_lt F 29 dX8_year_12 (by decide) (by omega) (fun c12 => ?_) (fun c12 => ?_)
    · refine q_bipush F dX8_year_29 (by decide) ?_
      exact q_iret F FI dX8_year_31 (by omega) ⟨by unfold S_year; rw [if_neg (fun h => absurd h.2.1 (by omega))], q_kp_rf, xw⟩
    · refine q_iload_n F dX8_year_15 2 rfl ?_
      refine q_bipush F dX8_year_16 (by decide) ?_
      refine q_icmp_gt F 29 dX8_year_18 (by decide) (by omega) (fun c18 => ?_) (fun c18 => ?_)
      · refine q_bipush F dX8_year_29 (by decide) ?_
        exact q_iret F FI dX8_year_31 (by omega) ⟨by unfold S_year; rw [if_neg (fun h => absurd h.2.1 (by omega))], q_kp_rf, xw⟩
      · refine q_iload_n F dX8_year_21 3 rfl ?_
        refine q_iconst F dX8_year_22 ?_
        refine q_callSP (n := 2) F (c_X8_isWithin G hI M w 2 (by omega)) rfl gX8_year_X8_isWithin ⟨by decide, by decide, by decide +kernel⟩ rfl ⟨rfl, rfl, Nat.le_of_ble_eq_true rfl, Nat.le_of_ble_eq_true rfl⟩ rfl (Nat.le_of_ble_eq_true rfl) dX8_year_23 (fun h23 => ?_)
        refine q_ifb_ne F 32 dX8_year_26 (by decide) (fun c26 => ?_) (fun c26 => ?_)
        · have d3 := q_dt c26
          refine q_aload_n F dX8_year_32 0 rfl ?_
          refine q_getr (T := TX8) (ref := "LeastHungry") F huX8 rfl hx.1 4 (by decide) (by decide +kernel) rfl rfl dX8_year_33 ?_
          refine q_aload_n F dX8_year_36 0 rfl ?_
          refine q_getr (T := TX8) (ref := "LeastHungry") F huX8 rfl hx.1 0 (by decide) (by decide +kernel) rfl rfl dX8_year_37 ?_
          refine q_getr (T := TX0) (ref := "LeastHungry$Book") F huX0 rfl hx.2.1.1 0 (by decide) (by decide +kernel) rfl rfl dX8_year_40 ?_
          refine q_iload_n F dX8_year_43 1 rfl ?_
          refine q_iload_n F dX8_year_44 2 rfl ?_
          refine q_callVV (n := 3) (T := TX6) F (c_X6_draw G hI M 30 hx.2.2.2.2.2.1 (1 + 1) hx.2.1.2.1 seed m (by assumption) (by omega) (by omega)) rfl rfl hx.2.2.2.2.2.1.1 gX8_year_X6_draw rfl ⟨by decide, by decide, by decide +kernel⟩ rfl ⟨rfl, rfl, Nat.le_of_ble_eq_true rfl, Nat.le_of_ble_eq_true rfl⟩ rfl (Nat.le_of_ble_eq_true rfl) dX8_year_45 (fun N45 p45 => ?_)
          have kp := q_pl_kp p45.1.1 xw
          have tb := p45.1.2.2.2
          have sm := p45.2
          have hth := p45.1.2.1.1
          have hv45 := p45.1.2.2.1
          refine q_iload_n F dX8_year_48 3 rfl ?_
          refine q_if_ne F 60 dX8_year_49 (by decide) (by omega) (fun c49 => ?_) (fun c49 => ?_)
          · refine q_iload_n F dX8_year_60 3 rfl ?_
            refine q_iconst F dX8_year_61 ?_
            refine q_icmp_ne F 75 dX8_year_62 (by decide) (by omega) (fun c62 => ?_) (fun c62 => ?_)
            · refine q_aload_n F dX8_year_75 0 rfl ?_
              refine q_getr (T := TX8) (ref := "LeastHungry") F huX8 rfl hx.1 4 (by decide) (by decide +kernel) rfl rfl dX8_year_76 ?_
              refine q_getr (T := TX6) (ref := "LeastHungry$Trial") F huX6 rfl hx.2.2.2.2.2.1.1 0 (by decide) (by decide +kernel) rfl rfl dX8_year_79 ?_
              refine q_aload_n F dX8_year_82 0 rfl ?_
              refine q_getr (T := TX8) (ref := "LeastHungry") F huX8 rfl hx.1 4 (by decide) (by decide +kernel) rfl rfl dX8_year_83 ?_
              refine q_getr (T := TX6) (ref := "LeastHungry$Trial") F huX6 rfl hx.2.2.2.2.2.1.1 0 (by decide) (by decide +kernel) rfl rfl dX8_year_86 ?_
              refine q_geti (T := TX1) (ref := "LeastHungry$Company") F huX1 rfl hx.2.2.2.2.2.1.2.1.1 4 (by decide) (by decide +kernel) rfl 4 rfl rfl dX8_year_89 (fun h89 => ?_)
              refine q_iconst F dX8_year_92 ?_
              refine q_callVP (n := 2) (T := TX1) F (c_X1_hungerLeft G hI N45 (30 + 1) hx.2.2.2.2.2.1.2.1 _ 0 hv45 (by have := hv45.1; omega)) rfl rfl hx.2.2.2.2.2.1.2.1.1 gX8_year_X1_hungerLeft rfl ⟨by decide, by decide, by decide +kernel⟩ rfl ⟨rfl, rfl, Nat.le_of_ble_eq_true rfl, Nat.le_of_ble_eq_true rfl⟩ rfl (Nat.le_of_ble_eq_true rfl) dX8_year_93 (fun h93 => ?_)
              have hlR := q_s6_KK (f := fun x => if q_has (N45 (30 + 1) 4) x = true then q_left (N45 (30 + 1 + 1)) 0 x else 0) (K := 20) (fun x h0 h1 => by
                have := q_left_R (s := 0) hv45.2.2.1 h0 h1
                show 0 ≤ (if q_has _ x = true then _ else (0 : Int)) ∧ (if q_has _ x = true then _ else (0 : Int)) ≤ 20
                split <;> omega)
              exact q_iret F FI dX8_year_96 (by omega) ⟨by
      unfold S_year
      rw [if_pos ⟨d1, by omega, d3⟩, if_neg c49, if_neg c62, hth]
      refine q_s6_congr (fun x h0 h1 => ?_)
      by_cases hx : q_has (M (1 + 1) 4) x = true
      · rw [if_pos hx, if_pos hx, ← (sm.1 x hx).1]
        unfold q_left
        rw [if_neg (by simp [q_has])]
        rfl
      · rw [if_neg hx, if_neg hx], kp⟩
            · refine q_aload_n F dX8_year_65 0 rfl ?_
              refine q_getr (T := TX8) (ref := "LeastHungry") F huX8 rfl hx.1 4 (by decide) (by decide +kernel) rfl rfl dX8_year_66 ?_
              refine q_geti (T := TX6) (ref := "LeastHungry$Trial") F huX6 rfl hx.2.2.2.2.2.1.1 4 (by decide) (by decide +kernel) rfl 4 rfl rfl dX8_year_69 (fun h69 => ?_)
              refine q_goto F 96 dX8_year_72 (by decide) ?_
              exact q_iret F FI dX8_year_96 (by omega) ⟨by unfold S_year; rw [if_pos ⟨d1, by omega, d3⟩, if_neg c49, if_pos c62]; exact sm.2.2.1, kp⟩
          · refine q_aload_n F dX8_year_52 0 rfl ?_
            refine q_getr (T := TX8) (ref := "LeastHungry") F huX8 rfl hx.1 4 (by decide) (by decide +kernel) rfl rfl dX8_year_53 ?_
            refine q_callVP (n := 0) (T := TX6) F (c_X6_portionsOfAll G hI N45 30 hx.2.2.2.2.2.1 99 tb (by omega)) rfl rfl hx.2.2.2.2.2.1.1 gX8_year_X6_portionsOfAll rfl ⟨by decide, by decide, by decide +kernel⟩ rfl ⟨rfl, rfl, Nat.le_of_ble_eq_true rfl, Nat.le_of_ble_eq_true rfl⟩ rfl (Nat.le_of_ble_eq_true rfl) dX8_year_56 (fun h56 => ?_)
            have hsR := q_s6_KK (f := N45 (30 + 6)) (K := 99) (fun x h0 h1 => (tb.1 x h0 h1).1)
            exact q_iret F FI dX8_year_59 (by omega) ⟨by unfold S_year; rw [if_pos ⟨d1, by omega, d3⟩, if_pos c49]; exact q_s6_congr (fun x h0 h1 => (sm.2.1 x h0 h1).1), kp⟩
        · refine q_bipush F dX8_year_29 (by decide) ?_
          exact q_iret F FI dX8_year_31 (by omega) ⟨by unfold S_year; rw [if_neg (fun h => absurd h.2.2 (q_df c26))], q_kp_rf, xw⟩

set_option maxHeartbeats 4000000 in
set_option maxRecDepth 100000 in
theorem c_X8_told (G : q_G) (hI : q_inj G) (M : q_M) (hx : q_lh G) (hX : q_X M) (w : Int) (hwR : -2147483648 ≤ w ∧ w ≤ 2147483647) : q_CI G yX8_told wsX8_told ({ frames := 3, cells := 0, slots := 0, locals := 63 } : Room) [.ref (q_ad G 0), .int (q_I w)] M (fun z M' => z = S_told (M (1 + 1 + 2)) (M (1 + 6)) (M (1 + 1) 4) (M (1 + 1) 5) (M 1 4) (M 28 1) w ∧ M' = M) := by
  refine q_CI.of hI (by decide) rfl RX8 rfl [(0, .ref (q_ad G 0)), (1, .int (q_I w))] rfl (Nat.le_of_ble_eq_true rfl) (fun E F FI => ?_)
  have huX0 : ∀ w ∈ wsX00, w ∈ wsX8_told := by decide +kernel
  have huX1 : ∀ w ∈ wsX10, w ∈ wsX8_told := by decide +kernel
  have huX3 : ∀ w ∈ wsX30, w ∈ wsX8_told := by decide +kernel
  have huX8 : ∀ w ∈ wsX80, w ∈ wsX8_told := by decide +kernel
  refine q_MRof (fun hM => ?_)
  obtain ⟨xv, xf, xs, xp, xw, xi1, xi2⟩ := id hX
  have xv4 := xv.1
  have xv5 := xv.2.1
  refine q_iload_n F dX8_told_0 1 rfl ?_
  rcases (show w = 0 ∨ w = 1 ∨ w = 2 ∨ w = 3 ∨ w = 4 ∨ (w < 0 ∨ 4 < w) by omega) with c1 | c1 | c1 | c1 | c1 | c1
  · refine q_tableIn F 0 36 dX8_told_1 c1 (by decide) rfl (by decide) ?_
    refine q_aload_n F dX8_told_36 0 rfl ?_
    refine q_getr (T := TX8) (ref := "LeastHungry") F huX8 rfl hx.1 3 (by decide) (by decide +kernel) rfl rfl dX8_told_37 ?_
    refine q_geti (T := TX3) (ref := "LeastHungry$Pad") F huX3 rfl hx.2.2.2.2.1.1 1 (by decide) (by decide +kernel) rfl 1 rfl rfl dX8_told_40 (fun h40 => ?_)
    exact q_iret F FI dX8_told_43 (by omega) ⟨by unfold S_told; rw [if_pos c1], rfl⟩
  · refine q_tableIn F 1 44 dX8_told_1 c1 (by decide) rfl (by decide) ?_
    refine q_aload_n F dX8_told_44 0 rfl ?_
    refine q_getr (T := TX8) (ref := "LeastHungry") F huX8 rfl hx.1 0 (by decide) (by decide +kernel) rfl rfl dX8_told_45 ?_
    refine q_getr (T := TX0) (ref := "LeastHungry$Book") F huX0 rfl hx.2.1.1 0 (by decide) (by decide +kernel) rfl rfl dX8_told_48 ?_
    refine q_geti (T := TX1) (ref := "LeastHungry$Company") F huX1 rfl hx.2.1.2.1.1 4 (by decide) (by decide +kernel) rfl 4 rfl rfl dX8_told_51 (fun h51 => ?_)
    exact q_iret F FI dX8_told_54 (by omega) ⟨by unfold S_told; rw [if_neg (by omega), if_pos c1], rfl⟩
  · refine q_tableIn F 2 55 dX8_told_1 c1 (by decide) rfl (by decide) ?_
    refine q_aload_n F dX8_told_55 0 rfl ?_
    refine q_getr (T := TX8) (ref := "LeastHungry") F huX8 rfl hx.1 0 (by decide) (by decide +kernel) rfl rfl dX8_told_56 ?_
    refine q_getr (T := TX0) (ref := "LeastHungry$Book") F huX0 rfl hx.2.1.1 0 (by decide) (by decide +kernel) rfl rfl dX8_told_59 ?_
    refine q_geti (T := TX1) (ref := "LeastHungry$Company") F huX1 rfl hx.2.1.2.1.1 5 (by decide) (by decide +kernel) rfl 5 rfl rfl dX8_told_62 (fun h62 => ?_)
    exact q_iret F FI dX8_told_65 (by omega) ⟨by unfold S_told; rw [if_neg (by omega), if_neg (by omega), if_pos c1], rfl⟩
  · refine q_tableIn F 3 66 dX8_told_1 c1 (by decide) rfl (by decide) ?_
    refine q_aload_n F dX8_told_66 0 rfl ?_
    refine q_getr (T := TX8) (ref := "LeastHungry") F huX8 rfl hx.1 0 (by decide) (by decide +kernel) rfl rfl dX8_told_67 ?_
    refine q_geti (T := TX0) (ref := "LeastHungry$Book") F huX0 rfl hx.2.1.1 4 (by decide) (by decide +kernel) rfl 4 rfl rfl dX8_told_70 (fun h70 => ?_)
    exact q_iret F FI dX8_told_73 (by omega) ⟨by unfold S_told; rw [if_neg (by omega), if_neg (by omega), if_neg (by omega), if_pos c1], rfl⟩
  · refine q_tableIn F 4 74 dX8_told_1 c1 (by decide) rfl (by decide) ?_
    refine q_aload_n F dX8_told_74 0 rfl ?_
    refine q_getr (T := TX8) (ref := "LeastHungry") F huX8 rfl hx.1 0 (by decide) (by decide +kernel) rfl rfl dX8_told_75 ?_
    refine q_callVP (n := 0) (T := TX0) F (c_X0_countFeuds G hI M 1 hx.2.1 (by assumption)) rfl rfl hx.2.1.1 gX8_told_X0_countFeuds rfl ⟨by decide, by decide, by decide +kernel⟩ rfl ⟨rfl, rfl, Nat.le_of_ble_eq_true rfl, Nat.le_of_ble_eq_true rfl⟩ rfl (Nat.le_of_ble_eq_true rfl) dX8_told_78 (fun h78 => ?_)
    exact q_iret F FI dX8_told_81 h78 ⟨by unfold S_told; rw [if_neg (by omega), if_neg (by omega), if_neg (by omega), if_neg (by omega), if_pos c1]; rfl, rfl⟩
  · refine q_tableOut F 82 dX8_told_1 (by omega) (by decide) ?_
    refine q_aload_n F dX8_told_82 0 rfl ?_
    refine q_iload_n F dX8_told_83 1 rfl ?_
    refine q_callVP (n := 1) (T := TX8) F (c_X8_toldFeint G hI M hx (by assumption) w (by omega)) rfl rfl hx.1 gX8_told_X8_toldFeint rfl ⟨by decide, by decide, by decide +kernel⟩ rfl ⟨rfl, rfl, Nat.le_of_ble_eq_true rfl, Nat.le_of_ble_eq_true rfl⟩ rfl (Nat.le_of_ble_eq_true rfl) dX8_told_84 (fun h84 => ?_)
    exact q_iret F FI dX8_told_87 h84 ⟨by unfold S_told; rw [if_neg (show ¬ w = 0 by omega), if_neg (show ¬ w = 1 by omega), if_neg (show ¬ w = 2 by omega), if_neg (show ¬ w = 3 by omega), if_neg (show ¬ w = 4 by omega)], rfl⟩

set_option maxHeartbeats 4000000 in
set_option maxRecDepth 100000 in
theorem c_X8_image (G : q_G) (hI : q_inj G) (M : q_M) (hx : q_lh G) (hX : q_X M) (n : Int) (hnR : -2147483648 ≤ n ∧ n ≤ 2147483647) : q_CI G yX8_image wsX8_image ({ frames := 4, cells := 0, slots := 0, locals := 89 } : Room) [.ref (q_ad G 0), .int (q_I n)] M (fun z M' => (¬ (0 ≤ n ∧ n ≤ 1) → z = -2 ∧ M' = M) ∧ (n = 0 → z = 1 ∧ q_ig M M' 10 1 1) ∧ (n = 1 → z = 1 ∧ q_ig M M' 19 1 1)) := by
  refine q_CI.of hI (by decide) rfl RX8 rfl [(0, .ref (q_ad G 0)), (1, .int (q_I n))] rfl (Nat.le_of_ble_eq_true rfl) (fun E F FI => ?_)
  have huX0 : ∀ w ∈ wsX00, w ∈ wsX8_image := by decide +kernel
  have huX8 : ∀ w ∈ wsX80, w ∈ wsX8_image := by decide +kernel
  refine q_MRof (fun hM => ?_)
  obtain ⟨xv, xf, xs, xp, xw, xi1, xi2⟩ := id hX
  have xv4 := xv.1
  have xv5 := xv.2.1
  refine q_iload_n F dX8_image_0 1 rfl ?_
  refine q_iconst F dX8_image_1 ?_
  refine q_callSP (n := 2) F (c_X8_isWithin G hI M n 1 (by omega)) rfl gX8_image_X8_isWithin ⟨by decide, by decide, by decide +kernel⟩ rfl ⟨rfl, rfl, Nat.le_of_ble_eq_true rfl, Nat.le_of_ble_eq_true rfl⟩ rfl (Nat.le_of_ble_eq_true rfl) dX8_image_2 (fun h2 => ?_)
  refine q_ifb_ne F 11 dX8_image_5 (by decide) (fun c5 => ?_) (fun c5 => ?_)
  · have d1 := q_dt c5
    refine q_iload_n F dX8_image_11 1 rfl ?_
    refine q_if_ne F 22 dX8_image_12 (by decide) (by omega) (fun c12 => ?_) (fun c12 => ?_)
    · refine q_aload_n F dX8_image_22 0 rfl ?_
      refine q_getr (T := TX8) (ref := "LeastHungry") F huX8 rfl hx.1 2 (by decide) (by decide +kernel) rfl rfl dX8_image_23 ?_
      refine q_astore_n F dX8_image_26 [(2, .ref (q_ad G 19)), (0, .ref (q_ad G 0)), (1, .int (q_I n))] (Nat.le_of_ble_eq_true rfl) rfl ?_
      refine q_aload_n F dX8_image_27 0 rfl ?_
      refine q_aload_n F dX8_image_28 1 rfl ?_
      refine q_getr (T := TX8) (ref := "LeastHungry") F huX8 rfl hx.1 0 (by decide) (by decide +kernel) rfl rfl dX8_image_29 ?_
      refine q_callVV (n := 1) (T := TX0) F (c_X0_become G hI M 19 hx.2.2.2.1 1 hx.2.1 (by omega)) rfl rfl hx.2.2.2.1.1 gX8_image_X0_become rfl ⟨by decide, by decide, by decide +kernel⟩ rfl ⟨rfl, rfl, Nat.le_of_ble_eq_true rfl, Nat.le_of_ble_eq_true rfl⟩ rfl (Nat.le_of_ble_eq_true rfl) dX8_image_32 (fun N32 p32 => ?_)
      refine q_aload_n F dX8_image_35 0 rfl ?_
      refine q_iconst F dX8_image_36 ?_
      refine q_putz (T := TX0) (ref := "LeastHungry$Book") F huX0 rfl hx.2.2.2.1.1 5 (by decide) (by decide +kernel) rfl 5 rfl tyX0 tyX0_ok nmX0 rfl rfl (by decide +kernel) (by omega) dX8_image_37 (fun N37 eN37 => ?_)
      refine q_iconst F dX8_image_40 ?_
      exact q_iret F FI dX8_image_41 (by omega) ⟨fun h => absurd d1 h, fun h => absurd h (by omega), fun _ => ⟨rfl, q_ig_up p32 eN37⟩⟩
    · refine q_aload_n F dX8_image_15 0 rfl ?_
      refine q_getr (T := TX8) (ref := "LeastHungry") F huX8 rfl hx.1 1 (by decide) (by decide +kernel) rfl rfl dX8_image_16 ?_
      refine q_goto F 26 dX8_image_19 (by decide) ?_
      refine q_astore_n F dX8_image_26 [(2, .ref (q_ad G 10)), (0, .ref (q_ad G 0)), (1, .int (q_I n))] (Nat.le_of_ble_eq_true rfl) rfl ?_
      refine q_aload_n F dX8_image_27 0 rfl ?_
      refine q_aload_n F dX8_image_28 1 rfl ?_
      refine q_getr (T := TX8) (ref := "LeastHungry") F huX8 rfl hx.1 0 (by decide) (by decide +kernel) rfl rfl dX8_image_29 ?_
      refine q_callVV (n := 1) (T := TX0) F (c_X0_become G hI M 10 hx.2.2.1 1 hx.2.1 (by omega)) rfl rfl hx.2.2.1.1 gX8_image_X0_become rfl ⟨by decide, by decide, by decide +kernel⟩ rfl ⟨rfl, rfl, Nat.le_of_ble_eq_true rfl, Nat.le_of_ble_eq_true rfl⟩ rfl (Nat.le_of_ble_eq_true rfl) dX8_image_32 (fun N32 p32 => ?_)
      refine q_aload_n F dX8_image_35 0 rfl ?_
      refine q_iconst F dX8_image_36 ?_
      refine q_putz (T := TX0) (ref := "LeastHungry$Book") F huX0 rfl hx.2.2.1.1 5 (by decide) (by decide +kernel) rfl 5 rfl tyX0 tyX0_ok nmX0 rfl rfl (by decide +kernel) (by omega) dX8_image_37 (fun N37 eN37 => ?_)
      refine q_iconst F dX8_image_40 ?_
      exact q_iret F FI dX8_image_41 (by omega) ⟨fun h => absurd d1 h, fun _ => ⟨rfl, q_ig_up p32 eN37⟩, fun h => absurd h (by omega)⟩
  · refine q_bipush F dX8_image_8 (by decide) ?_
    exact q_iret F FI dX8_image_10 (by omega) ⟨fun _ => ⟨rfl, rfl⟩, fun h => absurd (show 0 ≤ n ∧ n ≤ 1 by omega) (q_df c5), fun h => absurd (show 0 ≤ n ∧ n ≤ 1 by omega) (q_df c5)⟩

set_option maxHeartbeats 4000000 in
set_option maxRecDepth 100000 in
theorem c_X8_restore (G : q_G) (hI : q_inj G) (M : q_M) (hx : q_lh G) (hX : q_X M) (n : Int) (hnR : -2147483648 ≤ n ∧ n ≤ 2147483647) : q_CI G yX8_restore wsX8_restore ({ frames := 4, cells := 0, slots := 0, locals := 89 } : Room) [.ref (q_ad G 0), .int (q_I n)] M (fun z M' => (¬ (0 ≤ n ∧ n ≤ 1) → z = -2 ∧ M' = M) ∧ (n = 0 → (M 10 5 = 0 → z = -3 ∧ M' = M) ∧ (¬ M 10 5 = 0 → z = 1 ∧ q_ig M M' 1 10 (M 1 5))) ∧ (n = 1 → (M 19 5 = 0 → z = -3 ∧ M' = M) ∧ (¬ M 19 5 = 0 → z = 1 ∧ q_ig M M' 1 19 (M 1 5)))) := by
  refine q_CI.of hI (by decide) rfl RX8 rfl [(0, .ref (q_ad G 0)), (1, .int (q_I n))] rfl (Nat.le_of_ble_eq_true rfl) (fun E F FI => ?_)
  have huX0 : ∀ w ∈ wsX00, w ∈ wsX8_restore := by decide +kernel
  have huX8 : ∀ w ∈ wsX80, w ∈ wsX8_restore := by decide +kernel
  refine q_MRof (fun hM => ?_)
  obtain ⟨xv, xf, xs, xp, xw, xi1, xi2⟩ := id hX
  have xv4 := xv.1
  have xv5 := xv.2.1
  refine q_iload_n F dX8_restore_0 1 rfl ?_
  refine q_iconst F dX8_restore_1 ?_
  refine q_callSP (n := 2) F (c_X8_isWithin G hI M n 1 (by omega)) rfl gX8_restore_X8_isWithin ⟨by decide, by decide, by decide +kernel⟩ rfl ⟨rfl, rfl, Nat.le_of_ble_eq_true rfl, Nat.le_of_ble_eq_true rfl⟩ rfl (Nat.le_of_ble_eq_true rfl) dX8_restore_2 (fun h2 => ?_)
  refine q_ifb_ne F 11 dX8_restore_5 (by decide) (fun c5 => ?_) (fun c5 => ?_)
  · have d1 := q_dt c5
    refine q_iload_n F dX8_restore_11 1 rfl ?_
    refine q_if_ne F 22 dX8_restore_12 (by decide) (by omega) (fun c12 => ?_) (fun c12 => ?_)
    · refine q_aload_n F dX8_restore_22 0 rfl ?_
      refine q_getr (T := TX8) (ref := "LeastHungry") F huX8 rfl hx.1 2 (by decide) (by decide +kernel) rfl rfl dX8_restore_23 ?_
      refine q_astore_n F dX8_restore_26 [(2, .ref (q_ad G 19)), (0, .ref (q_ad G 0)), (1, .int (q_I n))] (Nat.le_of_ble_eq_true rfl) rfl ?_
      refine q_aload_n F dX8_restore_27 0 rfl ?_
      refine q_geti (T := TX0) (ref := "LeastHungry$Book") F huX0 rfl hx.2.2.2.1.1 5 (by decide) (by decide +kernel) rfl 5 rfl rfl dX8_restore_28 (fun h28 => ?_)
      refine q_if_ne F 37 dX8_restore_31 (by decide) (by omega) (fun c31 => ?_) (fun c31 => ?_)
      · refine q_aload_n F dX8_restore_37 1 rfl ?_
        refine q_getr (T := TX8) (ref := "LeastHungry") F huX8 rfl hx.1 0 (by decide) (by decide +kernel) rfl rfl dX8_restore_38 ?_
        refine q_aload_n F dX8_restore_41 0 rfl ?_
        refine q_callVV (n := 1) (T := TX0) F (c_X0_become G hI M 1 hx.2.1 19 hx.2.2.2.1 (by omega)) rfl rfl hx.2.1.1 gX8_restore_X0_become rfl ⟨by decide, by decide, by decide +kernel⟩ rfl ⟨rfl, rfl, Nat.le_of_ble_eq_true rfl, Nat.le_of_ble_eq_true rfl⟩ rfl (Nat.le_of_ble_eq_true rfl) dX8_restore_42 (fun N42 p42 => ?_)
        refine q_iconst F dX8_restore_45 ?_
        exact q_iret F FI dX8_restore_46 (by omega) ⟨fun h => absurd d1 h, fun h0 => absurd h0 (by omega), fun _ => ⟨fun h => absurd h c31, fun _ => ⟨rfl, p42⟩⟩⟩
      · refine q_bipush F dX8_restore_34 (by decide) ?_
        exact q_iret F FI dX8_restore_36 (by omega) ⟨fun h => absurd d1 h, fun h0 => absurd h0 (by omega), fun _ => ⟨fun _ => ⟨rfl, rfl⟩, fun h => absurd c31 h⟩⟩
    · refine q_aload_n F dX8_restore_15 0 rfl ?_
      refine q_getr (T := TX8) (ref := "LeastHungry") F huX8 rfl hx.1 1 (by decide) (by decide +kernel) rfl rfl dX8_restore_16 ?_
      refine q_goto F 26 dX8_restore_19 (by decide) ?_
      refine q_astore_n F dX8_restore_26 [(2, .ref (q_ad G 10)), (0, .ref (q_ad G 0)), (1, .int (q_I n))] (Nat.le_of_ble_eq_true rfl) rfl ?_
      refine q_aload_n F dX8_restore_27 0 rfl ?_
      refine q_geti (T := TX0) (ref := "LeastHungry$Book") F huX0 rfl hx.2.2.1.1 5 (by decide) (by decide +kernel) rfl 5 rfl rfl dX8_restore_28 (fun h28 => ?_)
      refine q_if_ne F 37 dX8_restore_31 (by decide) (by omega) (fun c31 => ?_) (fun c31 => ?_)
      · refine q_aload_n F dX8_restore_37 1 rfl ?_
        refine q_getr (T := TX8) (ref := "LeastHungry") F huX8 rfl hx.1 0 (by decide) (by decide +kernel) rfl rfl dX8_restore_38 ?_
        refine q_aload_n F dX8_restore_41 0 rfl ?_
        refine q_callVV (n := 1) (T := TX0) F (c_X0_become G hI M 1 hx.2.1 10 hx.2.2.1 (by omega)) rfl rfl hx.2.1.1 gX8_restore_X0_become rfl ⟨by decide, by decide, by decide +kernel⟩ rfl ⟨rfl, rfl, Nat.le_of_ble_eq_true rfl, Nat.le_of_ble_eq_true rfl⟩ rfl (Nat.le_of_ble_eq_true rfl) dX8_restore_42 (fun N42 p42 => ?_)
        refine q_iconst F dX8_restore_45 ?_
        exact q_iret F FI dX8_restore_46 (by omega) ⟨fun h => absurd d1 h, fun _ => ⟨fun h => absurd h c31, fun _ => ⟨rfl, p42⟩⟩, fun h0 => absurd h0 (by omega)⟩
      · refine q_bipush F dX8_restore_34 (by decide) ?_
        exact q_iret F FI dX8_restore_36 (by omega) ⟨fun h => absurd d1 h, fun _ => ⟨fun _ => ⟨rfl, rfl⟩, fun h => absurd c31 h⟩, fun h0 => absurd h0 (by omega)⟩
  · refine q_bipush F dX8_restore_8 (by decide) ?_
    exact q_iret F FI dX8_restore_10 (by omega) ⟨fun _ => ⟨rfl, rfl⟩, fun h => absurd (show 0 ≤ n ∧ n ≤ 1 by omega) (q_df c5), fun h => absurd (show 0 ≤ n ∧ n ≤ 1 by omega) (q_df c5)⟩
