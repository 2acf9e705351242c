/-! the law's loop -/
set_option maxHeartbeats 4000000 in
set_option maxRecDepth 100000 in
theorem law_loop {GX GZ : q_G} {E : q_E} {b0 Ln : Nat} {xs : Nat → Int32} (F : q_LF GX GZ E b0 Ln xs) (hg : GZ.1 = GX.1 ∧ GZ.2.1 = GX.2.1 ∧ GZ.2.2.1 = GX.2.2.1 ∧ GZ.2.2.2.1 = GX.2.2.2.1) (hIX : q_inj GX) (hIZ : q_inj GZ) (hx : q_lh GX) (hm : q_mo GZ) (hL : Ln ≤ 2560) : ∀ (k : Nat) (i : Int) (MX MZ : q_M), 0 ≤ i → i ≤ Ln → (Ln - i).toNat = k → q_rel MX MZ → q_LY GX GZ E MX MZ [(3, .int (q_I i)), (0, .ref b0), (1, .ref (q_ad GX 0)), (2, .ref (q_ad GZ 0))] 18 [] := by
  intro k
  induction k using Nat.strongRecOn with
  | _ k ih =>
    intro i MX MZ i0 i1 hk r
    refine l_iload_n F dL_law_18 0 rfl ?_
    refine l_aload_n F dL_law_19 1 rfl ?_
    refine l_slen F dL_law_20 ?_
    refine l_iconst F dL_law_21 ?_
    refine l_isub F dL_law_22 ?_
    refine l_icmp_gt F 1064 dL_law_23 (by decide) (by omega) (fun c => ?_) (fun c => ?_)
    · refine l_iconst F dL_law_1064 ?_
      exact l_ret F dL_law_1065
    · have kk : ∀ MX' MZ' : q_M, q_rel MX' MZ' → q_LY GX GZ E MX' MZ' [(3, .int (q_I i)), (0, .ref b0), (1, .ref (q_ad GX 0)), (2, .ref (q_ad GZ 0))] 1058 [] := by
        intro MX' MZ' r'
        refine l_iinc F dL_law_1058 (v := i + 5) 0 rfl rfl [(3, .int (q_I (i + 5))), (0, .ref b0), (1, .ref (q_ad GX 0)), (2, .ref (q_ad GZ 0))] (by decide) rfl ?_
        refine l_goto F 18 dL_law_1061 (by decide) ?_
        exact ih (Ln - (i + 5)).toNat (by omega) (i + 5) MX' MZ' (by omega) (by omega) rfl r'
      refine l_aload_n F dL_law_26 1 rfl ?_
      refine l_iload_n F dL_law_27 0 rfl ?_
      refine l_sld F (by omega) hL dL_law_28 ?_
      refine l_bipush F dL_law_29 (by decide) ?_
      refine l_iand F dL_law_31 (fun z ez hz => ?_)
      rcases (show z = 0 ∨ z = 1 ∨ z = 2 ∨ z = 3 ∨ z = 4 ∨ z = 5 ∨ z = 6 ∨ z = 7 ∨ z = 8 ∨ z = 9 ∨ z = 10 ∨ z = 11 ∨ z = 12 ∨ z = 13 ∨ z = 14 ∨ z = 15 ∨ z = 16 ∨ z = 17 ∨ z = 18 ∨ z = 19 ∨ z = 20 ∨ z = 21 ∨ z = 22 ∨ z = 23 ∨ z = 24 ∨ z = 25 ∨ z = 26 ∨ z = 27 ∨ z = 28 ∨ (z < 0 ∨ 28 < z) by omega) with cz | cz | cz | cz | cz | cz | cz | cz | cz | cz | cz | cz | cz | cz | cz | cz | cz | cz | cz | cz | cz | cz | cz | cz | cz | cz | cz | cz | cz | cz
      · exact l_tableIn F 0 164 dL_law_32 cz (by decide) rfl (by decide) (law_c0 F hg hIX hIZ hx hm hL i0 (by omega) r kk)
      · exact l_tableIn F 1 217 dL_law_32 cz (by decide) rfl (by decide) (law_c1 F hg hIX hIZ hx hm hL i0 (by omega) r kk)
      · exact l_tableIn F 2 240 dL_law_32 cz (by decide) rfl (by decide) (law_c2 F hg hIX hIZ hx hm hL i0 (by omega) r kk)
      · exact l_tableIn F 3 263 dL_law_32 cz (by decide) rfl (by decide) (law_c3 F hg hIX hIZ hx hm hL i0 (by omega) r kk)
      · exact l_tableIn F 4 322 dL_law_32 cz (by decide) rfl (by decide) (law_c4 F hg hIX hIZ hx hm hL i0 (by omega) r kk)
      · exact l_tableIn F 5 345 dL_law_32 cz (by decide) rfl (by decide) (law_c5 F hg hIX hIZ hx hm hL i0 (by omega) r kk)
      · exact l_tableIn F 6 358 dL_law_32 cz (by decide) rfl (by decide) (law_c6 F hg hIX hIZ hx hm hL i0 (by omega) r kk)
      · exact l_tableIn F 7 371 dL_law_32 cz (by decide) rfl (by decide) (law_c7 F hg hIX hIZ hx hm hL i0 (by omega) r kk)
      · exact l_tableIn F 8 394 dL_law_32 cz (by decide) rfl (by decide) (law_c8 F hg hIX hIZ hx hm hL i0 (by omega) r kk)
      · exact l_tableIn F 9 407 dL_law_32 cz (by decide) rfl (by decide) (law_c9 F hg hIX hIZ hx hm hL i0 (by omega) r kk)
      · exact l_tableIn F 10 440 dL_law_32 cz (by decide) rfl (by decide) (law_c10 F hg hIX hIZ hx hm hL i0 (by omega) r kk)
      · exact l_tableIn F 11 473 dL_law_32 cz (by decide) rfl (by decide) (law_c11 F hg hIX hIZ hx hm hL i0 (by omega) r kk)
      · exact l_tableIn F 12 496 dL_law_32 cz (by decide) rfl (by decide) (law_c12 F hg hIX hIZ hx hm hL i0 (by omega) r kk)
      · exact l_tableIn F 13 529 dL_law_32 cz (by decide) rfl (by decide) (law_c13 F hg hIX hIZ hx hm hL i0 (by omega) r kk)
      · exact l_tableIn F 14 562 dL_law_32 cz (by decide) rfl (by decide) (law_c14 F hg hIX hIZ hx hm hL i0 (by omega) r kk)
      · exact l_tableIn F 15 605 dL_law_32 cz (by decide) rfl (by decide) (law_c15 F hg hIX hIZ hx hm hL i0 (by omega) r kk)
      · exact l_tableIn F 16 658 dL_law_32 cz (by decide) rfl (by decide) (law_c16 F hg hIX hIZ hx hm hL i0 (by omega) r kk)
      · exact l_tableIn F 17 711 dL_law_32 cz (by decide) rfl (by decide) (law_c17 F hg hIX hIZ hx hm hL i0 (by omega) r kk)
      · exact l_tableIn F 18 744 dL_law_32 cz (by decide) rfl (by decide) (law_c18 F hg hIX hIZ hx hm hL i0 (by omega) r kk)
      · exact l_tableIn F 19 757 dL_law_32 cz (by decide) rfl (by decide) (law_c19 F hg hIX hIZ hx hm hL i0 (by omega) r kk)
      · exact l_tableIn F 20 790 dL_law_32 cz (by decide) rfl (by decide) (law_c20 F hg hIX hIZ hx hm hL i0 (by omega) r kk)
      · exact l_tableIn F 21 813 dL_law_32 cz (by decide) rfl (by decide) (law_c21 F hg hIX hIZ hx hm hL i0 (by omega) r kk)
      · exact l_tableIn F 22 846 dL_law_32 cz (by decide) rfl (by decide) (law_c22 F hg hIX hIZ hx hm hL i0 (by omega) r kk)
      · exact l_tableIn F 23 879 dL_law_32 cz (by decide) rfl (by decide) (law_c23 F hg hIX hIZ hx hm hL i0 (by omega) r kk)
      · exact l_tableIn F 24 933 dL_law_32 cz (by decide) rfl (by decide) (law_c24 F hg hIX hIZ hx hm hL i0 (by omega) r kk)
      · exact l_tableIn F 25 946 dL_law_32 cz (by decide) rfl (by decide) (law_c25 F hg hIX hIZ hx hm hL i0 (by omega) r kk)
      · exact l_tableIn F 26 989 dL_law_32 cz (by decide) rfl (by decide) (law_c26 F hg hIX hIZ hx hm hL i0 (by omega) r kk)
      · exact l_tableIn F 27 1012 dL_law_32 cz (by decide) rfl (by decide) (law_c27 F hg hIX hIZ hx hm hL i0 (by omega) r kk)
      · exact l_tableIn F 28 1035 dL_law_32 cz (by decide) rfl (by decide) (law_c28 F hg hIX hIZ hx hm hL i0 (by omega) r kk)
      · exact l_tableOut F 1058 dL_law_32 ⟨hz, cz⟩ (by decide) (kk _ _ r)
