set_option maxHeartbeats 4000000 in
set_option maxRecDepth 100000 in
theorem c_X9_year (G : q_G) (hI : q_inj G) (M : q_M) (hm : q_mo G) (seed : Int) (m : Int) (w : Int) (hseedR : -2147483648 ≤ seed ∧ seed ≤ 2147483647) (hmR : -2147483648 ≤ m ∧ m ≤ 2147483647) (hwR : -2147483648 ≤ w ∧ w ≤ 2147483647) (hZ : q_Z M) : q_CI G yX9_year wsX9_year ({ frames := 4, cells := 0, slots := 0, locals := 95 } : Room) [.ref (q_ad G 0), .int (q_I seed), .int (q_I m), .int (q_I w)] M (fun z M' => z = S_year (M 1) (M 2) (M 3) (M 0 0) (M 0 4) seed m w ∧ q_kz M M') := by
  refine q_CI.of hI (by decide) rfl RX9 rfl [(0, .ref (q_ad G 0)), (1, .int (q_I seed)), (2, .int (q_I m)), (3, .int (q_I w))] rfl (Nat.le_of_ble_eq_true rfl) (fun E F FI => ?_)
  have huX9 : ∀ w ∈ wsX90, w ∈ wsX9_year := by decide +kernel
  refine q_MRof (fun hM => ?_)
  obtain ⟨⟨xt, xk⟩, ⟨xh, xf, xa⟩, xF, xs, xp⟩ := id hZ
  have hz := hZ.1
  refine q_iload_n F dX9_year_0 1 rfl ?_
  refine q_iconst F dX9_year_1 ?_
  refine q_sipush F dX9_year_2 (by decide) ?_
  refine q_callSP (n := 3) F (c_X9_in G hI M seed 0 9999 (by omega)) rfl gX9_year_X9_in ⟨by decide, by decide, by decide +kernel⟩ rfl ⟨rfl, rfl, Nat.le_of_ble_eq_true rfl, Nat.le_of_ble_eq_true rfl⟩ rfl (Nat.le_of_ble_eq_true rfl) dX9_year_5 (fun h5 => ?_)
  refine q_ifb_eq F 30 dX9_year_8 (by decide) (fun c8 => ?_) (fun c8 => ?_)
  · refine q_bipush F dX9_year_30 (by decide) ?_
    exact q_iret F FI dX9_year_32 (by omega) ⟨by unfold S_year; rw [if_neg (fun h => absurd h.1 (q_df c8))], q_kz_rf⟩
  · refine q_iload_n F dX9_year_11 2 rfl ?_
    refine q_iconst F dX9_year_12 ?_
    refine q_bipush F dX9_year_13 (by decide) ?_
    refine q_callSP (n := 3) F (c_X9_in G hI M m 1 99 (by omega)) rfl gX9_year_X9_in ⟨by decide, by decide, by decide +kernel⟩ rfl ⟨rfl, rfl, Nat.le_of_ble_eq_true rfl, Nat.le_of_ble_eq_true rfl⟩ rfl (Nat.le_of_ble_eq_true rfl) dX9_year_15 (fun h15 => ?_)
    refine q_ifb_eq F 30 dX9_year_18 (by decide) (fun c18 => ?_) (fun c18 => ?_)
    · refine q_bipush F dX9_year_30 (by decide) ?_
      exact q_iret F FI dX9_year_32 (by omega) ⟨by unfold S_year; rw [if_neg (fun h => absurd h.2.1 (q_df c18))], q_kz_rf⟩
    · refine q_iload_n F dX9_year_21 3 rfl ?_
      refine q_iconst F dX9_year_22 ?_
      refine q_iconst F dX9_year_23 ?_
      refine q_callSP (n := 3) F (c_X9_in G hI M w 0 2 (by omega)) rfl gX9_year_X9_in ⟨by decide, by decide, by decide +kernel⟩ rfl ⟨rfl, rfl, Nat.le_of_ble_eq_true rfl, Nat.le_of_ble_eq_true rfl⟩ rfl (Nat.le_of_ble_eq_true rfl) dX9_year_24 (fun h24 => ?_)
      refine q_ifb_ne F 33 dX9_year_27 (by decide) (fun c27 => ?_) (fun c27 => ?_)
      · have d1 := q_dt c8
        have d2 := q_dt c18
        have d3 := q_dt c27
        refine q_aload_n F dX9_year_33 0 rfl ?_
        refine q_callVV (n := 0) (T := TX9) F (c_X9_asNow G hI M hm) rfl rfl hm.1 gX9_year_X9_asNow rfl ⟨by decide, by decide, by decide +kernel⟩ rfl ⟨rfl, rfl, Nat.le_of_ble_eq_true rfl, Nat.le_of_ble_eq_true rfl⟩ rfl (Nat.le_of_ble_eq_true rfl) dX9_year_34 (fun N34 p34 => ?_)
        have zv34 := q_an_zv p34 hZ
        refine q_iload_n F dX9_year_37 1 rfl ?_
        refine q_istore F dX9_year_38 [(4, .int (q_I seed)), (0, .ref (q_ad G 0)), (1, .int (q_I seed)), (2, .int (q_I m)), (3, .int (q_I w))] (Nat.le_of_ble_eq_true rfl) rfl ?_
        refine q_iconst F dX9_year_40 ?_
        refine q_istore F dX9_year_41 [(5, .int (q_I 0)), (4, .int (q_I seed)), (0, .ref (q_ad G 0)), (1, .int (q_I seed)), (2, .int (q_I m)), (3, .int (q_I w))] (Nat.le_of_ble_eq_true rfl) rfl ?_
        refine q_aload_n F dX9_year_43 2 rfl ?_
        refine q_iconst F dX9_year_44 ?_
        refine q_puti (T := TX9) (ref := "LeastHungryModel") F huX9 rfl hm.1 15 (by decide) (by decide +kernel) rfl 15 rfl tyX9 tyX9_ok nmX9 rfl rfl (by decide +kernel) (by omega) dX9_year_45 (fun N45 eN45 => ?_)
        have kz45 : q_kz M N45 := q_kz_tr (q_an_kz p34) (q_kz_e0 eN45 (by omega))
        have f45 : ∀ j, j ≠ 0 → N45 j = N34 j := fun j hj => by rw [eN45, q_up_ne hj]
        have z45 : N45 0 15 = 0 := by rw [eN45, q_up_at, if_pos rfl]
        have zv45 : q_zv N45 := ⟨q_z0_kz hz kz45, by rw [f45 7 (by omega)]; exact zv34.2.1, by rw [f45 8 (by omega)]; exact zv34.2.2.1, by rw [f45 9 (by omega)]; exact zv34.2.2.2⟩
        have pc45 : q_pc N45 0 := by
          unfold q_pc
          rw [f45 10 (by omega), f45 11 (by omega)]
          exact q_an_pc p34
        have sR45 : q_sR (M 0 0) (q_v9 N45) (q_T0 (M 1) (M 2) (M 3)) := by
          have := q_an_sR q_kz_rf p34
          unfold q_sR at this ⊢
          show q_simR (M 0 0) (N45 7) (N45 8) (N45 9) _ _ _
          rw [f45 7 (by omega), f45 8 (by omega), f45 9 (by omega)]
          exact this
        refine q_iconst F dX9_year_48 ?_
        refine q_istore F dX9_year_49 [(6, .int (q_I 0)), (5, .int (q_I 0)), (4, .int (q_I seed)), (0, .ref (q_ad G 0)), (1, .int (q_I seed)), (2, .int (q_I m)), (3, .int (q_I w))] (Nat.le_of_ble_eq_true rfl) rfl ?_
        have lp51_1 : ∀ (k51_1 : Nat) (x : Int) (e : Int) (k : Int) (M1 : q_M), ((0 ≤ k ∧ k ≤ m) ∧ q_yrI M M1 seed k.toNat x e) → (m - k).toNat = k51_1 → q_Y G E 9 M1 [(0, .ref (q_ad G 0)), (1, .int (q_I seed)), (2, .int (q_I m)), (3, .int (q_I w)), (4, .int (q_I x)), (5, .int (q_I e)), (6, .int (q_I k))] 51 [] := by
          intro k51_1
          induction k51_1 using Nat.strongRecOn with
          | _ k51_1 ih51_1 =>
            intro x e k  M1 hi51 hk51
            refine q_MRof (fun hM51 => ?_)
            obtain ⟨kz, zv, pc0, hx, sR, hl, he, hxR, heR, hlR⟩ := id hi51.2
            rw [Int.toNat_of_nonneg hi51.1.1] at pc0 heR hlR
            have pc : q_pc M1 k := pc0
            have t1 : M1 0 0 = M 0 0 := kz.2.1
            have ke1 : M1 0 4 = M 0 4 := kz.2.2.1
            refine q_iload F dX9_year_51 6 rfl ?_
            refine q_iload_n F dX9_year_53 2 rfl ?_
            refine q_icmp_ge F 219 dX9_year_54 (by decide) (by omega) (fun c54 => ?_) (fun c54 => ?_)
            · have hkm : k = m := by omega
              have hFR : ∀ x, 0 ≤ x → x < 6 → 0 ≤ (fun x => if q_has (M1 0 0) x = true then M1 7 x else 0) x ∧ (fun x => if q_has (M1 0 0) x = true then M1 7 x else 0) x ≤ 20 := fun x h0 h1 => by
                have := zv.2.1 x h0 h1
                show 0 ≤ (if q_has (M1 0 0) x = true then M1 7 x else 0) ∧ (if q_has (M1 0 0) x = true then M1 7 x else 0) ≤ 20
                split <;> omega
              refine q_iconst F dX9_year_219 ?_
              refine q_istore F dX9_year_220 [(6, .int (q_I 0)), (0, .ref (q_ad G 0)), (1, .int (q_I seed)), (2, .int (q_I m)), (3, .int (q_I w)), (4, .int (q_I x)), (5, .int (q_I e))] (Nat.le_of_ble_eq_true rfl) rfl ?_
              refine q_iconst F dX9_year_222 ?_
              refine q_istore F dX9_year_223 [(7, .int (q_I 0)), (6, .int (q_I 0)), (0, .ref (q_ad G 0)), (1, .int (q_I seed)), (2, .int (q_I m)), (3, .int (q_I w)), (4, .int (q_I x)), (5, .int (q_I e))] (Nat.le_of_ble_eq_true rfl) rfl ?_
              have lp225_2 : ∀ (k225_2 : Nat) (sm : Int) (g : Int), ((0 ≤ g ∧ g ≤ 6) ∧ sm = q_s6 (q_lz (fun x => if q_has (M1 0 0) x = true then M1 7 x else 0) g)) → (6 - g).toNat = k225_2 → q_Y G E 9 M1 [(0, .ref (q_ad G 0)), (1, .int (q_I seed)), (2, .int (q_I m)), (3, .int (q_I w)), (5, .int (q_I e)), (6, .int (q_I sm)), (7, .int (q_I g))] 225 [] := by
                intro k225_2
                induction k225_2 using Nat.strongRecOn with
                | _ k225_2 ih225_2 =>
                  intro sm g   hi225 hk225
                  have hsm := q_s6_B (f := (fun x => if q_has (M1 0 0) x = true then M1 7 x else 0)) (g := g) hFR
                  rw [← hi225.2] at hsm
                  refine q_iload F dX9_year_225 6 rfl ?_
                  refine q_bipush F dX9_year_227 (by decide) ?_
                  refine q_icmp_ge F 266 dX9_year_229 (by decide) (by omega) (fun c229 => ?_) (fun c229 => ?_)
                  · refine q_iload_n F dX9_year_266 3 rfl ?_
                    refine q_if_ne F 275 dX9_year_267 (by decide) (by omega) (fun c267 => ?_) (fun c267 => ?_)
                    · refine q_iload_n F dX9_year_275 3 rfl ?_
                      refine q_iconst F dX9_year_276 ?_
                      refine q_icmp_ne F 287 dX9_year_277 (by decide) (by omega) (fun c277 => ?_) (fun c277 => ?_)
                      · refine q_iload F dX9_year_287 5 rfl ?_
                        exact q_iret F FI dX9_year_289 (by omega) ⟨by
                              unfold S_year
                              rw [if_pos ⟨d1, d2, d3⟩, if_neg c267, if_neg c277, hi225.2, show g = 6 by omega, q_s6_6, ← hkm]
                              refine q_s6_congr (fun x _ _ => ?_)
                              show (if q_has (M1 0 0) x = true then M1 7 x else 0) = _
                              rw [t1]
                              by_cases hq : q_has (M 0 0) x = true
                              · rw [if_pos hq, if_pos hq]
                                exact (sR x hq).1
                              · rw [if_neg hq, if_neg hq], kz⟩
                      · refine q_aload_n F dX9_year_280 0 rfl ?_
                        refine q_geti (T := TX9) (ref := "LeastHungryModel") F huX9 rfl hm.1 15 (by decide) (by decide +kernel) rfl 15 rfl rfl dX9_year_281 (fun h281 => ?_)
                        refine q_goto F 289 dX9_year_284 (by decide) ?_
                        exact q_iret F FI dX9_year_289 (by omega) ⟨by unfold S_year; rw [if_pos ⟨d1, d2, d3⟩, if_neg c267, if_pos c277, hl, hkm], kz⟩
                    · refine q_iload F dX9_year_270 4 rfl ?_
                      refine q_goto F 289 dX9_year_272 (by decide) ?_
                      exact q_iret F FI dX9_year_289 (by omega) ⟨by unfold S_year; rw [if_pos ⟨d1, d2, d3⟩, if_pos c267, he, hkm], kz⟩
                  · refine q_iload F dX9_year_232 5 rfl ?_
                    refine q_aload_n F dX9_year_234 0 rfl ?_
                    refine q_geti (T := TX9) (ref := "LeastHungryModel") F huX9 rfl hm.1 0 (by decide) (by decide +kernel) rfl 0 rfl rfl dX9_year_235 (fun h235 => ?_)
                    refine q_iload F dX9_year_238 6 rfl ?_
                    refine q_callSP (n := 2) F (c_X9_has G hI M1 _ g (by omega)) rfl gX9_year_X9_has ⟨by decide, by decide, by decide +kernel⟩ rfl ⟨rfl, rfl, Nat.le_of_ble_eq_true rfl, Nat.le_of_ble_eq_true rfl⟩ rfl (Nat.le_of_ble_eq_true rfl) dX9_year_240 (fun h240 => ?_)
                    refine q_ifb_eq F 256 dX9_year_243 (by decide) (fun c243 => ?_) (fun c243 => ?_)
                    · refine q_iconst F dX9_year_256 ?_
                      refine q_iadd F dX9_year_257 ?_
                      refine q_nm (fun v258 e258 => ?_)
                      refine q_istore F dX9_year_258 [(6, .int (q_I v258)), (0, .ref (q_ad G 0)), (1, .int (q_I seed)), (2, .int (q_I m)), (3, .int (q_I w)), (5, .int (q_I e)), (7, .int (q_I g))] (Nat.le_of_ble_eq_true rfl) rfl ?_
                      obtain ⟨v260, e260⟩ : ∃ z_ : Int, z_ = g + 1 := ⟨_, rfl⟩
                      refine q_iinc F dX9_year_260 6 rfl e260 [(7, .int (q_I v260)), (6, .int (q_I v258)), (0, .ref (q_ad G 0)), (1, .int (q_I seed)), (2, .int (q_I m)), (3, .int (q_I w)), (5, .int (q_I e))] (Nat.le_of_ble_eq_true rfl) rfl ?_
                      refine q_goto F 225 dX9_year_263 (by decide) ?_
                      refine q_drop [2, 3, 4, 5, 6, 1, 0] rfl ?_
                      exact ih225_2 _ (by omega) v258 v260 ⟨by omega, by
                            have hst := q_s6_step (fun x => if q_has (M1 0 0) x = true then M1 7 x else 0) (g := g) (by omega) (by omega)
                            rw [e260, hst, e258, ← hi225.2]
                            rw [c243]; rfl⟩ rfl
                    · refine q_aload_n F dX9_year_246 0 rfl ?_
                      refine q_getr (T := TX9) (ref := "LeastHungryModel") F huX9 rfl hm.1 10 (by decide) (by decide +kernel) rfl rfl dX9_year_247 ?_
                      refine q_iload F dX9_year_250 6 rfl ?_
                      refine q_iald F hm.2.2.2.2.2.2.2.1 (Nat.le_of_ble_eq_true rfl) (by omega) dX9_year_252 (fun h252 => ?_)
                      refine q_goto F 257 dX9_year_253 (by decide) ?_
                      refine q_iadd F dX9_year_257 ?_
                      refine q_nm (fun v258 e258 => ?_)
                      refine q_istore F dX9_year_258 [(6, .int (q_I v258)), (0, .ref (q_ad G 0)), (1, .int (q_I seed)), (2, .int (q_I m)), (3, .int (q_I w)), (5, .int (q_I e)), (7, .int (q_I g))] (Nat.le_of_ble_eq_true rfl) rfl ?_
                      obtain ⟨v260, e260⟩ : ∃ z_ : Int, z_ = g + 1 := ⟨_, rfl⟩
                      refine q_iinc F dX9_year_260 6 rfl e260 [(7, .int (q_I v260)), (6, .int (q_I v258)), (0, .ref (q_ad G 0)), (1, .int (q_I seed)), (2, .int (q_I m)), (3, .int (q_I w)), (5, .int (q_I e))] (Nat.le_of_ble_eq_true rfl) rfl ?_
                      refine q_goto F 225 dX9_year_263 (by decide) ?_
                      refine q_drop [2, 3, 4, 5, 6, 1, 0] rfl ?_
                      exact ih225_2 _ (by omega) v258 v260 ⟨by omega, by
                            have hst := q_s6_step (fun x => if q_has (M1 0 0) x = true then M1 7 x else 0) (g := g) (by omega) (by omega)
                            rw [e260, hst, e258, ← hi225.2]
                            rw [if_pos c243]⟩ rfl
              refine q_drop [2, 3, 4, 5, 7, 1, 0] rfl ?_
              exact lp225_2 _ 0 0 ⟨by omega, (q_s6_0 _).symm⟩ rfl
            · refine q_bipush F dX9_year_57 (by decide) ?_
              refine q_iload F dX9_year_59 4 rfl ?_
              refine q_imul F dX9_year_61 ?_
              refine q_bipush F dX9_year_62 (by decide) ?_
              refine q_iadd F dX9_year_64 ?_
              refine q_ldc (n := 65537) F dX9_year_65 (by decide +kernel) ?_
              refine q_irem F dX9_year_67 (by omega) ?_
              refine q_nm (fun v68 e68 => ?_)
              refine q_istore F dX9_year_68 [(4, .int (q_I v68)), (0, .ref (q_ad G 0)), (1, .int (q_I seed)), (2, .int (q_I m)), (3, .int (q_I w)), (5, .int (q_I e)), (6, .int (q_I k))] (Nat.le_of_ble_eq_true rfl) rfl ?_
              have h68 : v68 = q_nxt x := e68
              clear e68
              have h68R := q_nxt_R x
              rw [← h68] at h68R
              refine q_iload F dX9_year_70 0 rfl ?_
              refine q_iconst F dX9_year_72 ?_
              refine q_irem F dX9_year_73 (by omega) ?_
              refine q_nm (fun v74 e74 => ?_)
              refine q_istore F dX9_year_74 [(7, .int (q_I v74)), (4, .int (q_I v68)), (0, .ref (q_ad G 0)), (1, .int (q_I seed)), (2, .int (q_I m)), (3, .int (q_I w)), (5, .int (q_I e)), (6, .int (q_I k))] (Nat.le_of_ble_eq_true rfl) rfl ?_
              have h74 := q_mod4 v68
              rw [← e74] at h74
              refine q_iload F dX9_year_76 1 rfl ?_
              refine q_iconst F dX9_year_78 ?_
              refine q_idiv F dX9_year_79 (by omega) ?_
              refine q_bipush F dX9_year_80 (by decide) ?_
              refine q_irem F dX9_year_82 (by omega) ?_
              refine q_nm (fun v83 e83 => ?_)
              refine q_istore F dX9_year_83 [(8, .int (q_I v83)), (7, .int (q_I v74)), (4, .int (q_I v68)), (0, .ref (q_ad G 0)), (1, .int (q_I seed)), (2, .int (q_I m)), (3, .int (q_I w)), (5, .int (q_I e)), (6, .int (q_I k))] (Nat.le_of_ble_eq_true rfl) rfl ?_
              refine q_iload F dX9_year_85 1 rfl ?_
              have h83 := q_mod6 (v68 / 4)
              rw [← e83] at h83
              have xh83 := zv.2.1 v83 h83.1 h83.2
              have h32 := q_mod3 (v68 / 32)
              have h64 := q_mod3 (v68 / 64)
              have h49 := q_mod9 (v68 / 4)
              have h10 := q_mod10 (v68 / 32)
              refine q_if_ne F 97 dX9_year_87 (by decide) (by omega) (fun c87 => ?_) (fun c87 => ?_)
              · refine q_iload F dX9_year_97 1 rfl ?_
                refine q_iconst F dX9_year_99 ?_
                refine q_icmp_ne F 135 dX9_year_100 (by decide) (by omega) (fun c100 => ?_) (fun c100 => ?_)
                · refine q_iload F dX9_year_135 1 rfl ?_
                  refine q_iconst F dX9_year_137 ?_
                  refine q_icmp_ne F 168 dX9_year_138 (by decide) (by omega) (fun c138 => ?_) (fun c138 => ?_)
                  · refine q_iload F dX9_year_168 1 rfl ?_
                    refine q_iconst F dX9_year_170 ?_
                    refine q_icmp_ne F 213 dX9_year_171 (by decide) (by omega) (fun c171 => ?_) (fun c171 => ?_)
                    · exfalso; omega
                    refine q_aload_n F dX9_year_174 3 rfl ?_
                    refine q_iload F dX9_year_175 2 rfl ?_
                    refine q_bipush F dX9_year_177 (by decide) ?_
                    refine q_idiv F dX9_year_179 (by omega) ?_
                    refine q_iconst F dX9_year_180 ?_
                    refine q_irem F dX9_year_181 (by omega) ?_
                    refine q_callVP (n := 1) (T := TX9) F (c_X9_inHouse G hI M1 hm _ zv (by omega)) rfl rfl hm.1 gX9_year_X9_inHouse rfl ⟨by decide, by decide, by decide +kernel⟩ rfl ⟨rfl, rfl, Nat.le_of_ble_eq_true rfl, Nat.le_of_ble_eq_true rfl⟩ rfl (Nat.le_of_ble_eq_true rfl) dX9_year_182 (fun h182 => ?_)
                    refine q_if_eq F 213 dX9_year_185 (by decide) (by omega) (fun c185 => ?_) (fun c185 => ?_)
                    · obtain ⟨v213, e213⟩ : ∃ z_ : Int, z_ = k + 1 := ⟨_, rfl⟩
                      refine q_iinc F dX9_year_213 8 rfl e213 [(6, .int (q_I v213)), (8, .int (q_I v83)), (7, .int (q_I v74)), (4, .int (q_I v68)), (0, .ref (q_ad G 0)), (1, .int (q_I seed)), (2, .int (q_I m)), (3, .int (q_I w)), (5, .int (q_I e))] (Nat.le_of_ble_eq_true rfl) rfl ?_
                      refine q_goto F 51 dX9_year_216 (by decide) ?_
                      refine q_drop [4, 5, 6, 7, 3, 8, 0] rfl ?_
                      exact ih51_1 _ (by omega) v68 e v213 M1 ⟨by omega, by
                            rw [e213, show (k + 1).toNat = k.toNat + 1 by omega]
                            refine q_yrI_s hi51.2 h68 q_kz_rf zv (q_pc_mo pc (by omega)) (show _ = (q_yr (q_hrT (M 0 0)) (M 0 0) (M 0 4) k.toNat (seed, q_T0 (M 1) (M 2) (M 3))).2 from ?_) sR hl he (by omega) (by omega)
                            · unfold q_dr
                              rw [if_neg (by omega), if_neg (by omega), if_neg (by omega), if_pos]
                              rw [← q_sR_ins sR, ← t1]
                              exact c185⟩ rfl
                    · refine q_iload F dX9_year_188 7 rfl ?_
                      refine q_aload_n F dX9_year_190 3 rfl ?_
                      refine q_iload F dX9_year_191 2 rfl ?_
                      refine q_bipush F dX9_year_193 (by decide) ?_
                      refine q_idiv F dX9_year_195 (by omega) ?_
                      refine q_iconst F dX9_year_196 ?_
                      refine q_irem F dX9_year_197 (by omega) ?_
                      refine q_iconst F dX9_year_198 ?_
                      refine q_iload F dX9_year_199 2 rfl ?_
                      refine q_iconst F dX9_year_201 ?_
                      refine q_idiv F dX9_year_202 (by omega) ?_
                      refine q_bipush F dX9_year_203 (by decide) ?_
                      refine q_irem F dX9_year_205 (by omega) ?_
                      refine q_iadd F dX9_year_206 ?_
                      refine q_callVI (n := 2) (T := TX9) F (c_X9_dish G hI M1 hm _ _ k zv pc (by omega) (by omega)) rfl rfl hm.1 gX9_year_X9_dish rfl ⟨by decide, by decide, by decide +kernel⟩ rfl ⟨rfl, rfl, Nat.le_of_ble_eq_true rfl, Nat.le_of_ble_eq_true rfl⟩ rfl (Nat.le_of_ble_eq_true rfl) dX9_year_207 (fun r207 N207 h207 p207 => ?_)
                      obtain ⟨l, hl1, hl2⟩ := p207.2.1
                      have kz207 : q_kz M1 N207 := q_kz_dish p207.2.2.1 p207.2.2.2
                      refine q_iadd F dX9_year_210 ?_
                      refine q_nm (fun v211 e211 => ?_)
                      refine q_istore F dX9_year_211 [(5, .int (q_I v211)), (8, .int (q_I v83)), (7, .int (q_I v74)), (4, .int (q_I v68)), (0, .ref (q_ad G 0)), (1, .int (q_I seed)), (2, .int (q_I m)), (3, .int (q_I w)), (6, .int (q_I k))] (Nat.le_of_ble_eq_true rfl) rfl ?_
                      obtain ⟨v213, e213⟩ : ∃ z_ : Int, z_ = k + 1 := ⟨_, rfl⟩
                      refine q_iinc F dX9_year_213 8 rfl e213 [(6, .int (q_I v213)), (5, .int (q_I v211)), (8, .int (q_I v83)), (7, .int (q_I v74)), (4, .int (q_I v68)), (0, .ref (q_ad G 0)), (1, .int (q_I seed)), (2, .int (q_I m)), (3, .int (q_I w))] (Nat.le_of_ble_eq_true rfl) rfl ?_
                      refine q_goto F 51 dX9_year_216 (by decide) ?_
                      refine q_drop [5, 6, 7, 8, 4, 1, 0] rfl ?_
                      exact ih51_1 _ (by omega) v68 v211 v213 N207 ⟨by omega, by
                            rw [e213, show (k + 1).toNat = k.toNat + 1 by omega]
                            have hTK := q_sR_TK (ke := M 0 4) (pl := v68 / 64 % 3) (p := 1 + v68 / 4 % 9) sR
                            have hcR := q_cnt_R (q_has (q_TK (M 0 0) (M 0 4) (q_yr (q_hrT (M 0 0)) (M 0 0) (M 0 4) k.toNat (seed, q_T0 (M 1) (M 2) (M 3))).2 (v68 / 64 % 3) (1 + v68 / 4 % 9)))
                            have hr : r207 = q_cnt (q_has (q_TK (M 0 0) (M 0 4) (q_yr (q_hrT (M 0 0)) (M 0 0) (M 0 4) k.toNat (seed, q_T0 (M 1) (M 2) (M 3))).2 (v68 / 64 % 3) (1 + v68 / 4 % 9))) := by rw [p207.1, t1, ke1, hTK]
                            have hll : qt_l (q_dish (M 0 0) (M 0 4) (q_v9 M1) (v68 / 64 % 3) (1 + v68 / 4 % 9)) = M1 0 15 + ((1 + v68 / 4 % 9) - r207) := by
                              show M1 0 15 + ((1 + v68 / 4 % 9) - q_cnt (q_has (q_TK (M 0 0) (M 0 4) (q_v9 M1) (v68 / 64 % 3) (1 + v68 / 4 % 9)))) = _
                              rw [hTK, ← hr]
                            have e15 : N207 0 15 = M1 0 15 + ((1 + v68 / 4 % 9) - r207) := by
                              rw [← hll]
                              rw [t1, ke1] at hl2
                              rw [← hl2 (by omega)]
                              exact congrArg qt_l hl1
                            refine q_yrI_s hi51.2 h68 kz207 (q_zv_dish zv kz207 hl1) (q_pc_mo (q_pc_dish pc hl1) (by omega)) (show _ = q_dish (M 0 0) (M 0 4) (q_yr (q_hrT (M 0 0)) (M 0 0) (M 0 4) k.toNat (seed, q_T0 (M 1) (M 2) (M 3))).2 (v68 / 64 % 3) (1 + v68 / 4 % 9) from ?_) ?_ ?_ ?_ ?_ ?_
                            · unfold q_dr
                              rw [if_neg (by omega), if_neg (by omega), if_neg (by omega), if_neg]
                              rw [← q_sR_ins sR, ← t1]
                              exact c185
                            · rw [hl1, t1, ke1]
                              exact q_sR_dish sR
                            · rw [e15, hr]
                              show _ = qt_l (q_yr (q_hrT (M 0 0)) (M 0 0) (M 0 4) k.toNat (seed, q_T0 (M 1) (M 2) (M 3))).2 + _
                              rw [← hl]
                            · rw [q_s6_dish, e211, hr, ← he]
                            · omega
                            · omega⟩ rfl
                  · refine q_aload_n F dX9_year_141 3 rfl ?_
                    refine q_iload F dX9_year_142 0 rfl ?_
                    refine q_callVP (n := 1) (T := TX9) F (c_X9_isThere G hI M1 hm v83 (by omega) zv.1) rfl rfl hm.1 gX9_year_X9_isThere rfl ⟨by decide, by decide, by decide +kernel⟩ rfl ⟨rfl, rfl, Nat.le_of_ble_eq_true rfl, Nat.le_of_ble_eq_true rfl⟩ rfl (Nat.le_of_ble_eq_true rfl) dX9_year_144 (fun h144 => ?_)
                    refine q_ifb_eq F 168 dX9_year_147 (by decide) (fun c147 => ?_) (fun c147 => ?_)
                    · refine q_iload F dX9_year_168 1 rfl ?_
                      refine q_iconst F dX9_year_170 ?_
                      refine q_icmp_ne F 213 dX9_year_171 (by decide) (by omega) (fun c171 => ?_) (fun c171 => ?_)
                      · obtain ⟨v213, e213⟩ : ∃ z_ : Int, z_ = k + 1 := ⟨_, rfl⟩
                        refine q_iinc F dX9_year_213 8 rfl e213 [(6, .int (q_I v213)), (8, .int (q_I v83)), (7, .int (q_I v74)), (4, .int (q_I v68)), (0, .ref (q_ad G 0)), (1, .int (q_I seed)), (2, .int (q_I m)), (3, .int (q_I w)), (5, .int (q_I e))] (Nat.le_of_ble_eq_true rfl) rfl ?_
                        refine q_goto F 51 dX9_year_216 (by decide) ?_
                        refine q_drop [4, 5, 6, 7, 3, 8, 0] rfl ?_
                        exact ih51_1 _ (by omega) v68 e v213 M1 ⟨by omega, by
                              rw [e213, show (k + 1).toNat = k.toNat + 1 by omega]
                              refine q_yrI_s hi51.2 h68 q_kz_rf zv (q_pc_mo pc (by omega)) (show _ = (q_yr (q_hrT (M 0 0)) (M 0 0) (M 0 4) k.toNat (seed, q_T0 (M 1) (M 2) (M 3))).2 from ?_) sR hl he (by omega) (by omega)
                              · unfold q_dr
                                rw [if_neg (by omega), if_neg (by omega), if_pos (by omega), ← e83, if_neg (by rw [← t1, c147]; decide)]⟩ rfl
                      · refine q_aload_n F dX9_year_174 3 rfl ?_
                        refine q_iload F dX9_year_175 2 rfl ?_
                        refine q_bipush F dX9_year_177 (by decide) ?_
                        refine q_idiv F dX9_year_179 (by omega) ?_
                        refine q_iconst F dX9_year_180 ?_
                        refine q_irem F dX9_year_181 (by omega) ?_
                        refine q_callVP (n := 1) (T := TX9) F (c_X9_inHouse G hI M1 hm _ zv (by omega)) rfl rfl hm.1 gX9_year_X9_inHouse rfl ⟨by decide, by decide, by decide +kernel⟩ rfl ⟨rfl, rfl, Nat.le_of_ble_eq_true rfl, Nat.le_of_ble_eq_true rfl⟩ rfl (Nat.le_of_ble_eq_true rfl) dX9_year_182 (fun h182 => ?_)
                        refine q_if_eq F 213 dX9_year_185 (by decide) (by omega) (fun c185 => ?_) (fun c185 => ?_)
                        · obtain ⟨v213, e213⟩ : ∃ z_ : Int, z_ = k + 1 := ⟨_, rfl⟩
                          refine q_iinc F dX9_year_213 8 rfl e213 [(6, .int (q_I v213)), (8, .int (q_I v83)), (7, .int (q_I v74)), (4, .int (q_I v68)), (0, .ref (q_ad G 0)), (1, .int (q_I seed)), (2, .int (q_I m)), (3, .int (q_I w)), (5, .int (q_I e))] (Nat.le_of_ble_eq_true rfl) rfl ?_
                          refine q_goto F 51 dX9_year_216 (by decide) ?_
                          refine q_drop [4, 5, 6, 7, 3, 8, 0] rfl ?_
                          exact ih51_1 _ (by omega) v68 e v213 M1 ⟨by omega, by
                                rw [e213, show (k + 1).toNat = k.toNat + 1 by omega]
                                refine q_yrI_s hi51.2 h68 q_kz_rf zv (q_pc_mo pc (by omega)) (show _ = (q_yr (q_hrT (M 0 0)) (M 0 0) (M 0 4) k.toNat (seed, q_T0 (M 1) (M 2) (M 3))).2 from ?_) sR hl he (by omega) (by omega)
                                · unfold q_dr
                                  rw [if_neg (by omega), if_neg (by omega), if_pos (by omega), ← e83, if_neg (by rw [← t1, c147]; decide)]⟩ rfl
                        · refine q_iload F dX9_year_188 7 rfl ?_
                          refine q_aload_n F dX9_year_190 3 rfl ?_
                          refine q_iload F dX9_year_191 2 rfl ?_
                          refine q_bipush F dX9_year_193 (by decide) ?_
                          refine q_idiv F dX9_year_195 (by omega) ?_
                          refine q_iconst F dX9_year_196 ?_
                          refine q_irem F dX9_year_197 (by omega) ?_
                          refine q_iconst F dX9_year_198 ?_
                          refine q_iload F dX9_year_199 2 rfl ?_
                          refine q_iconst F dX9_year_201 ?_
                          refine q_idiv F dX9_year_202 (by omega) ?_
                          refine q_bipush F dX9_year_203 (by decide) ?_
                          refine q_irem F dX9_year_205 (by omega) ?_
                          refine q_iadd F dX9_year_206 ?_
                          refine q_callVI (n := 2) (T := TX9) F (c_X9_dish G hI M1 hm _ _ k zv pc (by omega) (by omega)) rfl rfl hm.1 gX9_year_X9_dish rfl ⟨by decide, by decide, by decide +kernel⟩ rfl ⟨rfl, rfl, Nat.le_of_ble_eq_true rfl, Nat.le_of_ble_eq_true rfl⟩ rfl (Nat.le_of_ble_eq_true rfl) dX9_year_207 (fun r207 N207 h207 p207 => ?_)
                          obtain ⟨l, hl1, hl2⟩ := p207.2.1
                          have kz207 : q_kz M1 N207 := q_kz_dish p207.2.2.1 p207.2.2.2
                          refine q_iadd F dX9_year_210 ?_
                          refine q_nm (fun v211 e211 => ?_)
                          refine q_istore F dX9_year_211 [(5, .int (q_I v211)), (8, .int (q_I v83)), (7, .int (q_I v74)), (4, .int (q_I v68)), (0, .ref (q_ad G 0)), (1, .int (q_I seed)), (2, .int (q_I m)), (3, .int (q_I w)), (6, .int (q_I k))] (Nat.le_of_ble_eq_true rfl) rfl ?_
                          obtain ⟨v213, e213⟩ : ∃ z_ : Int, z_ = k + 1 := ⟨_, rfl⟩
                          refine q_iinc F dX9_year_213 8 rfl e213 [(6, .int (q_I v213)), (5, .int (q_I v211)), (8, .int (q_I v83)), (7, .int (q_I v74)), (4, .int (q_I v68)), (0, .ref (q_ad G 0)), (1, .int (q_I seed)), (2, .int (q_I m)), (3, .int (q_I w))] (Nat.le_of_ble_eq_true rfl) rfl ?_
                          refine q_goto F 51 dX9_year_216 (by decide) ?_
                          refine q_drop [5, 6, 7, 8, 4, 1, 0] rfl ?_
                          exact ih51_1 _ (by omega) v68 v211 v213 N207 ⟨by omega, by
                                rw [e213, show (k + 1).toNat = k.toNat + 1 by omega]
                                have hTK := q_sR_TK (ke := M 0 4) (pl := v68 / 64 % 3) (p := 1 + v68 / 4 % 9) sR
                                have hcR := q_cnt_R (q_has (q_TK (M 0 0) (M 0 4) (q_yr (q_hrT (M 0 0)) (M 0 0) (M 0 4) k.toNat (seed, q_T0 (M 1) (M 2) (M 3))).2 (v68 / 64 % 3) (1 + v68 / 4 % 9)))
                                have hr : r207 = q_cnt (q_has (q_TK (M 0 0) (M 0 4) (q_yr (q_hrT (M 0 0)) (M 0 0) (M 0 4) k.toNat (seed, q_T0 (M 1) (M 2) (M 3))).2 (v68 / 64 % 3) (1 + v68 / 4 % 9))) := by rw [p207.1, t1, ke1, hTK]
                                have hll : qt_l (q_dish (M 0 0) (M 0 4) (q_v9 M1) (v68 / 64 % 3) (1 + v68 / 4 % 9)) = M1 0 15 + ((1 + v68 / 4 % 9) - r207) := by
                                  show M1 0 15 + ((1 + v68 / 4 % 9) - q_cnt (q_has (q_TK (M 0 0) (M 0 4) (q_v9 M1) (v68 / 64 % 3) (1 + v68 / 4 % 9)))) = _
                                  rw [hTK, ← hr]
                                have e15 : N207 0 15 = M1 0 15 + ((1 + v68 / 4 % 9) - r207) := by
                                  rw [← hll]
                                  rw [t1, ke1] at hl2
                                  rw [← hl2 (by omega)]
                                  exact congrArg qt_l hl1
                                refine q_yrI_s hi51.2 h68 kz207 (q_zv_dish zv kz207 hl1) (q_pc_mo (q_pc_dish pc hl1) (by omega)) (show _ = q_dish (M 0 0) (M 0 4) (q_yr (q_hrT (M 0 0)) (M 0 0) (M 0 4) k.toNat (seed, q_T0 (M 1) (M 2) (M 3))).2 (v68 / 64 % 3) (1 + v68 / 4 % 9) from ?_) ?_ ?_ ?_ ?_ ?_
                                · unfold q_dr
                                  rw [if_neg (by omega), if_neg (by omega), if_neg (by omega), if_neg]
                                  rw [← q_sR_ins sR, ← t1]
                                  exact c185
                                · rw [hl1, t1, ke1]
                                  exact q_sR_dish sR
                                · rw [e15, hr]
                                  show _ = qt_l (q_yr (q_hrT (M 0 0)) (M 0 0) (M 0 4) k.toNat (seed, q_T0 (M 1) (M 2) (M 3))).2 + _
                                  rw [← hl]
                                · rw [q_s6_dish, e211, hr, ← he]
                                · omega
                                · omega⟩ rfl
                    · refine q_aload_n F dX9_year_150 3 rfl ?_
                      refine q_getr (T := TX9) (ref := "LeastHungryModel") F huX9 rfl hm.1 11 (by decide) (by decide +kernel) rfl rfl dX9_year_151 ?_
                      refine q_iload F dX9_year_154 0 rfl ?_
                      refine q_iload F dX9_year_156 2 rfl ?_
                      refine q_bipush F dX9_year_158 (by decide) ?_
                      refine q_idiv F dX9_year_160 (by omega) ?_
                      refine q_bipush F dX9_year_161 (by decide) ?_
                      refine q_irem F dX9_year_163 (by omega) ?_
                      refine q_iast F hm.2.2.2.2.2.2.2.2.1 (Nat.le_of_ble_eq_true rfl) (by omega) (by omega) dX9_year_164 (fun N164 eN164 => ?_)
                      refine q_goto F 213 dX9_year_165 (by decide) ?_
                      obtain ⟨v213, e213⟩ : ∃ z_ : Int, z_ = k + 1 := ⟨_, rfl⟩
                      refine q_iinc F dX9_year_213 8 rfl e213 [(6, .int (q_I v213)), (8, .int (q_I v83)), (7, .int (q_I v74)), (4, .int (q_I v68)), (0, .ref (q_ad G 0)), (1, .int (q_I seed)), (2, .int (q_I m)), (3, .int (q_I w)), (5, .int (q_I e))] (Nat.le_of_ble_eq_true rfl) rfl ?_
                      refine q_goto F 51 dX9_year_216 (by decide) ?_
                      refine q_drop [4, 5, 6, 7, 3, 8, 0] rfl ?_
                      exact ih51_1 _ (by omega) v68 e v213 N164 ⟨by omega, by
                            rw [e213, show (k + 1).toNat = k.toNat + 1 by omega]
                            have hh : q_has (M 0 0) v83 = true := by rw [← t1]; exact c147
                            refine q_yrI_s hi51.2 h68 (q_kz_e eN164 (by omega)) (q_zv_fe zv eN164 (by omega)) (by rw [eN164]; exact q_pc_fe (q_pc_mo pc (by omega))) (show _ = q_feT (q_yr (q_hrT (M 0 0)) (M 0 0) (M 0 4) k.toNat (seed, q_T0 (M 1) (M 2) (M 3))).2 v83 (v68 / 32 % 10) from ?_) ?_ (by rw [eN164, q_up_ne (by omega)]; exact hl) (by exact he) (by omega) (by rw [eN164, q_up_ne (by omega)]; omega)
                            · unfold q_dr
                              rw [if_neg (by omega), if_neg (by omega), if_pos (by omega), ← e83, if_pos hh]
                            · rw [eN164, q_v9_fe]
                              exact q_sR_fe sR⟩ rfl
                · refine q_aload_n F dX9_year_103 3 rfl ?_
                  refine q_iload F dX9_year_104 0 rfl ?_
                  refine q_iload F dX9_year_106 2 rfl ?_
                  refine q_bipush F dX9_year_108 (by decide) ?_
                  refine q_idiv F dX9_year_110 (by omega) ?_
                  refine q_iconst F dX9_year_111 ?_
                  refine q_irem F dX9_year_112 (by omega) ?_
                  refine q_callVP (n := 2) (T := TX9) F (c_X9_whyNotGo G hI M1 hm v83 _ zv (by omega)) rfl rfl hm.1 gX9_year_X9_whyNotGo rfl ⟨by decide, by decide, by decide +kernel⟩ rfl ⟨rfl, rfl, Nat.le_of_ble_eq_true rfl, Nat.le_of_ble_eq_true rfl⟩ rfl (Nat.le_of_ble_eq_true rfl) dX9_year_113 (fun h113 => ?_)
                  refine q_if_ne F 135 dX9_year_116 (by decide) (by omega) (fun c116 => ?_) (fun c116 => ?_)
                  · refine q_iload F dX9_year_135 1 rfl ?_
                    refine q_iconst F dX9_year_137 ?_
                    refine q_icmp_ne F 168 dX9_year_138 (by decide) (by omega) (fun c138 => ?_) (fun c138 => ?_)
                    · refine q_iload F dX9_year_168 1 rfl ?_
                      refine q_iconst F dX9_year_170 ?_
                      refine q_icmp_ne F 213 dX9_year_171 (by decide) (by omega) (fun c171 => ?_) (fun c171 => ?_)
                      · obtain ⟨v213, e213⟩ : ∃ z_ : Int, z_ = k + 1 := ⟨_, rfl⟩
                        refine q_iinc F dX9_year_213 8 rfl e213 [(6, .int (q_I v213)), (8, .int (q_I v83)), (7, .int (q_I v74)), (4, .int (q_I v68)), (0, .ref (q_ad G 0)), (1, .int (q_I seed)), (2, .int (q_I m)), (3, .int (q_I w)), (5, .int (q_I e))] (Nat.le_of_ble_eq_true rfl) rfl ?_
                        refine q_goto F 51 dX9_year_216 (by decide) ?_
                        refine q_drop [4, 5, 6, 7, 3, 8, 0] rfl ?_
                        exact ih51_1 _ (by omega) v68 e v213 M1 ⟨by omega, by
                              rw [e213, show (k + 1).toNat = k.toNat + 1 by omega]
                              refine q_yrI_s hi51.2 h68 q_kz_rf zv (q_pc_mo pc (by omega)) (show _ = (q_yr (q_hrT (M 0 0)) (M 0 0) (M 0 4) k.toNat (seed, q_T0 (M 1) (M 2) (M 3))).2 from ?_) sR hl he (by omega) (by omega)
                              · unfold q_dr
                                rw [if_neg (by omega), if_pos (by omega), ← e83]
                                unfold q_wg
                                rw [if_neg (by rw [← q_sR_W sR, ← t1]; exact c116)]⟩ rfl
                      · refine q_aload_n F dX9_year_174 3 rfl ?_
                        refine q_iload F dX9_year_175 2 rfl ?_
                        refine q_bipush F dX9_year_177 (by decide) ?_
                        refine q_idiv F dX9_year_179 (by omega) ?_
                        refine q_iconst F dX9_year_180 ?_
                        refine q_irem F dX9_year_181 (by omega) ?_
                        refine q_callVP (n := 1) (T := TX9) F (c_X9_inHouse G hI M1 hm _ zv (by omega)) rfl rfl hm.1 gX9_year_X9_inHouse rfl ⟨by decide, by decide, by decide +kernel⟩ rfl ⟨rfl, rfl, Nat.le_of_ble_eq_true rfl, Nat.le_of_ble_eq_true rfl⟩ rfl (Nat.le_of_ble_eq_true rfl) dX9_year_182 (fun h182 => ?_)
                        refine q_if_eq F 213 dX9_year_185 (by decide) (by omega) (fun c185 => ?_) (fun c185 => ?_)
                        · obtain ⟨v213, e213⟩ : ∃ z_ : Int, z_ = k + 1 := ⟨_, rfl⟩
                          refine q_iinc F dX9_year_213 8 rfl e213 [(6, .int (q_I v213)), (8, .int (q_I v83)), (7, .int (q_I v74)), (4, .int (q_I v68)), (0, .ref (q_ad G 0)), (1, .int (q_I seed)), (2, .int (q_I m)), (3, .int (q_I w)), (5, .int (q_I e))] (Nat.le_of_ble_eq_true rfl) rfl ?_
                          refine q_goto F 51 dX9_year_216 (by decide) ?_
                          refine q_drop [4, 5, 6, 7, 3, 8, 0] rfl ?_
                          exact ih51_1 _ (by omega) v68 e v213 M1 ⟨by omega, by
                                rw [e213, show (k + 1).toNat = k.toNat + 1 by omega]
                                refine q_yrI_s hi51.2 h68 q_kz_rf zv (q_pc_mo pc (by omega)) (show _ = (q_yr (q_hrT (M 0 0)) (M 0 0) (M 0 4) k.toNat (seed, q_T0 (M 1) (M 2) (M 3))).2 from ?_) sR hl he (by omega) (by omega)
                                · unfold q_dr
                                  rw [if_neg (by omega), if_pos (by omega), ← e83]
                                  unfold q_wg
                                  rw [if_neg (by rw [← q_sR_W sR, ← t1]; exact c116)]⟩ rfl
                        · refine q_iload F dX9_year_188 7 rfl ?_
                          refine q_aload_n F dX9_year_190 3 rfl ?_
                          refine q_iload F dX9_year_191 2 rfl ?_
                          refine q_bipush F dX9_year_193 (by decide) ?_
                          refine q_idiv F dX9_year_195 (by omega) ?_
                          refine q_iconst F dX9_year_196 ?_
                          refine q_irem F dX9_year_197 (by omega) ?_
                          refine q_iconst F dX9_year_198 ?_
                          refine q_iload F dX9_year_199 2 rfl ?_
                          refine q_iconst F dX9_year_201 ?_
                          refine q_idiv F dX9_year_202 (by omega) ?_
                          refine q_bipush F dX9_year_203 (by decide) ?_
                          refine q_irem F dX9_year_205 (by omega) ?_
                          refine q_iadd F dX9_year_206 ?_
                          refine q_callVI (n := 2) (T := TX9) F (c_X9_dish G hI M1 hm _ _ k zv pc (by omega) (by omega)) rfl rfl hm.1 gX9_year_X9_dish rfl ⟨by decide, by decide, by decide +kernel⟩ rfl ⟨rfl, rfl, Nat.le_of_ble_eq_true rfl, Nat.le_of_ble_eq_true rfl⟩ rfl (Nat.le_of_ble_eq_true rfl) dX9_year_207 (fun r207 N207 h207 p207 => ?_)
                          obtain ⟨l, hl1, hl2⟩ := p207.2.1
                          have kz207 : q_kz M1 N207 := q_kz_dish p207.2.2.1 p207.2.2.2
                          refine q_iadd F dX9_year_210 ?_
                          refine q_nm (fun v211 e211 => ?_)
                          refine q_istore F dX9_year_211 [(5, .int (q_I v211)), (8, .int (q_I v83)), (7, .int (q_I v74)), (4, .int (q_I v68)), (0, .ref (q_ad G 0)), (1, .int (q_I seed)), (2, .int (q_I m)), (3, .int (q_I w)), (6, .int (q_I k))] (Nat.le_of_ble_eq_true rfl) rfl ?_
                          obtain ⟨v213, e213⟩ : ∃ z_ : Int, z_ = k + 1 := ⟨_, rfl⟩
                          refine q_iinc F dX9_year_213 8 rfl e213 [(6, .int (q_I v213)), (5, .int (q_I v211)), (8, .int (q_I v83)), (7, .int (q_I v74)), (4, .int (q_I v68)), (0, .ref (q_ad G 0)), (1, .int (q_I seed)), (2, .int (q_I m)), (3, .int (q_I w))] (Nat.le_of_ble_eq_true rfl) rfl ?_
                          refine q_goto F 51 dX9_year_216 (by decide) ?_
                          refine q_drop [5, 6, 7, 8, 4, 1, 0] rfl ?_
                          exact ih51_1 _ (by omega) v68 v211 v213 N207 ⟨by omega, by
                                rw [e213, show (k + 1).toNat = k.toNat + 1 by omega]
                                have hTK := q_sR_TK (ke := M 0 4) (pl := v68 / 64 % 3) (p := 1 + v68 / 4 % 9) sR
                                have hcR := q_cnt_R (q_has (q_TK (M 0 0) (M 0 4) (q_yr (q_hrT (M 0 0)) (M 0 0) (M 0 4) k.toNat (seed, q_T0 (M 1) (M 2) (M 3))).2 (v68 / 64 % 3) (1 + v68 / 4 % 9)))
                                have hr : r207 = q_cnt (q_has (q_TK (M 0 0) (M 0 4) (q_yr (q_hrT (M 0 0)) (M 0 0) (M 0 4) k.toNat (seed, q_T0 (M 1) (M 2) (M 3))).2 (v68 / 64 % 3) (1 + v68 / 4 % 9))) := by rw [p207.1, t1, ke1, hTK]
                                have hll : qt_l (q_dish (M 0 0) (M 0 4) (q_v9 M1) (v68 / 64 % 3) (1 + v68 / 4 % 9)) = M1 0 15 + ((1 + v68 / 4 % 9) - r207) := by
                                  show M1 0 15 + ((1 + v68 / 4 % 9) - q_cnt (q_has (q_TK (M 0 0) (M 0 4) (q_v9 M1) (v68 / 64 % 3) (1 + v68 / 4 % 9)))) = _
                                  rw [hTK, ← hr]
                                have e15 : N207 0 15 = M1 0 15 + ((1 + v68 / 4 % 9) - r207) := by
                                  rw [← hll]
                                  rw [t1, ke1] at hl2
                                  rw [← hl2 (by omega)]
                                  exact congrArg qt_l hl1
                                refine q_yrI_s hi51.2 h68 kz207 (q_zv_dish zv kz207 hl1) (q_pc_mo (q_pc_dish pc hl1) (by omega)) (show _ = q_dish (M 0 0) (M 0 4) (q_yr (q_hrT (M 0 0)) (M 0 0) (M 0 4) k.toNat (seed, q_T0 (M 1) (M 2) (M 3))).2 (v68 / 64 % 3) (1 + v68 / 4 % 9) from ?_) ?_ ?_ ?_ ?_ ?_
                                · unfold q_dr
                                  rw [if_neg (by omega), if_neg (by omega), if_neg (by omega), if_neg]
                                  rw [← q_sR_ins sR, ← t1]
                                  exact c185
                                · rw [hl1, t1, ke1]
                                  exact q_sR_dish sR
                                · rw [e15, hr]
                                  show _ = qt_l (q_yr (q_hrT (M 0 0)) (M 0 0) (M 0 4) k.toNat (seed, q_T0 (M 1) (M 2) (M 3))).2 + _
                                  rw [← hl]
                                · rw [q_s6_dish, e211, hr, ← he]
                                · omega
                                · omega⟩ rfl
                    · refine q_aload_n F dX9_year_141 3 rfl ?_
                      refine q_iload F dX9_year_142 0 rfl ?_
                      refine q_callVP (n := 1) (T := TX9) F (c_X9_isThere G hI M1 hm v83 (by omega) zv.1) rfl rfl hm.1 gX9_year_X9_isThere rfl ⟨by decide, by decide, by decide +kernel⟩ rfl ⟨rfl, rfl, Nat.le_of_ble_eq_true rfl, Nat.le_of_ble_eq_true rfl⟩ rfl (Nat.le_of_ble_eq_true rfl) dX9_year_144 (fun h144 => ?_)
                      refine q_ifb_eq F 168 dX9_year_147 (by decide) (fun c147 => ?_) (fun c147 => ?_)
                      · refine q_iload F dX9_year_168 1 rfl ?_
                        refine q_iconst F dX9_year_170 ?_
                        refine q_icmp_ne F 213 dX9_year_171 (by decide) (by omega) (fun c171 => ?_) (fun c171 => ?_)
                        · obtain ⟨v213, e213⟩ : ∃ z_ : Int, z_ = k + 1 := ⟨_, rfl⟩
                          refine q_iinc F dX9_year_213 8 rfl e213 [(6, .int (q_I v213)), (8, .int (q_I v83)), (7, .int (q_I v74)), (4, .int (q_I v68)), (0, .ref (q_ad G 0)), (1, .int (q_I seed)), (2, .int (q_I m)), (3, .int (q_I w)), (5, .int (q_I e))] (Nat.le_of_ble_eq_true rfl) rfl ?_
                          refine q_goto F 51 dX9_year_216 (by decide) ?_
                          refine q_drop [4, 5, 6, 7, 3, 8, 0] rfl ?_
                          exact ih51_1 _ (by omega) v68 e v213 M1 ⟨by omega, by
                                rw [e213, show (k + 1).toNat = k.toNat + 1 by omega]
                                refine q_yrI_s hi51.2 h68 q_kz_rf zv (q_pc_mo pc (by omega)) (show _ = (q_yr (q_hrT (M 0 0)) (M 0 0) (M 0 4) k.toNat (seed, q_T0 (M 1) (M 2) (M 3))).2 from ?_) sR hl he (by omega) (by omega)
                                · unfold q_dr
                                  rw [if_neg (by omega), if_pos (by omega), ← e83]
                                  unfold q_wg
                                  rw [if_neg (by rw [← q_sR_W sR, ← t1]; exact c116)]⟩ rfl
                        · refine q_aload_n F dX9_year_174 3 rfl ?_
                          refine q_iload F dX9_year_175 2 rfl ?_
                          refine q_bipush F dX9_year_177 (by decide) ?_
                          refine q_idiv F dX9_year_179 (by omega) ?_
                          refine q_iconst F dX9_year_180 ?_
                          refine q_irem F dX9_year_181 (by omega) ?_
                          refine q_callVP (n := 1) (T := TX9) F (c_X9_inHouse G hI M1 hm _ zv (by omega)) rfl rfl hm.1 gX9_year_X9_inHouse rfl ⟨by decide, by decide, by decide +kernel⟩ rfl ⟨rfl, rfl, Nat.le_of_ble_eq_true rfl, Nat.le_of_ble_eq_true rfl⟩ rfl (Nat.le_of_ble_eq_true rfl) dX9_year_182 (fun h182 => ?_)
                          refine q_if_eq F 213 dX9_year_185 (by decide) (by omega) (fun c185 => ?_) (fun c185 => ?_)
                          · obtain ⟨v213, e213⟩ : ∃ z_ : Int, z_ = k + 1 := ⟨_, rfl⟩
                            refine q_iinc F dX9_year_213 8 rfl e213 [(6, .int (q_I v213)), (8, .int (q_I v83)), (7, .int (q_I v74)), (4, .int (q_I v68)), (0, .ref (q_ad G 0)), (1, .int (q_I seed)), (2, .int (q_I m)), (3, .int (q_I w)), (5, .int (q_I e))] (Nat.le_of_ble_eq_true rfl) rfl ?_
                            refine q_goto F 51 dX9_year_216 (by decide) ?_
                            refine q_drop [4, 5, 6, 7, 3, 8, 0] rfl ?_
                            exact ih51_1 _ (by omega) v68 e v213 M1 ⟨by omega, by
                                  rw [e213, show (k + 1).toNat = k.toNat + 1 by omega]
                                  refine q_yrI_s hi51.2 h68 q_kz_rf zv (q_pc_mo pc (by omega)) (show _ = (q_yr (q_hrT (M 0 0)) (M 0 0) (M 0 4) k.toNat (seed, q_T0 (M 1) (M 2) (M 3))).2 from ?_) sR hl he (by omega) (by omega)
                                  · unfold q_dr
                                    rw [if_neg (by omega), if_pos (by omega), ← e83]
                                    unfold q_wg
                                    rw [if_neg (by rw [← q_sR_W sR, ← t1]; exact c116)]⟩ rfl
                          · refine q_iload F dX9_year_188 7 rfl ?_
                            refine q_aload_n F dX9_year_190 3 rfl ?_
                            refine q_iload F dX9_year_191 2 rfl ?_
                            refine q_bipush F dX9_year_193 (by decide) ?_
                            refine q_idiv F dX9_year_195 (by omega) ?_
                            refine q_iconst F dX9_year_196 ?_
                            refine q_irem F dX9_year_197 (by omega) ?_
                            refine q_iconst F dX9_year_198 ?_
                            refine q_iload F dX9_year_199 2 rfl ?_
                            refine q_iconst F dX9_year_201 ?_
                            refine q_idiv F dX9_year_202 (by omega) ?_
                            refine q_bipush F dX9_year_203 (by decide) ?_
                            refine q_irem F dX9_year_205 (by omega) ?_
                            refine q_iadd F dX9_year_206 ?_
                            refine q_callVI (n := 2) (T := TX9) F (c_X9_dish G hI M1 hm _ _ k zv pc (by omega) (by omega)) rfl rfl hm.1 gX9_year_X9_dish rfl ⟨by decide, by decide, by decide +kernel⟩ rfl ⟨rfl, rfl, Nat.le_of_ble_eq_true rfl, Nat.le_of_ble_eq_true rfl⟩ rfl (Nat.le_of_ble_eq_true rfl) dX9_year_207 (fun r207 N207 h207 p207 => ?_)
                            obtain ⟨l, hl1, hl2⟩ := p207.2.1
                            have kz207 : q_kz M1 N207 := q_kz_dish p207.2.2.1 p207.2.2.2
                            refine q_iadd F dX9_year_210 ?_
                            refine q_nm (fun v211 e211 => ?_)
                            refine q_istore F dX9_year_211 [(5, .int (q_I v211)), (8, .int (q_I v83)), (7, .int (q_I v74)), (4, .int (q_I v68)), (0, .ref (q_ad G 0)), (1, .int (q_I seed)), (2, .int (q_I m)), (3, .int (q_I w)), (6, .int (q_I k))] (Nat.le_of_ble_eq_true rfl) rfl ?_
                            obtain ⟨v213, e213⟩ : ∃ z_ : Int, z_ = k + 1 := ⟨_, rfl⟩
                            refine q_iinc F dX9_year_213 8 rfl e213 [(6, .int (q_I v213)), (5, .int (q_I v211)), (8, .int (q_I v83)), (7, .int (q_I v74)), (4, .int (q_I v68)), (0, .ref (q_ad G 0)), (1, .int (q_I seed)), (2, .int (q_I m)), (3, .int (q_I w))] (Nat.le_of_ble_eq_true rfl) rfl ?_
                            refine q_goto F 51 dX9_year_216 (by decide) ?_
                            refine q_drop [5, 6, 7, 8, 4, 1, 0] rfl ?_
                            exact ih51_1 _ (by omega) v68 v211 v213 N207 ⟨by omega, by
                                  rw [e213, show (k + 1).toNat = k.toNat + 1 by omega]
                                  have hTK := q_sR_TK (ke := M 0 4) (pl := v68 / 64 % 3) (p := 1 + v68 / 4 % 9) sR
                                  have hcR := q_cnt_R (q_has (q_TK (M 0 0) (M 0 4) (q_yr (q_hrT (M 0 0)) (M 0 0) (M 0 4) k.toNat (seed, q_T0 (M 1) (M 2) (M 3))).2 (v68 / 64 % 3) (1 + v68 / 4 % 9)))
                                  have hr : r207 = q_cnt (q_has (q_TK (M 0 0) (M 0 4) (q_yr (q_hrT (M 0 0)) (M 0 0) (M 0 4) k.toNat (seed, q_T0 (M 1) (M 2) (M 3))).2 (v68 / 64 % 3) (1 + v68 / 4 % 9))) := by rw [p207.1, t1, ke1, hTK]
                                  have hll : qt_l (q_dish (M 0 0) (M 0 4) (q_v9 M1) (v68 / 64 % 3) (1 + v68 / 4 % 9)) = M1 0 15 + ((1 + v68 / 4 % 9) - r207) := by
                                    show M1 0 15 + ((1 + v68 / 4 % 9) - q_cnt (q_has (q_TK (M 0 0) (M 0 4) (q_v9 M1) (v68 / 64 % 3) (1 + v68 / 4 % 9)))) = _
                                    rw [hTK, ← hr]
                                  have e15 : N207 0 15 = M1 0 15 + ((1 + v68 / 4 % 9) - r207) := by
                                    rw [← hll]
                                    rw [t1, ke1] at hl2
                                    rw [← hl2 (by omega)]
                                    exact congrArg qt_l hl1
                                  refine q_yrI_s hi51.2 h68 kz207 (q_zv_dish zv kz207 hl1) (q_pc_mo (q_pc_dish pc hl1) (by omega)) (show _ = q_dish (M 0 0) (M 0 4) (q_yr (q_hrT (M 0 0)) (M 0 0) (M 0 4) k.toNat (seed, q_T0 (M 1) (M 2) (M 3))).2 (v68 / 64 % 3) (1 + v68 / 4 % 9) from ?_) ?_ ?_ ?_ ?_ ?_
                                  · unfold q_dr
                                    rw [if_neg (by omega), if_neg (by omega), if_neg (by omega), if_neg]
                                    rw [← q_sR_ins sR, ← t1]
                                    exact c185
                                  · rw [hl1, t1, ke1]
                                    exact q_sR_dish sR
                                  · rw [e15, hr]
                                    show _ = qt_l (q_yr (q_hrT (M 0 0)) (M 0 0) (M 0 4) k.toNat (seed, q_T0 (M 1) (M 2) (M 3))).2 + _
                                    rw [← hl]
                                  · rw [q_s6_dish, e211, hr, ← he]
                                  · omega
                                  · omega⟩ rfl
                      · refine q_aload_n F dX9_year_150 3 rfl ?_
                        refine q_getr (T := TX9) (ref := "LeastHungryModel") F huX9 rfl hm.1 11 (by decide) (by decide +kernel) rfl rfl dX9_year_151 ?_
                        refine q_iload F dX9_year_154 0 rfl ?_
                        refine q_iload F dX9_year_156 2 rfl ?_
                        refine q_bipush F dX9_year_158 (by decide) ?_
                        refine q_idiv F dX9_year_160 (by omega) ?_
                        refine q_bipush F dX9_year_161 (by decide) ?_
                        refine q_irem F dX9_year_163 (by omega) ?_
                        refine q_iast F hm.2.2.2.2.2.2.2.2.1 (Nat.le_of_ble_eq_true rfl) (by omega) (by omega) dX9_year_164 (fun N164 eN164 => ?_)
                        refine q_goto F 213 dX9_year_165 (by decide) ?_
                        obtain ⟨v213, e213⟩ : ∃ z_ : Int, z_ = k + 1 := ⟨_, rfl⟩
                        refine q_iinc F dX9_year_213 8 rfl e213 [(6, .int (q_I v213)), (8, .int (q_I v83)), (7, .int (q_I v74)), (4, .int (q_I v68)), (0, .ref (q_ad G 0)), (1, .int (q_I seed)), (2, .int (q_I m)), (3, .int (q_I w)), (5, .int (q_I e))] (Nat.le_of_ble_eq_true rfl) rfl ?_
                        refine q_goto F 51 dX9_year_216 (by decide) ?_
                        refine q_drop [4, 5, 6, 7, 3, 8, 0] rfl ?_
                        exact ih51_1 _ (by omega) v68 e v213 N164 ⟨by omega, by
                              rw [e213, show (k + 1).toNat = k.toNat + 1 by omega]
                              have hh : q_has (M 0 0) v83 = true := by rw [← t1]; exact c147
                              refine q_yrI_s hi51.2 h68 (q_kz_e eN164 (by omega)) (q_zv_fe zv eN164 (by omega)) (by rw [eN164]; exact q_pc_fe (q_pc_mo pc (by omega))) (show _ = q_feT (q_yr (q_hrT (M 0 0)) (M 0 0) (M 0 4) k.toNat (seed, q_T0 (M 1) (M 2) (M 3))).2 v83 (v68 / 32 % 10) from ?_) ?_ (by rw [eN164, q_up_ne (by omega)]; exact hl) (by exact he) (by omega) (by rw [eN164, q_up_ne (by omega)]; omega)
                              · unfold q_dr
                                rw [if_neg (by omega), if_neg (by omega), if_pos (by omega), ← e83, if_pos hh]
                              · rw [eN164, q_v9_fe]
                                exact q_sR_fe sR⟩ rfl
                  · refine q_aload_n F dX9_year_119 3 rfl ?_
                    refine q_iload F dX9_year_120 0 rfl ?_
                    refine q_iload F dX9_year_122 2 rfl ?_
                    refine q_bipush F dX9_year_124 (by decide) ?_
                    refine q_idiv F dX9_year_126 (by omega) ?_
                    refine q_iconst F dX9_year_127 ?_
                    refine q_irem F dX9_year_128 (by omega) ?_
                    refine q_callVV (n := 2) (T := TX9) F (c_X9_go G hI M1 hm v83 _ ⟨h83, xh83, by omega⟩) rfl rfl hm.1 gX9_year_X9_go rfl ⟨by decide, by decide, by decide +kernel⟩ rfl ⟨rfl, rfl, Nat.le_of_ble_eq_true rfl, Nat.le_of_ble_eq_true rfl⟩ rfl (Nat.le_of_ble_eq_true rfl) dX9_year_129 (fun N129 p129 => ?_)
                    refine q_goto F 213 dX9_year_132 (by decide) ?_
                    obtain ⟨v213, e213⟩ : ∃ z_ : Int, z_ = k + 1 := ⟨_, rfl⟩
                    refine q_iinc F dX9_year_213 8 rfl e213 [(6, .int (q_I v213)), (8, .int (q_I v83)), (7, .int (q_I v74)), (4, .int (q_I v68)), (0, .ref (q_ad G 0)), (1, .int (q_I seed)), (2, .int (q_I m)), (3, .int (q_I w)), (5, .int (q_I e))] (Nat.le_of_ble_eq_true rfl) rfl ?_
                    refine q_goto F 51 dX9_year_216 (by decide) ?_
                    refine q_drop [4, 5, 6, 7, 3, 8, 0] rfl ?_
                    exact ih51_1 _ (by omega) v68 e v213 N129 ⟨by omega, by
                          rw [e213, show (k + 1).toNat = k.toNat + 1 by omega]
                          have hW : q_goW (M 0 0) (q_v9 M1) v83 (v68 / 32 % 3) = 0 := by rw [← t1]; exact c116
                          have hgi := q_has_in (q_goW_th hW)
                          refine q_yrI_s hi51.2 h68 (by rw [p129]; exact q_kz_tr (q_kz_up (by omega)) (q_kz_up (by omega))) (by rw [p129]; exact q_zv_go zv hgi (by omega)) (by rw [p129]; exact q_pc_go (q_pc_mo pc (by omega))) (show _ = q_goT (q_yr (q_hrT (M 0 0)) (M 0 0) (M 0 4) k.toNat (seed, q_T0 (M 1) (M 2) (M 3))).2 v83 (v68 / 32 % 3) from ?_) ?_ (by rw [p129, q_up_ne (by omega), q_up_ne (by omega)]; exact hl) (by exact he) (by omega) (by rw [p129, q_up_ne (by omega), q_up_ne (by omega)]; omega)
                          · unfold q_dr
                            rw [if_neg (by omega), if_pos (by omega), ← e83]
                            unfold q_wg
                            rw [if_pos (by rw [← q_sR_W sR]; exact hW)]
                          · rw [p129, q_v9_go]
                            exact q_sR_go sR (q_goW_th hW)⟩ rfl
              · refine q_aload_n F dX9_year_90 3 rfl ?_
                refine q_callVV (n := 0) (T := TX9) F (c_X9_hour G hI M1 hm zv) rfl rfl hm.1 gX9_year_X9_hour rfl ⟨by decide, by decide, by decide +kernel⟩ rfl ⟨rfl, rfl, Nat.le_of_ble_eq_true rfl, Nat.le_of_ble_eq_true rfl⟩ rfl (Nat.le_of_ble_eq_true rfl) dX9_year_91 (fun N91 p91 => ?_)
                refine q_goto F 213 dX9_year_94 (by decide) ?_
                obtain ⟨v213, e213⟩ : ∃ z_ : Int, z_ = k + 1 := ⟨_, rfl⟩
                refine q_iinc F dX9_year_213 8 rfl e213 [(6, .int (q_I v213)), (8, .int (q_I v83)), (7, .int (q_I v74)), (4, .int (q_I v68)), (0, .ref (q_ad G 0)), (1, .int (q_I seed)), (2, .int (q_I m)), (3, .int (q_I w)), (5, .int (q_I e))] (Nat.le_of_ble_eq_true rfl) rfl ?_
                refine q_goto F 51 dX9_year_216 (by decide) ?_
                refine q_drop [4, 5, 6, 7, 3, 8, 0] rfl ?_
                exact ih51_1 _ (by omega) v68 e v213 N91 ⟨by omega, by
                      rw [e213, show (k + 1).toNat = k.toNat + 1 by omega]
                      exact q_yrI_s hi51.2 h68 (q_kz_fr p91.1 (by omega)) (q_zv_ho zv p91.1 p91.2) (q_pc_ho (q_pc_mo pc (by omega)) p91.1) (show _ = q_hoT (q_hrT (M 0 0)) (q_yr (q_hrT (M 0 0)) (M 0 0) (M 0 4) k.toNat (seed, q_T0 (M 1) (M 2) (M 3))).2 from by unfold q_dr; rw [if_pos (by omega)]) (by rw [q_v9_ho (th := M 0 0) p91.1 (by rw [p91.2, t1])]; exact q_sR_ho sR) (by rw [p91.1 0 (by omega)]; exact hl) (by exact he) (by omega) (by rw [p91.1 0 (by omega)]; omega)⟩ rfl
        refine q_drop [3, 4, 5, 6, 2, 1, 0] rfl ?_
        exact lp51_1 _ seed 0 0 N45 ⟨by omega, kz45, zv45, pc45, rfl, sR45, z45, rfl, by omega, ⟨by omega, by omega⟩, by rw [z45]; exact ⟨by omega, by omega⟩⟩ rfl
      · refine q_bipush F dX9_year_30 (by decide) ?_
        exact q_iret F FI dX9_year_32 (by omega) ⟨by unfold S_year; rw [if_neg (fun h => absurd h.2.2 (q_df c27))], q_kz_rf⟩

set_option maxHeartbeats 4000000 in
set_option maxRecDepth 100000 in
theorem c_X9_host (G : q_G) (hI : q_inj G) (M : q_M) (hm : q_mo G) (hZ : q_Z M) : q_CI G yX9_host wsX9_host ({ frames := 6, cells := 0, slots := 0, locals := 140 } : Room) [.ref (q_ad G 0)] M (fun z M' => z = S_host (M 0 0) (q_flt (M 6) (M 0 8) 61 0) (fun v => q_NI (M 0 0) (M 0 4) (M 6) (M 0 8) v (M 1) (M 2) (M 3)) ∧ q_kz M M') := by
  refine q_CI.of hI (by decide) rfl RX9 rfl [(0, .ref (q_ad G 0))] rfl (Nat.le_of_ble_eq_true rfl) (fun E F FI => ?_)
  refine q_MRof (fun hM => ?_)
  obtain ⟨⟨xt, xk⟩, ⟨xh, xf, xa⟩, xF, xs, xp⟩ := id hZ
  have hz := hZ.1
  refine q_aload_n F dX9_host_0 0 rfl ?_
  refine q_callVI (n := 0) (T := TX9) F (c_X9_barOfNight G hI M hm (by assumption)) rfl rfl hm.1 gX9_host_X9_barOfNight rfl ⟨by decide, by decide, by decide +kernel⟩ rfl ⟨rfl, rfl, Nat.le_of_ble_eq_true rfl, Nat.le_of_ble_eq_true rfl⟩ rfl (Nat.le_of_ble_eq_true rfl) dX9_host_1 (fun r1 N1 h1 p1 => ?_)
  refine q_if_ge F 10 dX9_host_4 (by decide) (by omega) (fun c4 => ?_) (fun c4 => ?_)
  · have hbar : S_bar (q_flt (M 6) (M 0 8) 61 0) (q_NI (M 0 0) (M 0 4) (M 6) (M 0 8) 0 (M 1) (M 2) (M 3)) := by
      by_cases h : S_bar (q_flt (M 6) (M 0 8) 61 0) (q_NI (M 0 0) (M 0 4) (M 6) (M 0 8) 0 (M 1) (M 2) (M 3))
      · exact h
      · have := p1.2.2 h
        omega
    have q1 := p1.2.1 hbar
    have hbar2 : q_flt (M 6) (M 0 8) 61 0 = -6 ∧ (q_NI (M 0 0) (M 0 4) (M 6) (M 0 8) 0 (M 1) (M 2) (M 3)).1 = -6 := hbar
    obtain ⟨-, zv, sm⟩ := q1
    have hfl := hbar2.1
    refine q_aload_n F dX9_host_10 0 rfl ?_
    refine q_callVP (n := 0) (T := TX9) F (c_X9_starved G hI N1 hm zv) rfl rfl hm.1 gX9_host_X9_starved rfl ⟨by decide, by decide, by decide +kernel⟩ rfl ⟨rfl, rfl, Nat.le_of_ble_eq_true rfl, Nat.le_of_ble_eq_true rfl⟩ rfl (Nat.le_of_ble_eq_true rfl) dX9_host_11 (fun h11 => ?_)
    have st11 := q_star9 (N := N1) (M := M) p1.1.2.1 sm
    refine q_nm (fun v14 e14 => ?_)
    refine q_istore_n F dX9_host_14 [(1, .int (q_I v14)), (0, .ref (q_ad G 0))] (Nat.le_of_ble_eq_true rfl) rfl ?_
    refine q_bipush F dX9_host_15 (by decide) ?_
    refine q_istore_n F dX9_host_17 [(2, .int (q_I 9)), (1, .int (q_I v14)), (0, .ref (q_ad G 0))] (Nat.le_of_ble_eq_true rfl) rfl ?_
    have lp18_1 : ∀ (k18_1 : Nat) (v : Int) (M1 : q_M), ((0 ≤ v ∧ v ≤ 9) ∧ q_hs (q_hsP (fun v => q_NI (M 0 0) (M 0 4) (M 6) (M 0 8) v (M 1) (M 2) (M 3)) (M 0 0)) v.toNat = q_hs (q_hsP (fun v => q_NI (M 0 0) (M 0 4) (M 6) (M 0 8) v (M 1) (M 2) (M 3)) (M 0 0)) 9 ∧ q_kz M M1) → v.toNat = k18_1 → q_Y G E 3 M1 [(0, .ref (q_ad G 0)), (1, .int (q_I v14)), (2, .int (q_I v))] 18 [] := by
      intro k18_1
      induction k18_1 using Nat.strongRecOn with
      | _ k18_1 ih18_1 =>
        intro v  M1 hi18 hk18
        refine q_MRof (fun hM18 => ?_)
        have kz := hi18.2.2
        refine q_iload_n F dX9_host_18 2 rfl ?_
        refine q_if_le F 47 dX9_host_19 (by decide) (by omega) (fun c19 => ?_) (fun c19 => ?_)
        · refine q_iconst F dX9_host_47 ?_
          exact q_iret F FI dX9_host_48 (by omega) ⟨by
                have hu := hi18.2.1
                rw [show v.toNat = 0 by omega] at hu
                unfold S_host
                rw [if_pos (show _ ∧ _ from hbar2), ← hu]
                rfl, kz⟩
        · refine q_aload_n F dX9_host_22 0 rfl ?_
          refine q_iload_n F dX9_host_23 2 rfl ?_
          refine q_callVI (n := 1) (T := TX9) F (c_X9_goNight G hI M1 hm v (q_Z_kz hZ kz) (by rw [kz.1 6 (by omega), kz.2.2.2.2]; exact hfl) (by omega)) rfl rfl hm.1 gX9_host_X9_goNight rfl ⟨by decide, by decide, by decide +kernel⟩ rfl ⟨rfl, rfl, Nat.le_of_ble_eq_true rfl, Nat.le_of_ble_eq_true rfl⟩ rfl (Nat.le_of_ble_eq_true rfl) dX9_host_24 (fun r24 N24 h24 p24 => ?_)
          refine q_pop F dX9_host_27 rfl ?_
          have zv24 := p24.2.1
          have kz24 := q_kz_tr kz p24.1
          have sm24 := p24.2.2.2.2.1
          rw [kz.1 1 (by omega), kz.1 2 (by omega), kz.1 3 (by omega), kz.1 6 (by omega), kz.2.1, kz.2.2.1, kz.2.2.2.2] at sm24
          have st24 := q_star9 (N := N24) (M := M) kz24.2.1 sm24
          refine q_aload_n F dX9_host_28 0 rfl ?_
          refine q_callVP (n := 0) (T := TX9) F (c_X9_starved G hI N24 hm zv24) rfl rfl hm.1 gX9_host_X9_starved rfl ⟨by decide, by decide, by decide +kernel⟩ rfl ⟨rfl, rfl, Nat.le_of_ble_eq_true rfl, Nat.le_of_ble_eq_true rfl⟩ rfl (Nat.le_of_ble_eq_true rfl) dX9_host_29 (fun h29 => ?_)
          refine q_iload_n F dX9_host_32 1 rfl ?_
          refine q_iconst F dX9_host_33 ?_
          refine q_ixor F dX9_host_34 (fun z34 e34 h34 => ?_)
          refine q_iand F dX9_host_35 (fun z35 e35 h35 => ?_)
          refine q_if_ne F 41 dX9_host_36 (by decide) (by omega) (fun c36 => ?_) (fun c36 => ?_)
          · obtain ⟨v41, e41⟩ : ∃ z_ : Int, z_ = v + (-1) := ⟨_, rfl⟩
            refine q_iinc F dX9_host_41 2 rfl e41 [(2, .int (q_I v41)), (0, .ref (q_ad G 0)), (1, .int (q_I v14))] (Nat.le_of_ble_eq_true rfl) rfl ?_
            refine q_goto F 18 dX9_host_44 (by decide) ?_
            refine q_drop [1, 2, 0] rfl ?_
            exact ih18_1 _ (by omega) v41 N24 ⟨by omega, by
                  have hu := hi18.2.1
                  rw [show v.toNat = (v - 1).toNat + 1 by omega, q_hs_s, if_neg] at hu
                  · rw [← hu, e41]
                    rfl
                  · rw [show (((v - 1).toNat : Nat) : Int) + 1 = v by omega]
                    unfold q_hsP
                    show ¬ decide (q_and (S_star (M 0 0) (qt_h ((q_NI (M 0 0) (M 0 4) (M 6) (M 0 8) v (M 1) (M 2) (M 3))).2.2)) (q_xor (S_star (M 0 0) (qt_h ((q_NI (M 0 0) (M 0 4) (M 6) (M 0 8) 0 (M 1) (M 2) (M 3))).2.2)) (-1)) = 0) = true
                    rw [← st24, ← st11, ← e14, ← e34, ← e35]
                    simpa using c36, kz24⟩ rfl
          · refine q_iload_n F dX9_host_39 2 rfl ?_
            exact q_iret F FI dX9_host_40 (by omega) ⟨by
                  have hu := hi18.2.1
                  rw [show v.toNat = (v - 1).toNat + 1 by omega, q_hs_s, if_pos] at hu
                  · unfold S_host
                    rw [if_pos (show _ ∧ _ from hbar2), ← hu]
                    omega
                  · rw [show (((v - 1).toNat : Nat) : Int) + 1 = v by omega]
                    unfold q_hsP
                    show decide (q_and (S_star (M 0 0) (qt_h ((q_NI (M 0 0) (M 0 4) (M 6) (M 0 8) v (M 1) (M 2) (M 3))).2.2)) (q_xor (S_star (M 0 0) (qt_h ((q_NI (M 0 0) (M 0 4) (M 6) (M 0 8) 0 (M 1) (M 2) (M 3))).2.2)) (-1)) = 0) = true
                    rw [← st24, ← st11, ← e14, ← e34, ← e35]
                    simpa using c36, kz24⟩
    refine q_drop [2, 1, 0] rfl ?_
    exact lp18_1 _ 9 N1 ⟨by omega, rfl, p1.1⟩ rfl
  · have hnb : ¬ S_bar (q_flt (M 6) (M 0 8) 61 0) (q_NI (M 0 0) (M 0 4) (M 6) (M 0 8) 0 (M 1) (M 2) (M 3)) := fun h => by have := (p1.2.1 h).1; omega
    refine q_bipush F dX9_host_7 (by decide) ?_
    exact q_iret F FI dX9_host_9 (by omega) ⟨by unfold S_host; rw [if_neg (show ¬ (_ ∧ _) from hnb)], p1.1⟩

set_option maxHeartbeats 4000000 in
set_option maxRecDepth 100000 in
theorem c_X9_image (G : q_G) (hI : q_inj G) (M : q_M) (hm : q_mo G) (n : Int) (hnR : -2147483648 ≤ n ∧ n ≤ 2147483647) : q_CI G yX9_image wsX9_image ({ frames := 1, cells := 0, slots := 0, locals := 22 } : Room) [.ref (q_ad G 0), .int (q_I n)] M (fun z M' => (¬ (0 ≤ n ∧ n ≤ 1) → z = -2 ∧ M' = M) ∧ (0 ≤ n ∧ n ≤ 1 → z = 1 ∧ q_im M M' n)) := by
  refine q_CI.of hI (by decide) rfl RX9 rfl [(0, .ref (q_ad G 0)), (1, .int (q_I n))] rfl (Nat.le_of_ble_eq_true rfl) (fun E F FI => ?_)
  have huX9 : ∀ w ∈ wsX90, w ∈ wsX9_image := by decide +kernel
  refine q_MRof (fun hM => ?_)
  refine q_iload_n F dX9_image_0 1 rfl ?_
  refine q_iconst F dX9_image_1 ?_
  refine q_iconst F dX9_image_2 ?_
  refine q_callSP (n := 3) F (c_X9_in G hI M n 0 1 (by omega)) rfl gX9_image_X9_in ⟨by decide, by decide, by decide +kernel⟩ rfl ⟨rfl, rfl, Nat.le_of_ble_eq_true rfl, Nat.le_of_ble_eq_true rfl⟩ rfl (Nat.le_of_ble_eq_true rfl) dX9_image_3 (fun h3 => ?_)
  refine q_ifb_ne F 12 dX9_image_6 (by decide) (fun c6 => ?_) (fun c6 => ?_)
  · have d1 := q_dt c6
    refine q_bipush F dX9_image_12 (by decide) ?_
    refine q_iload_n F dX9_image_14 1 rfl ?_
    refine q_imul F dX9_image_15 ?_
    refine q_nm (fun v16 e16 => ?_)
    refine q_istore_n F dX9_image_16 [(2, .int (q_I v16)), (0, .ref (q_ad G 0)), (1, .int (q_I n))] (Nat.le_of_ble_eq_true rfl) rfl ?_
    refine q_iconst F dX9_image_17 ?_
    refine q_istore_n F dX9_image_18 [(3, .int (q_I 0)), (2, .int (q_I v16)), (0, .ref (q_ad G 0)), (1, .int (q_I n))] (Nat.le_of_ble_eq_true rfl) rfl ?_
    have lp19_1 : ∀ (k19_1 : Nat) (g : Int) (M1 : q_M), ((0 ≤ g ∧ g ≤ 6) ∧ (∀ j, j ≠ 17 → M1 j = M j) ∧ (∀ i, ¬ (50 * n ≤ i ∧ i < 50 * n + 43) → M1 17 i = M 17 i) ∧ (∀ y, 0 ≤ y → y < g → M1 17 (50 * n + y) = M 1 y ∧ M1 17 (50 * n + 6 + y) = M 2 y ∧ M1 17 (50 * n + 12 + y) = M 3 y ∧ M1 17 (50 * n + 18 + y) = M 4 y)) → (6 - g).toNat = k19_1 → q_Y G E 4 M1 [(0, .ref (q_ad G 0)), (1, .int (q_I n)), (2, .int (q_I v16)), (3, .int (q_I g))] 19 [] := by
      intro k19_1
      induction k19_1 using Nat.strongRecOn with
      | _ k19_1 ih19_1 =>
        intro g  M1 hi19 hk19
        refine q_MRof (fun hM19 => ?_)
        have hv16 : v16 = 50 * n := e16
        refine q_iload_n F dX9_image_19 3 rfl ?_
        refine q_bipush F dX9_image_20 (by decide) ?_
        refine q_icmp_ge F 96 dX9_image_22 (by decide) (by omega) (fun c22 => ?_) (fun c22 => ?_)
        · refine q_iconst F dX9_image_96 ?_
          refine q_istore_n F dX9_image_97 [(3, .int (q_I 0)), (0, .ref (q_ad G 0)), (1, .int (q_I n)), (2, .int (q_I v16))] (Nat.le_of_ble_eq_true rfl) rfl ?_
          have lp98_2 : ∀ (k98_2 : Nat) (k : Int) (M2 : q_M), ((0 ≤ k ∧ k ≤ 16) ∧ (∀ j, j ≠ 17 → M2 j = M1 j) ∧ (∀ i, ¬ (50 * n + 24 ≤ i ∧ i < 50 * n + 24 + 16) → M2 17 i = M1 17 i) ∧ (∀ x, 0 ≤ x → x < k → M2 17 (50 * n + 24 + x) = M 5 x)) → (16 - k).toNat = k98_2 → q_Y G E 4 M2 [(0, .ref (q_ad G 0)), (1, .int (q_I n)), (2, .int (q_I v16)), (3, .int (q_I k))] 98 [] := by
            intro k98_2
            induction k98_2 using Nat.strongRecOn with
            | _ k98_2 ih98_2 =>
              intro k  M2 hi98 hk98
              refine q_MRof (fun hM98 => ?_)
              refine q_iload_n F dX9_image_98 3 rfl ?_
              refine q_bipush F dX9_image_99 (by decide) ?_
              refine q_icmp_ge F 127 dX9_image_101 (by decide) (by omega) (fun c101 => ?_) (fun c101 => ?_)
              · refine q_aload_n F dX9_image_127 0 rfl ?_
                refine q_getr (T := TX9) (ref := "LeastHungryModel") F huX9 rfl hm.1 25 (by decide) (by decide +kernel) rfl rfl dX9_image_128 ?_
                refine q_iload_n F dX9_image_131 2 rfl ?_
                refine q_bipush F dX9_image_132 (by decide) ?_
                refine q_iadd F dX9_image_134 ?_
                refine q_aload_n F dX9_image_135 0 rfl ?_
                refine q_geti (T := TX9) (ref := "LeastHungryModel") F huX9 rfl hm.1 0 (by decide) (by decide +kernel) rfl 0 rfl rfl dX9_image_136 (fun h136 => ?_)
                refine q_iast F hm.2.2.2.2.2.2.2.2.2.2.2.2.2.2.2.2.2.1 (Nat.le_of_ble_eq_true rfl) (by omega) (by omega) dX9_image_139 (fun N139 eN139 => ?_)
                refine q_aload_n F dX9_image_140 0 rfl ?_
                refine q_getr (T := TX9) (ref := "LeastHungryModel") F huX9 rfl hm.1 25 (by decide) (by decide +kernel) rfl rfl dX9_image_141 ?_
                refine q_iload_n F dX9_image_144 2 rfl ?_
                refine q_bipush F dX9_image_145 (by decide) ?_
                refine q_iadd F dX9_image_147 ?_
                refine q_aload_n F dX9_image_148 0 rfl ?_
                refine q_geti (T := TX9) (ref := "LeastHungryModel") F huX9 rfl hm.1 4 (by decide) (by decide +kernel) rfl 4 rfl rfl dX9_image_149 (fun h149 => ?_)
                refine q_iast F hm.2.2.2.2.2.2.2.2.2.2.2.2.2.2.2.2.2.1 (Nat.le_of_ble_eq_true rfl) (by omega) (by omega) dX9_image_152 (fun N152 eN152 => ?_)
                refine q_aload_n F dX9_image_153 0 rfl ?_
                refine q_getr (T := TX9) (ref := "LeastHungryModel") F huX9 rfl hm.1 25 (by decide) (by decide +kernel) rfl rfl dX9_image_154 ?_
                refine q_iload_n F dX9_image_157 2 rfl ?_
                refine q_bipush F dX9_image_158 (by decide) ?_
                refine q_iadd F dX9_image_160 ?_
                refine q_aload_n F dX9_image_161 0 rfl ?_
                refine q_geti (T := TX9) (ref := "LeastHungryModel") F huX9 rfl hm.1 6 (by decide) (by decide +kernel) rfl 6 rfl rfl dX9_image_162 (fun h162 => ?_)
                refine q_iast F hm.2.2.2.2.2.2.2.2.2.2.2.2.2.2.2.2.2.1 (Nat.le_of_ble_eq_true rfl) (by omega) (by omega) dX9_image_165 (fun N165 eN165 => ?_)
                refine q_aload_n F dX9_image_166 0 rfl ?_
                refine q_getr (T := TX9) (ref := "LeastHungryModel") F huX9 rfl hm.1 26 (by decide) (by decide +kernel) rfl rfl dX9_image_167 ?_
                refine q_iload_n F dX9_image_170 1 rfl ?_
                refine q_iconst F dX9_image_171 ?_
                refine q_bast F hm.2.2.2.2.2.2.2.2.2.2.2.2.2.2.2.2.2.2 (Nat.le_of_ble_eq_true rfl) (by omega) (by omega) dX9_image_172 (fun N172 eN172 => ?_)
                refine q_iconst F dX9_image_173 ?_
                exact q_iret F FI dX9_image_174 (by omega) ⟨fun h => absurd d1 h, fun _ => ⟨rfl, by
                      have g0 : M2 0 = M 0 := (hi98.2.1 0 (by omega)).trans (hi19.2.1 0 (by omega))
                      have ne : ∀ j, j ≠ 17 → j ≠ 18 → N172 j = M j := fun j h1 h2 => by
                        rw [eN172, q_up_ne h2, eN165, q_up_ne h1, eN152, q_up_ne h1, eN139, q_up_ne h1]; exact (hi98.2.1 j h1).trans (hi19.2.1 j h1)
                      have h139 : N139 0 = M 0 := by rw [eN139, q_up_ne (by omega), g0]
                      have h152 : N152 0 = M 0 := by rw [eN152, q_up_ne (by omega), h139]
                      have r17 : ∀ i, N172 17 i = if i = 50 * n + 42 then M 0 6 else if i = 50 * n + 41 then M 0 4 else if i = 50 * n + 40 then M 0 0 else M2 17 i := fun i => by
                        rw [eN172, q_up_ne (by omega), eN165, q_up_at, h152, eN152, q_up_at, h139, eN139, q_up_at, g0, e16]
                      refine ⟨ne, fun i hi => ?_, fun i hi => ?_, ?_, fun y h0 h1 => ?_, fun z h0 h1 => ?_, ?_, ?_, ?_⟩
                      · rw [r17, if_neg (by omega), if_neg (by omega), if_neg (by omega), hi98.2.2.1 i (by omega)]; exact hi19.2.2.1 i hi
                      · rw [eN172, q_up_at, if_neg hi, eN165, q_up_ne (by omega), eN152, q_up_ne (by omega), eN139, q_up_ne (by omega), hi98.2.1 18 (by omega), hi19.2.1 18 (by omega)]
                      · rw [eN172, q_up_at, if_pos rfl]
                      · have hh := hi19.2.2.2 y h0 (by omega)
                        rw [r17, if_neg (by omega), if_neg (by omega), if_neg (by omega), r17, if_neg (by omega), if_neg (by omega), if_neg (by omega), r17, if_neg (by omega), if_neg (by omega), if_neg (by omega), r17, if_neg (by omega), if_neg (by omega), if_neg (by omega), hi98.2.2.1 _ (by omega), hi98.2.2.1 _ (by omega), hi98.2.2.1 _ (by omega), hi98.2.2.1 _ (by omega)]
                        exact hh
                      · rw [r17, if_neg (by omega), if_neg (by omega), if_neg (by omega)]; exact hi98.2.2.2 z h0 (by omega)
                      · rw [r17, if_neg (by omega), if_neg (by omega), if_pos rfl]
                      · rw [r17, if_neg (by omega), if_pos rfl]
                      · rw [r17, if_pos rfl]⟩⟩
              · refine q_aload_n F dX9_image_104 0 rfl ?_
                refine q_getr (T := TX9) (ref := "LeastHungryModel") F huX9 rfl hm.1 25 (by decide) (by decide +kernel) rfl rfl dX9_image_105 ?_
                refine q_iload_n F dX9_image_108 2 rfl ?_
                refine q_bipush F dX9_image_109 (by decide) ?_
                refine q_iadd F dX9_image_111 ?_
                refine q_iload_n F dX9_image_112 3 rfl ?_
                refine q_iadd F dX9_image_113 ?_
                refine q_aload_n F dX9_image_114 0 rfl ?_
                refine q_getr (T := TX9) (ref := "LeastHungryModel") F huX9 rfl hm.1 7 (by decide) (by decide +kernel) rfl rfl dX9_image_115 ?_
                refine q_iload_n F dX9_image_118 3 rfl ?_
                refine q_iald F hm.2.2.2.2.2.1 (Nat.le_of_ble_eq_true rfl) (by omega) dX9_image_119 (fun h119 => ?_)
                refine q_iast F hm.2.2.2.2.2.2.2.2.2.2.2.2.2.2.2.2.2.1 (Nat.le_of_ble_eq_true rfl) (by omega) (by omega) dX9_image_120 (fun N120 eN120 => ?_)
                obtain ⟨v121, e121⟩ : ∃ z_ : Int, z_ = k + 1 := ⟨_, rfl⟩
                refine q_iinc F dX9_image_121 3 rfl e121 [(3, .int (q_I v121)), (0, .ref (q_ad G 0)), (1, .int (q_I n)), (2, .int (q_I v16))] (Nat.le_of_ble_eq_true rfl) rfl ?_
                refine q_goto F 98 dX9_image_124 (by decide) ?_
                refine q_drop [1, 2, 3, 0] rfl ?_
                exact ih98_2 _ (by omega) v121 N120 ⟨by omega, fun j hj => by rw [eN120, q_up_ne hj]; exact hi98.2.1 j hj, fun i hi => by rw [eN120, q_up_at, if_neg (by omega)]; exact hi98.2.2.1 i hi, fun x h0 h1 => by
                      rw [eN120, q_up_at]
                      by_cases hx : x = k
                      · rw [if_pos (by omega), hi98.2.1 5 (by omega), hi19.2.1 5 (by omega), hx]
                      · rw [if_neg (by omega)]; exact hi98.2.2.2 x h0 (by omega)⟩ rfl
          refine q_drop [1, 2, 3, 0] rfl ?_
          exact lp98_2 _ 0 M1 ⟨by omega, fun _ _ => rfl, fun _ _ => rfl, fun x h0 h1 => by omega⟩ rfl
        · refine q_aload_n F dX9_image_25 0 rfl ?_
          refine q_getr (T := TX9) (ref := "LeastHungryModel") F huX9 rfl hm.1 25 (by decide) (by decide +kernel) rfl rfl dX9_image_26 ?_
          refine q_iload_n F dX9_image_29 2 rfl ?_
          refine q_iload_n F dX9_image_30 3 rfl ?_
          refine q_iadd F dX9_image_31 ?_
          refine q_aload_n F dX9_image_32 0 rfl ?_
          refine q_getr (T := TX9) (ref := "LeastHungryModel") F huX9 rfl hm.1 1 (by decide) (by decide +kernel) rfl rfl dX9_image_33 ?_
          refine q_iload_n F dX9_image_36 3 rfl ?_
          refine q_iald F hm.2.1 (Nat.le_of_ble_eq_true rfl) (by omega) dX9_image_37 (fun h37 => ?_)
          refine q_iast F hm.2.2.2.2.2.2.2.2.2.2.2.2.2.2.2.2.2.1 (Nat.le_of_ble_eq_true rfl) (by omega) (by omega) dX9_image_38 (fun N38 eN38 => ?_)
          refine q_aload_n F dX9_image_39 0 rfl ?_
          refine q_getr (T := TX9) (ref := "LeastHungryModel") F huX9 rfl hm.1 25 (by decide) (by decide +kernel) rfl rfl dX9_image_40 ?_
          refine q_iload_n F dX9_image_43 2 rfl ?_
          refine q_bipush F dX9_image_44 (by decide) ?_
          refine q_iadd F dX9_image_46 ?_
          refine q_iload_n F dX9_image_47 3 rfl ?_
          refine q_iadd F dX9_image_48 ?_
          refine q_aload_n F dX9_image_49 0 rfl ?_
          refine q_getr (T := TX9) (ref := "LeastHungryModel") F huX9 rfl hm.1 2 (by decide) (by decide +kernel) rfl rfl dX9_image_50 ?_
          refine q_iload_n F dX9_image_53 3 rfl ?_
          refine q_iald F hm.2.2.1 (Nat.le_of_ble_eq_true rfl) (by omega) dX9_image_54 (fun h54 => ?_)
          refine q_iast F hm.2.2.2.2.2.2.2.2.2.2.2.2.2.2.2.2.2.1 (Nat.le_of_ble_eq_true rfl) (by omega) (by omega) dX9_image_55 (fun N55 eN55 => ?_)
          refine q_aload_n F dX9_image_56 0 rfl ?_
          refine q_getr (T := TX9) (ref := "LeastHungryModel") F huX9 rfl hm.1 25 (by decide) (by decide +kernel) rfl rfl dX9_image_57 ?_
          refine q_iload_n F dX9_image_60 2 rfl ?_
          refine q_bipush F dX9_image_61 (by decide) ?_
          refine q_iadd F dX9_image_63 ?_
          refine q_iload_n F dX9_image_64 3 rfl ?_
          refine q_iadd F dX9_image_65 ?_
          refine q_aload_n F dX9_image_66 0 rfl ?_
          refine q_getr (T := TX9) (ref := "LeastHungryModel") F huX9 rfl hm.1 3 (by decide) (by decide +kernel) rfl rfl dX9_image_67 ?_
          refine q_iload_n F dX9_image_70 3 rfl ?_
          refine q_iald F hm.2.2.2.1 (Nat.le_of_ble_eq_true rfl) (by omega) dX9_image_71 (fun h71 => ?_)
          refine q_iast F hm.2.2.2.2.2.2.2.2.2.2.2.2.2.2.2.2.2.1 (Nat.le_of_ble_eq_true rfl) (by omega) (by omega) dX9_image_72 (fun N72 eN72 => ?_)
          refine q_aload_n F dX9_image_73 0 rfl ?_
          refine q_getr (T := TX9) (ref := "LeastHungryModel") F huX9 rfl hm.1 25 (by decide) (by decide +kernel) rfl rfl dX9_image_74 ?_
          refine q_iload_n F dX9_image_77 2 rfl ?_
          refine q_bipush F dX9_image_78 (by decide) ?_
          refine q_iadd F dX9_image_80 ?_
          refine q_iload_n F dX9_image_81 3 rfl ?_
          refine q_iadd F dX9_image_82 ?_
          refine q_aload_n F dX9_image_83 0 rfl ?_
          refine q_getr (T := TX9) (ref := "LeastHungryModel") F huX9 rfl hm.1 5 (by decide) (by decide +kernel) rfl rfl dX9_image_84 ?_
          refine q_iload_n F dX9_image_87 3 rfl ?_
          refine q_iald F hm.2.2.2.2.1 (Nat.le_of_ble_eq_true rfl) (by omega) dX9_image_88 (fun h88 => ?_)
          refine q_iast F hm.2.2.2.2.2.2.2.2.2.2.2.2.2.2.2.2.2.1 (Nat.le_of_ble_eq_true rfl) (by omega) (by omega) dX9_image_89 (fun N89 eN89 => ?_)
          obtain ⟨v90, e90⟩ : ∃ z_ : Int, z_ = g + 1 := ⟨_, rfl⟩
          refine q_iinc F dX9_image_90 3 rfl e90 [(3, .int (q_I v90)), (0, .ref (q_ad G 0)), (1, .int (q_I n)), (2, .int (q_I v16))] (Nat.le_of_ble_eq_true rfl) rfl ?_
          refine q_goto F 19 dX9_image_93 (by decide) ?_
          refine q_drop [1, 2, 3, 0] rfl ?_
          obtain ⟨i1, i2, i3, i4⟩ := hi19
          have r1 : M1 1 = M 1 := i2 1 (by omega)
          have r2 : N38 2 = M 2 := by rw [eN38, q_up_ne (by omega), i2 2 (by omega)]
          have r3 : N55 3 = M 3 := by rw [eN55, q_up_ne (by omega), eN38, q_up_ne (by omega), i2 3 (by omega)]
          have r4 : N72 4 = M 4 := by rw [eN72, q_up_ne (by omega), eN55, q_up_ne (by omega), eN38, q_up_ne (by omega), i2 4 (by omega)]
          have r17 : ∀ i, N89 17 i = if i = 50 * n + 18 + g then M 4 g else if i = 50 * n + 12 + g then M 3 g else if i = 50 * n + 6 + g then M 2 g else if i = 50 * n + g then M 1 g else M1 17 i := fun i => by
            rw [eN89, q_up_at, r4, eN72, q_up_at, r3, eN55, q_up_at, r2, eN38, q_up_at, r1, e16]
          exact ih19_1 _ (by omega) v90 N89 ⟨by omega, fun j hj => by rw [eN89, q_up_ne hj, eN72, q_up_ne hj, eN55, q_up_ne hj, eN38, q_up_ne hj]; exact i2 j hj, fun i hi => by
                rw [r17, if_neg (by omega), if_neg (by omega), if_neg (by omega), if_neg (by omega)]; exact i3 i hi, fun x h0 h1 => by
                by_cases hx : x = g
                · rw [hx]
                  refine ⟨?_, ?_, ?_, ?_⟩
                  · rw [r17, if_neg (by omega), if_neg (by omega), if_neg (by omega), if_pos rfl]
                  · rw [r17, if_neg (by omega), if_neg (by omega), if_pos rfl]
                  · rw [r17, if_neg (by omega), if_pos rfl]
                  · rw [r17, if_pos rfl]
                · have hh := i4 x h0 (by omega)
                  refine ⟨?_, ?_, ?_, ?_⟩
                  · rw [r17, if_neg (by omega), if_neg (by omega), if_neg (by omega), if_neg (by omega)]; exact hh.1
                  · rw [r17, if_neg (by omega), if_neg (by omega), if_neg (by omega), if_neg (by omega)]; exact hh.2.1
                  · rw [r17, if_neg (by omega), if_neg (by omega), if_neg (by omega), if_neg (by omega)]; exact hh.2.2.1
                  · rw [r17, if_neg (by omega), if_neg (by omega), if_neg (by omega), if_neg (by omega)]; exact hh.2.2.2⟩ rfl
    refine q_drop [2, 3, 1, 0] rfl ?_
    exact lp19_1 _ 0 M ⟨by omega, fun _ _ => rfl, fun _ _ => rfl, fun g h0 h1 => by omega⟩ rfl
  · refine q_bipush F dX9_image_9 (by decide) ?_
    exact q_iret F FI dX9_image_11 (by omega) ⟨fun _ => ⟨rfl, rfl⟩, fun h => absurd h (q_df c6)⟩

set_option maxHeartbeats 4000000 in
set_option maxRecDepth 100000 in
theorem c_X9_restore (G : q_G) (hI : q_inj G) (M : q_M) (hm : q_mo G) (n : Int) (hnR : -2147483648 ≤ n ∧ n ≤ 2147483647) : q_CI G yX9_restore wsX9_restore ({ frames := 1, cells := 0, slots := 0, locals := 22 } : Room) [.ref (q_ad G 0), .int (q_I n)] M (fun z M' => (¬ (0 ≤ n ∧ n ≤ 1) → z = -2 ∧ M' = M) ∧ (0 ≤ n ∧ n ≤ 1 → (M 18 n = 0 → z = -3 ∧ M' = M) ∧ (¬ M 18 n = 0 → z = 1 ∧ q_rm M M' n))) := by
  refine q_CI.of hI (by decide) rfl RX9 rfl [(0, .ref (q_ad G 0)), (1, .int (q_I n))] rfl (Nat.le_of_ble_eq_true rfl) (fun E F FI => ?_)
  have huX9 : ∀ w ∈ wsX90, w ∈ wsX9_restore := by decide +kernel
  refine q_MRof (fun hM => ?_)
  refine q_iload_n F dX9_restore_0 1 rfl ?_
  refine q_iconst F dX9_restore_1 ?_
  refine q_iconst F dX9_restore_2 ?_
  refine q_callSP (n := 3) F (c_X9_in G hI M n 0 1 (by omega)) rfl gX9_restore_X9_in ⟨by decide, by decide, by decide +kernel⟩ rfl ⟨rfl, rfl, Nat.le_of_ble_eq_true rfl, Nat.le_of_ble_eq_true rfl⟩ rfl (Nat.le_of_ble_eq_true rfl) dX9_restore_3 (fun h3 => ?_)
  refine q_ifb_ne F 12 dX9_restore_6 (by decide) (fun c6 => ?_) (fun c6 => ?_)
  · have d1 := q_dt c6
    refine q_aload_n F dX9_restore_12 0 rfl ?_
    refine q_getr (T := TX9) (ref := "LeastHungryModel") F huX9 rfl hm.1 26 (by decide) (by decide +kernel) rfl rfl dX9_restore_13 ?_
    refine q_iload_n F dX9_restore_16 1 rfl ?_
    refine q_bald F hm.2.2.2.2.2.2.2.2.2.2.2.2.2.2.2.2.2.2 (Nat.le_of_ble_eq_true rfl) (by omega) dX9_restore_17 (fun h17 => ?_)
    refine q_if_ne F 24 dX9_restore_18 (by decide) (by omega) (fun c18 => ?_) (fun c18 => ?_)
    · refine q_bipush F dX9_restore_24 (by decide) ?_
      refine q_iload_n F dX9_restore_26 1 rfl ?_
      refine q_imul F dX9_restore_27 ?_
      refine q_nm (fun v28 e28 => ?_)
      refine q_istore_n F dX9_restore_28 [(2, .int (q_I v28)), (0, .ref (q_ad G 0)), (1, .int (q_I n))] (Nat.le_of_ble_eq_true rfl) rfl ?_
      refine q_iconst F dX9_restore_29 ?_
      refine q_istore_n F dX9_restore_30 [(3, .int (q_I 0)), (2, .int (q_I v28)), (0, .ref (q_ad G 0)), (1, .int (q_I n))] (Nat.le_of_ble_eq_true rfl) rfl ?_
      have lp31_1 : ∀ (k31_1 : Nat) (g : Int) (M1 : q_M), ((0 ≤ g ∧ g ≤ 6) ∧ (∀ j, j = 0 ∨ 5 ≤ j → M1 j = M j) ∧ (∀ y, 0 ≤ y → y < g → M1 1 y = M 17 (50 * n + y) ∧ M1 2 y = M 17 (50 * n + 6 + y) ∧ M1 3 y = M 17 (50 * n + 12 + y) ∧ M1 4 y = M 17 (50 * n + 18 + y))) → (6 - g).toNat = k31_1 → q_Y G E 4 M1 [(0, .ref (q_ad G 0)), (1, .int (q_I n)), (2, .int (q_I v28)), (3, .int (q_I g))] 31 [] := by
        intro k31_1
        induction k31_1 using Nat.strongRecOn with
        | _ k31_1 ih31_1 =>
          intro g  M1 hi31 hk31
          refine q_MRof (fun hM31 => ?_)
          refine q_iload_n F dX9_restore_31 3 rfl ?_
          refine q_bipush F dX9_restore_32 (by decide) ?_
          refine q_icmp_ge F 108 dX9_restore_34 (by decide) (by omega) (fun c34 => ?_) (fun c34 => ?_)
          · refine q_iconst F dX9_restore_108 ?_
            refine q_istore_n F dX9_restore_109 [(3, .int (q_I 0)), (0, .ref (q_ad G 0)), (1, .int (q_I n)), (2, .int (q_I v28))] (Nat.le_of_ble_eq_true rfl) rfl ?_
            have lp110_2 : ∀ (k110_2 : Nat) (k : Int) (M2 : q_M), ((0 ≤ k ∧ k ≤ 16) ∧ (∀ j, j ≠ 5 → M2 j = M1 j) ∧ (∀ x, 0 ≤ x → x < k → M2 5 x = M 17 (50 * n + 24 + x))) → (16 - k).toNat = k110_2 → q_Y G E 4 M2 [(0, .ref (q_ad G 0)), (1, .int (q_I n)), (2, .int (q_I v28)), (3, .int (q_I k))] 110 [] := by
              intro k110_2
              induction k110_2 using Nat.strongRecOn with
              | _ k110_2 ih110_2 =>
                intro k  M2 hi110 hk110
                refine q_MRof (fun hM110 => ?_)
                refine q_iload_n F dX9_restore_110 3 rfl ?_
                refine q_bipush F dX9_restore_111 (by decide) ?_
                refine q_icmp_ge F 139 dX9_restore_113 (by decide) (by omega) (fun c113 => ?_) (fun c113 => ?_)
                · refine q_aload_n F dX9_restore_139 0 rfl ?_
                  refine q_aload_n F dX9_restore_140 0 rfl ?_
                  refine q_getr (T := TX9) (ref := "LeastHungryModel") F huX9 rfl hm.1 25 (by decide) (by decide +kernel) rfl rfl dX9_restore_141 ?_
                  refine q_iload_n F dX9_restore_144 2 rfl ?_
                  refine q_bipush F dX9_restore_145 (by decide) ?_
                  refine q_iadd F dX9_restore_147 ?_
                  refine q_iald F hm.2.2.2.2.2.2.2.2.2.2.2.2.2.2.2.2.2.1 (Nat.le_of_ble_eq_true rfl) (by omega) dX9_restore_148 (fun h148 => ?_)
                  refine q_puti (T := TX9) (ref := "LeastHungryModel") F huX9 rfl hm.1 0 (by decide) (by decide +kernel) rfl 0 rfl tyX9 tyX9_ok nmX9 rfl rfl (by decide +kernel) (by omega) dX9_restore_149 (fun N149 eN149 => ?_)
                  refine q_aload_n F dX9_restore_152 0 rfl ?_
                  refine q_aload_n F dX9_restore_153 0 rfl ?_
                  refine q_getr (T := TX9) (ref := "LeastHungryModel") F huX9 rfl hm.1 25 (by decide) (by decide +kernel) rfl rfl dX9_restore_154 ?_
                  refine q_iload_n F dX9_restore_157 2 rfl ?_
                  refine q_bipush F dX9_restore_158 (by decide) ?_
                  refine q_iadd F dX9_restore_160 ?_
                  refine q_iald F hm.2.2.2.2.2.2.2.2.2.2.2.2.2.2.2.2.2.1 (Nat.le_of_ble_eq_true rfl) (by omega) dX9_restore_161 (fun h161 => ?_)
                  refine q_puti (T := TX9) (ref := "LeastHungryModel") F huX9 rfl hm.1 4 (by decide) (by decide +kernel) rfl 4 rfl tyX9 tyX9_ok nmX9 rfl rfl (by decide +kernel) (by omega) dX9_restore_162 (fun N162 eN162 => ?_)
                  refine q_aload_n F dX9_restore_165 0 rfl ?_
                  refine q_aload_n F dX9_restore_166 0 rfl ?_
                  refine q_getr (T := TX9) (ref := "LeastHungryModel") F huX9 rfl hm.1 25 (by decide) (by decide +kernel) rfl rfl dX9_restore_167 ?_
                  refine q_iload_n F dX9_restore_170 2 rfl ?_
                  refine q_bipush F dX9_restore_171 (by decide) ?_
                  refine q_iadd F dX9_restore_173 ?_
                  refine q_iald F hm.2.2.2.2.2.2.2.2.2.2.2.2.2.2.2.2.2.1 (Nat.le_of_ble_eq_true rfl) (by omega) dX9_restore_174 (fun h174 => ?_)
                  refine q_puti (T := TX9) (ref := "LeastHungryModel") F huX9 rfl hm.1 6 (by decide) (by decide +kernel) rfl 6 rfl tyX9 tyX9_ok nmX9 rfl rfl (by decide +kernel) (by omega) dX9_restore_175 (fun N175 eN175 => ?_)
                  refine q_iconst F dX9_restore_178 ?_
                  exact q_iret F FI dX9_restore_179 (by omega) ⟨fun h => absurd d1 h, fun _ => ⟨fun h => absurd h c18, fun _ => ⟨rfl, by
                        have m17 : M2 17 = M 17 := (hi110.2.1 17 (by omega)).trans (hi31.2.1 17 (by omega))
                        have a17 : N149 17 = M 17 := by rw [eN149, q_up_ne (by omega), m17]
                        have b17 : N162 17 = M 17 := by rw [eN162, q_up_ne (by omega), a17]
                        have ne : ∀ j, j ≠ 0 → N175 j = M2 j := fun j hj => by rw [eN175, q_up_ne hj, eN162, q_up_ne hj, eN149, q_up_ne hj]
                        have r0 : ∀ i, N175 0 i = if i = 6 then M 17 (50 * n + 42) else if i = 4 then M 17 (50 * n + 41) else if i = 0 then M 17 (50 * n + 40) else M 0 i := fun i => by
                          rw [eN175, q_up_at, b17, eN162, q_up_at, a17, eN149, q_up_at, m17, e28, hi110.2.1 0 (by omega), hi31.2.1 0 (by omega)]
                        refine ⟨fun j hj => by rw [ne j (by omega), hi110.2.1 j (by omega)]; exact hi31.2.1 j (by omega), fun i hi => by rw [r0, if_neg (by omega), if_neg (by omega), if_neg (by omega)], fun y h0 h1 => ?_, fun z h0 h1 => ?_, ?_, ?_, ?_⟩
                        · rw [ne 1 (by omega), ne 2 (by omega), ne 3 (by omega), ne 4 (by omega), hi110.2.1 1 (by omega), hi110.2.1 2 (by omega), hi110.2.1 3 (by omega), hi110.2.1 4 (by omega)]
                          exact hi31.2.2 y h0 (by omega)
                        · rw [ne 5 (by omega)]; exact hi110.2.2 z h0 (by omega)
                        · rw [r0, if_neg (by omega), if_neg (by omega), if_pos rfl]
                        · rw [r0, if_neg (by omega), if_pos rfl]
                        · rw [r0, if_pos rfl]⟩⟩⟩
                · refine q_aload_n F dX9_restore_116 0 rfl ?_
                  refine q_getr (T := TX9) (ref := "LeastHungryModel") F huX9 rfl hm.1 7 (by decide) (by decide +kernel) rfl rfl dX9_restore_117 ?_
                  refine q_iload_n F dX9_restore_120 3 rfl ?_
                  refine q_aload_n F dX9_restore_121 0 rfl ?_
                  refine q_getr (T := TX9) (ref := "LeastHungryModel") F huX9 rfl hm.1 25 (by decide) (by decide +kernel) rfl rfl dX9_restore_122 ?_
                  refine q_iload_n F dX9_restore_125 2 rfl ?_
                  refine q_bipush F dX9_restore_126 (by decide) ?_
                  refine q_iadd F dX9_restore_128 ?_
                  refine q_iload_n F dX9_restore_129 3 rfl ?_
                  refine q_iadd F dX9_restore_130 ?_
                  refine q_iald F hm.2.2.2.2.2.2.2.2.2.2.2.2.2.2.2.2.2.1 (Nat.le_of_ble_eq_true rfl) (by omega) dX9_restore_131 (fun h131 => ?_)
                  refine q_iast F hm.2.2.2.2.2.1 (Nat.le_of_ble_eq_true rfl) (by omega) (by omega) dX9_restore_132 (fun N132 eN132 => ?_)
                  obtain ⟨v133, e133⟩ : ∃ z_ : Int, z_ = k + 1 := ⟨_, rfl⟩
                  refine q_iinc F dX9_restore_133 3 rfl e133 [(3, .int (q_I v133)), (0, .ref (q_ad G 0)), (1, .int (q_I n)), (2, .int (q_I v28))] (Nat.le_of_ble_eq_true rfl) rfl ?_
                  refine q_goto F 110 dX9_restore_136 (by decide) ?_
                  refine q_drop [1, 2, 3, 0] rfl ?_
                  exact ih110_2 _ (by omega) v133 N132 ⟨by omega, fun j hj => by rw [eN132, q_up_ne hj]; exact hi110.2.1 j hj, fun x h0 h1 => by
                        rw [eN132, q_up_at]
                        by_cases hx : x = k
                        · rw [if_pos hx, hi110.2.1 17 (by omega), hi31.2.1 17 (by omega), e28, hx]
                        · rw [if_neg hx]; exact hi110.2.2 x h0 (by omega)⟩ rfl
            refine q_drop [1, 2, 3, 0] rfl ?_
            exact lp110_2 _ 0 M1 ⟨by omega, fun _ _ => rfl, fun x h0 h1 => by omega⟩ rfl
          · refine q_aload_n F dX9_restore_37 0 rfl ?_
            refine q_getr (T := TX9) (ref := "LeastHungryModel") F huX9 rfl hm.1 1 (by decide) (by decide +kernel) rfl rfl dX9_restore_38 ?_
            refine q_iload_n F dX9_restore_41 3 rfl ?_
            refine q_aload_n F dX9_restore_42 0 rfl ?_
            refine q_getr (T := TX9) (ref := "LeastHungryModel") F huX9 rfl hm.1 25 (by decide) (by decide +kernel) rfl rfl dX9_restore_43 ?_
            refine q_iload_n F dX9_restore_46 2 rfl ?_
            refine q_iload_n F dX9_restore_47 3 rfl ?_
            refine q_iadd F dX9_restore_48 ?_
            refine q_iald F hm.2.2.2.2.2.2.2.2.2.2.2.2.2.2.2.2.2.1 (Nat.le_of_ble_eq_true rfl) (by omega) dX9_restore_49 (fun h49 => ?_)
            refine q_iast F hm.2.1 (Nat.le_of_ble_eq_true rfl) (by omega) (by omega) dX9_restore_50 (fun N50 eN50 => ?_)
            refine q_aload_n F dX9_restore_51 0 rfl ?_
            refine q_getr (T := TX9) (ref := "LeastHungryModel") F huX9 rfl hm.1 2 (by decide) (by decide +kernel) rfl rfl dX9_restore_52 ?_
            refine q_iload_n F dX9_restore_55 3 rfl ?_
            refine q_aload_n F dX9_restore_56 0 rfl ?_
            refine q_getr (T := TX9) (ref := "LeastHungryModel") F huX9 rfl hm.1 25 (by decide) (by decide +kernel) rfl rfl dX9_restore_57 ?_
            refine q_iload_n F dX9_restore_60 2 rfl ?_
            refine q_bipush F dX9_restore_61 (by decide) ?_
            refine q_iadd F dX9_restore_63 ?_
            refine q_iload_n F dX9_restore_64 3 rfl ?_
            refine q_iadd F dX9_restore_65 ?_
            refine q_iald F hm.2.2.2.2.2.2.2.2.2.2.2.2.2.2.2.2.2.1 (Nat.le_of_ble_eq_true rfl) (by omega) dX9_restore_66 (fun h66 => ?_)
            refine q_iast F hm.2.2.1 (Nat.le_of_ble_eq_true rfl) (by omega) (by omega) dX9_restore_67 (fun N67 eN67 => ?_)
            refine q_aload_n F dX9_restore_68 0 rfl ?_
            refine q_getr (T := TX9) (ref := "LeastHungryModel") F huX9 rfl hm.1 3 (by decide) (by decide +kernel) rfl rfl dX9_restore_69 ?_
            refine q_iload_n F dX9_restore_72 3 rfl ?_
            refine q_aload_n F dX9_restore_73 0 rfl ?_
            refine q_getr (T := TX9) (ref := "LeastHungryModel") F huX9 rfl hm.1 25 (by decide) (by decide +kernel) rfl rfl dX9_restore_74 ?_
            refine q_iload_n F dX9_restore_77 2 rfl ?_
            refine q_bipush F dX9_restore_78 (by decide) ?_
            refine q_iadd F dX9_restore_80 ?_
            refine q_iload_n F dX9_restore_81 3 rfl ?_
            refine q_iadd F dX9_restore_82 ?_
            refine q_iald F hm.2.2.2.2.2.2.2.2.2.2.2.2.2.2.2.2.2.1 (Nat.le_of_ble_eq_true rfl) (by omega) dX9_restore_83 (fun h83 => ?_)
            refine q_iast F hm.2.2.2.1 (Nat.le_of_ble_eq_true rfl) (by omega) (by omega) dX9_restore_84 (fun N84 eN84 => ?_)
            refine q_aload_n F dX9_restore_85 0 rfl ?_
            refine q_getr (T := TX9) (ref := "LeastHungryModel") F huX9 rfl hm.1 5 (by decide) (by decide +kernel) rfl rfl dX9_restore_86 ?_
            refine q_iload_n F dX9_restore_89 3 rfl ?_
            refine q_aload_n F dX9_restore_90 0 rfl ?_
            refine q_getr (T := TX9) (ref := "LeastHungryModel") F huX9 rfl hm.1 25 (by decide) (by decide +kernel) rfl rfl dX9_restore_91 ?_
            refine q_iload_n F dX9_restore_94 2 rfl ?_
            refine q_bipush F dX9_restore_95 (by decide) ?_
            refine q_iadd F dX9_restore_97 ?_
            refine q_iload_n F dX9_restore_98 3 rfl ?_
            refine q_iadd F dX9_restore_99 ?_
            refine q_iald F hm.2.2.2.2.2.2.2.2.2.2.2.2.2.2.2.2.2.1 (Nat.le_of_ble_eq_true rfl) (by omega) dX9_restore_100 (fun h100 => ?_)
            refine q_iast F hm.2.2.2.2.1 (Nat.le_of_ble_eq_true rfl) (by omega) (by omega) dX9_restore_101 (fun N101 eN101 => ?_)
            obtain ⟨v102, e102⟩ : ∃ z_ : Int, z_ = g + 1 := ⟨_, rfl⟩
            refine q_iinc F dX9_restore_102 3 rfl e102 [(3, .int (q_I v102)), (0, .ref (q_ad G 0)), (1, .int (q_I n)), (2, .int (q_I v28))] (Nat.le_of_ble_eq_true rfl) rfl ?_
            refine q_goto F 31 dX9_restore_105 (by decide) ?_
            refine q_drop [1, 2, 3, 0] rfl ?_
            obtain ⟨i1, i2, i4⟩ := hi31
            have r0 : M1 17 = M 17 := i2 17 (by omega)
            have r1 : N50 17 = M 17 := by rw [eN50, q_up_ne (by omega), r0]
            have r2 : N67 17 = M 17 := by rw [eN67, q_up_ne (by omega), r1]
            have r3 : N84 17 = M 17 := by rw [eN84, q_up_ne (by omega), r2]
            have q1 : N101 1 = q_row (M1 1) g (M 17 (50 * n + g)) := by rw [eN101, q_up_ne (by omega), eN84, q_up_ne (by omega), eN67, q_up_ne (by omega), eN50, q_up_row, r0, e28]
            have q2 : N101 2 = q_row (M1 2) g (M 17 (50 * n + 6 + g)) := by rw [eN101, q_up_ne (by omega), eN84, q_up_ne (by omega), eN67, q_up_row, r1, e28, eN50, q_up_ne (by omega)]
            have q3 : N101 3 = q_row (M1 3) g (M 17 (50 * n + 12 + g)) := by rw [eN101, q_up_ne (by omega), eN84, q_up_row, r2, e28, eN67, q_up_ne (by omega), eN50, q_up_ne (by omega)]
            have q4 : N101 4 = q_row (M1 4) g (M 17 (50 * n + 18 + g)) := by rw [eN101, q_up_row, r3, e28, eN84, q_up_ne (by omega), eN67, q_up_ne (by omega), eN50, q_up_ne (by omega)]
            exact ih31_1 _ (by omega) v102 N101 ⟨by omega, fun j hj => by rw [eN101, q_up_ne (by omega), eN84, q_up_ne (by omega), eN67, q_up_ne (by omega), eN50, q_up_ne (by omega)]; exact i2 j hj, fun x h0 h1 => by
                  rw [q1, q2, q3, q4]
                  unfold q_row
                  by_cases hx : x = g
                  · rw [if_pos hx, if_pos hx, if_pos hx, if_pos hx, hx]
                    exact ⟨rfl, rfl, rfl, rfl⟩
                  · rw [if_neg hx, if_neg hx, if_neg hx, if_neg hx]
                    exact i4 x h0 (by omega)⟩ rfl
      refine q_drop [2, 3, 1, 0] rfl ?_
      exact lp31_1 _ 0 M ⟨by omega, fun _ _ => rfl, fun g h0 h1 => by omega⟩ rfl
    · refine q_bipush F dX9_restore_21 (by decide) ?_
      exact q_iret F FI dX9_restore_23 (by omega) ⟨fun h => absurd d1 h, fun _ => ⟨fun _ => ⟨rfl, rfl⟩, fun h => absurd c18 h⟩⟩
  · refine q_bipush F dX9_restore_9 (by decide) ?_
    exact q_iret F FI dX9_restore_11 (by omega) ⟨fun _ => ⟨rfl, rfl⟩, fun h => absurd h (q_df c6)⟩

set_option maxHeartbeats 4000000 in
set_option maxRecDepth 100000 in
theorem c_X9_told (G : q_G) (hI : q_inj G) (M : q_M) (hm : q_mo G) (w : Int) (hwR : -2147483648 ≤ w ∧ w ≤ 2147483647) (hZ : q_Z M) : q_CI G yX9_told wsX9_told ({ frames := 2, cells := 0, slots := 0, locals := 44 } : Room) [.ref (q_ad G 0), .int (q_I w)] M (fun z M' => z = S_told (M 2) (M 4) (M 0 0) (M 0 4) (M 0 6) (M 0 8) w ∧ M' = M) := by
  refine q_CI.of hI (by decide) rfl RX9 rfl [(0, .ref (q_ad G 0)), (1, .int (q_I w))] rfl (Nat.le_of_ble_eq_true rfl) (fun E F FI => ?_)
  have huX9 : ∀ w ∈ wsX90, w ∈ wsX9_told := by decide +kernel
  refine q_MRof (fun hM => ?_)
  obtain ⟨⟨xt, xk⟩, ⟨xh, xf, xa⟩, xF, xs, xp⟩ := id hZ
  have hz := hZ.1
  refine q_iload_n F dX9_told_0 1 rfl ?_
  refine q_bipush F dX9_told_1 (by decide) ?_
  refine q_icmp_lt F 32 dX9_told_3 (by decide) (by omega) (fun c3 => ?_) (fun c3 => ?_)
  · refine q_iload_n F dX9_told_32 1 rfl ?_
    rcases (show w = 0 ∨ w = 1 ∨ w = 2 ∨ w = 3 ∨ (w < 0 ∨ 3 < w) by omega) with c33 | c33 | c33 | c33 | c33
    · refine q_tableIn F 0 64 dX9_told_33 c33 (by decide) rfl (by decide) ?_
      refine q_aload_n F dX9_told_64 0 rfl ?_
      refine q_geti (T := TX9) (ref := "LeastHungryModel") F huX9 rfl hm.1 8 (by decide) (by decide +kernel) rfl 8 rfl rfl dX9_told_65 (fun h65 => ?_)
      exact q_iret F FI dX9_told_68 (by omega) ⟨by unfold S_told; rw [if_pos c33], rfl⟩
    · refine q_tableIn F 1 69 dX9_told_33 c33 (by decide) rfl (by decide) ?_
      refine q_aload_n F dX9_told_69 0 rfl ?_
      refine q_geti (T := TX9) (ref := "LeastHungryModel") F huX9 rfl hm.1 0 (by decide) (by decide +kernel) rfl 0 rfl rfl dX9_told_70 (fun h70 => ?_)
      exact q_iret F FI dX9_told_73 (by omega) ⟨by unfold S_told; rw [if_neg (by omega), if_pos c33], rfl⟩
    · refine q_tableIn F 2 74 dX9_told_33 c33 (by decide) rfl (by decide) ?_
      refine q_aload_n F dX9_told_74 0 rfl ?_
      refine q_geti (T := TX9) (ref := "LeastHungryModel") F huX9 rfl hm.1 4 (by decide) (by decide +kernel) rfl 4 rfl rfl dX9_told_75 (fun h75 => ?_)
      exact q_iret F FI dX9_told_78 (by omega) ⟨by unfold S_told; rw [if_neg (by omega), if_neg (by omega), if_pos c33], rfl⟩
    · refine q_tableIn F 3 79 dX9_told_33 c33 (by decide) rfl (by decide) ?_
      refine q_aload_n F dX9_told_79 0 rfl ?_
      refine q_geti (T := TX9) (ref := "LeastHungryModel") F huX9 rfl hm.1 6 (by decide) (by decide +kernel) rfl 6 rfl rfl dX9_told_80 (fun h80 => ?_)
      exact q_iret F FI dX9_told_83 (by omega) ⟨by unfold S_told; rw [if_neg (by omega), if_neg (by omega), if_neg (by omega), if_pos c33], rfl⟩
    · refine q_tableOut F 84 dX9_told_33 (by omega) (by decide) ?_
      refine q_iload_n F dX9_told_84 1 rfl ?_
      refine q_iconst F dX9_told_85 ?_
      refine q_icmp_ne F 96 dX9_told_86 (by decide) (by omega) (fun c86 => ?_) (fun c86 => ?_)
      · refine q_bipush F dX9_told_96 (by decide) ?_
        exact q_iret F FI dX9_told_98 (by omega) ⟨by unfold S_told; rw [if_neg (by omega), if_neg (by omega), if_neg (by omega), if_neg (by omega), if_neg c86, if_neg (fun h => by have := q_has_in h.2; omega)], rfl⟩
      · refine q_aload_n F dX9_told_89 0 rfl ?_
        refine q_callVP (n := 0) (T := TX9) F (c_X9_manyFeuds G hI M hm (by assumption)) rfl rfl hm.1 gX9_told_X9_manyFeuds rfl ⟨by decide, by decide, by decide +kernel⟩ rfl ⟨rfl, rfl, Nat.le_of_ble_eq_true rfl, Nat.le_of_ble_eq_true rfl⟩ rfl (Nat.le_of_ble_eq_true rfl) dX9_told_90 (fun h90 => ?_)
        refine q_goto F 98 dX9_told_93 (by decide) ?_
        exact q_iret F FI dX9_told_98 h90 ⟨by unfold S_told; rw [if_neg (by omega), if_neg (by omega), if_neg (by omega), if_neg (by omega), if_pos c86], rfl⟩
  · refine q_aload_n F dX9_told_6 0 rfl ?_
    refine q_iload_n F dX9_told_7 1 rfl ?_
    refine q_bipush F dX9_told_8 (by decide) ?_
    refine q_isub F dX9_told_10 ?_
    refine q_callVP (n := 1) (T := TX9) F (c_X9_isThere G hI M hm _ (by omega) (by assumption)) rfl rfl hm.1 gX9_told_X9_isThere rfl ⟨by decide, by decide, by decide +kernel⟩ rfl ⟨rfl, rfl, Nat.le_of_ble_eq_true rfl, Nat.le_of_ble_eq_true rfl⟩ rfl (Nat.le_of_ble_eq_true rfl) dX9_told_11 (fun h11 => ?_)
    refine q_ifb_eq F 29 dX9_told_14 (by decide) (fun c14 => ?_) (fun c14 => ?_)
    · refine q_bipush F dX9_told_29 (by decide) ?_
      exact q_iret F FI dX9_told_31 (by omega) ⟨by unfold S_told; rw [if_neg (by omega), if_neg (by omega), if_neg (by omega), if_neg (by omega), if_neg (by omega), if_neg (fun h => by rw [c14] at h; exact absurd h.2 (by decide))], rfl⟩
    · have hgi := q_has_in c14
      refine q_aload_n F dX9_told_17 0 rfl ?_
      refine q_getr (T := TX9) (ref := "LeastHungryModel") F huX9 rfl hm.1 2 (by decide) (by decide +kernel) rfl rfl dX9_told_18 ?_
      refine q_iload_n F dX9_told_21 1 rfl ?_
      refine q_bipush F dX9_told_22 (by decide) ?_
      refine q_isub F dX9_told_24 ?_
      refine q_iald F hm.2.2.1 (Nat.le_of_ble_eq_true rfl) (by omega) dX9_told_25 (fun h25 => ?_)
      refine q_goto F 31 dX9_told_26 (by decide) ?_
      exact q_iret F FI dX9_told_31 (by omega) ⟨by unfold S_told; rw [if_neg (by omega), if_neg (by omega), if_neg (by omega), if_neg (by omega), if_neg (by omega), if_pos ⟨by omega, c14⟩], rfl⟩
