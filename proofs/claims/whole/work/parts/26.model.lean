/-! the reference's night, whole -/
theorem q_kz_e0 {M N : q_M} {i v : Int} (e : N = q_up M 0 i v) (hi : 15 ≤ i) : q_kz M N := by
  rw [e]
  exact q_kz_u0 hi
theorem q_kz_e {M N : q_M} {k : Nat} {i v : Int} (e : N = q_up M k i v) (hk : 7 ≤ k ∧ k ≤ 16) : q_kz M N := by
  rw [e]
  exact q_kz_up hk
theorem q_gN_fin {M Mb N : q_M} {own z r : Int} (hs : q_sim (M 0 0) (q_v9 Mb) (q_T0 (M 1) (M 2) (M 3))) (kz : q_kz M N) (zv : q_zv N) (hrun : q_run (q_hrT (M 0 0)) (M 0 0) (M 0 4) (M 6) (M 0 8) own 61 0 (q_v9 Mb) = (z, r, q_v9 N)) (hr : ¬ z = -6 → N 0 16 = r) (hz : (z = -6 ∧ r = -6) ∨ 0 ≤ z) :
    q_kz M N ∧ q_zv N ∧ z = (q_NI (M 0 0) (M 0 4) (M 6) (M 0 8) own (M 1) (M 2) (M 3)).1 ∧ (¬ z = -6 → N 0 16 = (q_NI (M 0 0) (M 0 4) (M 6) (M 0 8) own (M 1) (M 2) (M 3)).2.1) ∧ q_sim (M 0 0) (q_v9 N) (q_NI (M 0 0) (M 0 4) (M 6) (M 0 8) own (M 1) (M 2) (M 3)).2.2 ∧ (z = -6 ∨ 0 ≤ z) ∧ (z = -6 → (q_NI (M 0 0) (M 0 4) (M 6) (M 0 8) own (M 1) (M 2) (M 3)).2.1 = -6) := by
  have h := q_NI_of (own := own) hs
  rw [hrun] at h
  refine ⟨kz, zv, h.1, fun hz => (hr hz).trans h.2.1, h.2.2, by omega, fun hz6 => ?_⟩
  have : r = _ := h.2.1
  rw [← this]
  omega
theorem q_an_sim {M N1 N : q_M} (h : q_an M N1) (e : ∀ j, j ≠ 0 → N j = N1 j) (e15 : N 0 15 = 0) (e17 : N 0 17 = 0) (e18 : N 0 18 = -6) : q_sim (M 0 0) (q_v9 N) (q_T0 (M 1) (M 2) (M 3)) ∧ q_Tb (q_v9 N) 0 := by
  refine ⟨⟨fun x hx => ?_, fun x x0 x1 => ⟨?_, ?_⟩, e15, e17, e18⟩, fun x x0 x1 => ?_, ?_⟩
  · have hi := q_has_in hx
    have := (h.2 x hi.1 hi.2).1
    refine ⟨?_, ?_, ?_⟩
    · show N 7 x = M 1 x
      rw [e 7 (by omega)]; exact this.1
    · show N 8 x = M 2 x
      rw [e 8 (by omega)]; exact this.2.1
    · show N 9 x = M 3 x
      rw [e 9 (by omega)]; exact this.2.2
  · show N 10 x = 0
    rw [e 10 (by omega)]; exact (h.2 x x0 x1).2.1
  · show N 11 x = 0
    rw [e 11 (by omega)]; exact (h.2 x x0 x1).2.2
  · show (0 ≤ N 10 x ∧ N 10 x ≤ 0) ∧ (0 ≤ N 11 x ∧ N 11 x ≤ 0)
    rw [e 10 (by omega), e 11 (by omega), (h.2 x x0 x1).2.1, (h.2 x x0 x1).2.2]
    omega
  · show -(9 * 0) ≤ N 0 15 ∧ N 0 15 ≤ 9 * 0
    rw [e15]
    omega
theorem q_kz_dish {M N : q_M} (h1 : ∀ j, j ≠ 0 → j ≠ 7 → j ≠ 10 → j ≠ 11 → N j = M j) (h2 : ∀ i, i ≠ 15 → N 0 i = M 0 i) : q_kz M N :=
  ⟨fun j hj => h1 j (by omega) (by omega) (by omega) (by omega), h2 _ (by omega), h2 _ (by omega), h2 _ (by omega), h2 _ (by omega)⟩
theorem q_dish_u {th ke pl p r : Int} {s : q_T} (hr : r = q_cnt (q_has (q_TK th ke s pl p))) (hu : qt_u s = -6 ∨ 0 ≤ qt_u s) : qt_u (q_dish th ke s pl p) = if r = 0 ∧ qt_u s < 0 then qt_k s else qt_u s := by
  show (if q_TK th ke s pl p = 0 ∧ qt_u s = -6 then qt_k s else qt_u s) = _
  have h := q_TK_0 (th := th) (ke := ke) (pl := pl) (p := p) (s := s)
  rw [← hr] at h
  by_cases h1 : r = 0
  · by_cases h2 : qt_u s < 0
    · rw [if_pos ⟨h.mp h1, by omega⟩, if_pos ⟨h1, h2⟩]
    · rw [if_neg (fun q => h2 (by omega)), if_neg (fun q => h2 q.2)]
  · rw [if_neg (fun q => h1 (h.mpr q.1)), if_neg (fun q => h1 q.1)]
set_option maxHeartbeats 4000000 in
set_option maxRecDepth 100000 in
theorem c_X9_goNight (G : q_G) (hI : q_inj G) (M : q_M) (hm : q_mo G) (own : Int) (hZ : q_Z M) (hfl : q_flt (M 6) (M 0 8) 61 0 = -6) (hown : 0 ≤ own ∧ own ≤ 9) : q_CI G yX9_goNight wsX9_goNight ({ frames := 4, cells := 0, slots := 0, locals := 95 } : Room) [.ref (q_ad G 0), .int (q_I own)] M (fun z M' => q_kz M M' ∧ q_zv M' ∧ z = (q_NI (M 0 0) (M 0 4) (M 6) (M 0 8) own (M 1) (M 2) (M 3)).1 ∧ (¬ z = -6 → M' 0 16 = (q_NI (M 0 0) (M 0 4) (M 6) (M 0 8) own (M 1) (M 2) (M 3)).2.1) ∧ q_sim (M 0 0) (q_v9 M') (q_NI (M 0 0) (M 0 4) (M 6) (M 0 8) own (M 1) (M 2) (M 3)).2.2 ∧ (z = -6 ∨ 0 ≤ z) ∧ (z = -6 → (q_NI (M 0 0) (M 0 4) (M 6) (M 0 8) own (M 1) (M 2) (M 3)).2.1 = -6)) := by
  refine q_CI.of hI (by decide) rfl RX9 rfl [(0, .ref (q_ad G 0)), (1, .int (q_I own))] rfl (Nat.le_of_ble_eq_true rfl) (fun E F FI => ?_)
  have huX9 : ∀ w ∈ wsX90, w ∈ wsX9_goNight := by decide +kernel
  refine q_MRof (fun hM => ?_)
  obtain ⟨⟨xt, xk⟩, ⟨xh, xf, xa⟩, xF, xs, xp⟩ := id hZ
  have hz := hZ.1
  refine q_aload_n F dX9_goNight_0 0 rfl ?_
  refine q_callVV (n := 0) (T := TX9) F (c_X9_asNow G hI M hm) rfl rfl hm.1 gX9_goNight_X9_asNow rfl ⟨by decide, by decide, by decide +kernel⟩ rfl ⟨rfl, rfl, Nat.le_of_ble_eq_true rfl, Nat.le_of_ble_eq_true rfl⟩ rfl (Nat.le_of_ble_eq_true rfl) dX9_goNight_1 (fun N1 p1 => ?_)
  refine q_aload_n F dX9_goNight_4 0 rfl ?_
  refine q_iconst F dX9_goNight_5 ?_
  refine q_puti (T := TX9) (ref := "LeastHungryModel") F huX9 rfl hm.1 17 (by decide) (by decide +kernel) rfl 17 rfl tyX9 tyX9_ok nmX9 rfl rfl (by decide +kernel) (by omega) dX9_goNight_6 (fun N6 eN6 => ?_)
  refine q_aload_n F dX9_goNight_9 0 rfl ?_
  refine q_iconst F dX9_goNight_10 ?_
  refine q_puti (T := TX9) (ref := "LeastHungryModel") F huX9 rfl hm.1 15 (by decide) (by decide +kernel) rfl 15 rfl tyX9 tyX9_ok nmX9 rfl rfl (by decide +kernel) (by omega) dX9_goNight_11 (fun N11 eN11 => ?_)
  refine q_aload_n F dX9_goNight_14 0 rfl ?_
  refine q_bipush F dX9_goNight_15 (by decide) ?_
  refine q_puti (T := TX9) (ref := "LeastHungryModel") F huX9 rfl hm.1 18 (by decide) (by decide +kernel) rfl 18 rfl tyX9 tyX9_ok nmX9 rfl rfl (by decide +kernel) (by omega) dX9_goNight_17 (fun N17 eN17 => ?_)
  have ne17 : ∀ j, j ≠ 0 → N17 j = N1 j := fun j hj => by rw [eN17, q_up_ne hj, eN11, q_up_ne hj, eN6, q_up_ne hj]
  have kz17 : q_kz M N17 := q_kz_tr (q_an_kz p1) (q_kz_tr (q_kz_e0 eN6 (by omega)) (q_kz_tr (q_kz_e0 eN11 (by omega)) (q_kz_e0 eN17 (by omega))) : q_kz N1 N17)
  have z15 : N17 0 15 = 0 := by rw [eN17, q_up_at, if_neg (by decide), eN11, q_up_at, if_pos rfl]
  have z17 : N17 0 17 = 0 := by rw [eN17, q_up_at, if_neg (by decide), eN11, q_up_at, if_neg (by decide), eN6, q_up_at, if_pos rfl]
  have z18 : N17 0 18 = -6 := by rw [eN17, q_up_at, if_pos rfl]
  obtain ⟨sim17, tb17⟩ := q_an_sim p1 ne17 z15 z17 z18
  have zv1 := q_an_zv p1 hZ
  have zv17 : q_zv N17 := ⟨q_z0_kz hz kz17, by rw [ne17 7 (by omega)]; exact zv1.2.1, by rw [ne17 8 (by omega)]; exact zv1.2.2.1, by rw [ne17 9 (by omega)]; exact zv1.2.2.2⟩
  refine q_iconst F dX9_goNight_20 ?_
  refine q_istore_n F dX9_goNight_21 [(2, .int (q_I 0)), (0, .ref (q_ad G 0)), (1, .int (q_I own))] (Nat.le_of_ble_eq_true rfl) rfl ?_
  have lp22_1 : ∀ (k22_1 : Nat) (k : Int) (m : Nat) (M1 : q_M), (q_gI M N17 M1 own k m) → (M 0 8 - k).toNat = k22_1 → q_Y G E 6 M1 [(0, .ref (q_ad G 0)), (1, .int (q_I own)), (2, .int (q_I k))] 22 [] := by
    intro k22_1
    induction k22_1 using Nat.strongRecOn with
    | _ k22_1 ih22_1 =>
      intro k m M1 hi22 hk22
      refine q_MRof (fun hM22 => ?_)
      obtain ⟨⟨k0, kn, km⟩, kz, zv, ⟨tb, a0, a1⟩, hu, fl, rn⟩ := id hi22
      have k6 : M1 6 = M 6 := kz.1 6 (by omega)
      have k8 : M1 0 8 = M 0 8 := kz.2.2.2.2
      have t1 : M1 0 0 = M 0 0 := kz.2.1
      have ke1 : M1 0 4 = M 0 4 := kz.2.2.1
      refine q_iload_n F dX9_goNight_22 2 rfl ?_
      refine q_aload_n F dX9_goNight_23 0 rfl ?_
      refine q_geti (T := TX9) (ref := "LeastHungryModel") F huX9 rfl hm.1 8 (by decide) (by decide +kernel) rfl 8 rfl rfl dX9_goNight_24 (fun h24 => ?_)
      refine q_icmp_ge F 291 dX9_goNight_27 (by decide) (by omega) (fun c27 => ?_) (fun c27 => ?_)
      · refine q_bipush F dX9_goNight_291 (by decide) ?_
        exact q_iret F FI dX9_goNight_293 (by omega) (q_gN_fin sim17 kz zv (q_gI_end hi22 (by omega)) (fun h => absurd rfl h) (Or.inl ⟨rfl, rfl⟩))
      · have hk : k < M 0 8 := by omega
        have ok := q_gI_ok hi22 hk
        have okS := ok.1
        unfold q_okS at okS
        have ok2 := ok.2
        refine q_aload_n F dX9_goNight_30 0 rfl ?_
        refine q_getr (T := TX9) (ref := "LeastHungryModel") F huX9 rfl hm.1 9 (by decide) (by decide +kernel) rfl rfl dX9_goNight_31 ?_
        refine q_iload_n F dX9_goNight_34 2 rfl ?_
        refine q_iald F hm.2.2.2.2.2.2.1 (Nat.le_of_ble_eq_true rfl) (by omega) dX9_goNight_35 (fun h35 => ?_)
        refine q_nm (fun v36 e36 => ?_)
        refine q_istore_n F dX9_goNight_36 [(3, .int (q_I v36)), (0, .ref (q_ad G 0)), (1, .int (q_I own)), (2, .int (q_I k))] (Nat.le_of_ble_eq_true rfl) rfl ?_
        refine q_aload_n F dX9_goNight_37 1 rfl ?_
        refine q_iconst F dX9_goNight_38 ?_
        refine q_puti (T := TX9) (ref := "LeastHungryModel") F huX9 rfl hm.1 16 (by decide) (by decide +kernel) rfl 16 rfl tyX9 tyX9_ok nmX9 rfl rfl (by decide +kernel) (by omega) dX9_goNight_39 (fun N39 eN39 => ?_)
        have es : v36 = M 6 k := by rw [e36, k6]
        have v39 : q_v9 N39 = q_v9 M1 := by rw [eN39]; exact q_v9_ne (by omega)
        have kz1 : q_kz M1 N39 := by rw [eN39]; exact q_kz_u0 (by omega)
        have zv39 : q_zv N39 := q_zv_v9 zv kz1 v39
        have t39 : N39 0 0 = M 0 0 := by rw [kz1.2.1, t1]
        have a39 : N39 0 17 = M1 0 17 := by rw [eN39, q_up_at, if_neg (by decide)]
        have u39 : N39 0 18 = M1 0 18 := by rw [eN39, q_up_at, if_neg (by decide)]
        have k39 : N39 6 = M 6 := by rw [kz1.1 6 (by omega), k6]
        have z39 := zv39.1
        refine q_iload_n F dX9_goNight_42 0 rfl ?_
        refine q_bipush F dX9_goNight_43 (by decide) ?_
        refine q_icmp_ne F 58 dX9_goNight_45 (by decide) (by omega) (fun c45 => ?_) (fun c45 => ?_)
        · refine q_iload_n F dX9_goNight_58 0 rfl ?_
          refine q_bipush F dX9_goNight_59 (by decide) ?_
          refine q_icmp_lt F 161 dX9_goNight_61 (by decide) (by omega) (fun c61 => ?_) (fun c61 => ?_)
          · refine q_iload_n F dX9_goNight_161 0 rfl ?_
            refine q_bipush F dX9_goNight_162 (by decide) ?_
            refine q_isub F dX9_goNight_164 ?_
            refine q_nm (fun v165 e165 => ?_)
            refine q_istore F dX9_goNight_165 [(4, .int (q_I v165)), (3, .int (q_I v36)), (0, .ref (q_ad G 0)), (1, .int (q_I own)), (2, .int (q_I k))] (Nat.le_of_ble_eq_true rfl) rfl ?_
            refine q_aload_n F dX9_goNight_167 2 rfl ?_
            refine q_getr (T := TX9) (ref := "LeastHungryModel") F huX9 rfl hm.1 9 (by decide) (by decide +kernel) rfl rfl dX9_goNight_168 ?_
            refine q_iload_n F dX9_goNight_171 4 rfl ?_
            refine q_iconst F dX9_goNight_172 ?_
            refine q_iadd F dX9_goNight_173 ?_
            refine q_iald F hm.2.2.2.2.2.2.1 (Nat.le_of_ble_eq_true rfl) (by omega) dX9_goNight_174 (fun h174 => ?_)
            refine q_nm (fun v175 e175 => ?_)
            refine q_istore F dX9_goNight_175 [(5, .int (q_I v175)), (4, .int (q_I v165)), (3, .int (q_I v36)), (0, .ref (q_ad G 0)), (1, .int (q_I own)), (2, .int (q_I k))] (Nat.le_of_ble_eq_true rfl) rfl ?_
            have h175 : v175 = M 6 (k + 1) := by rw [e175, k39]
            refine q_aload_n F dX9_goNight_177 3 rfl ?_
            refine q_iload F dX9_goNight_178 0 rfl ?_
            refine q_bipush F dX9_goNight_180 (by decide) ?_
            refine q_icmp_lt F 199 dX9_goNight_182 (by decide) (by omega) (fun c182 => ?_) (fun c182 => ?_)
            · refine q_aload_n F dX9_goNight_199 3 rfl ?_
              refine q_iload F dX9_goNight_200 1 rfl ?_
              refine q_callVP (n := 1) (T := TX9) F (c_X9_isThere G hI N39 hm v165 (by omega) z39) rfl rfl hm.1 gX9_goNight_X9_isThere rfl ⟨by decide, by decide, by decide +kernel⟩ rfl ⟨rfl, rfl, Nat.le_of_ble_eq_true rfl, Nat.le_of_ble_eq_true rfl⟩ rfl (Nat.le_of_ble_eq_true rfl) dX9_goNight_202 (fun h202 => ?_)
              refine q_ifb_eq F 212 dX9_goNight_205 (by decide) (fun c205 => ?_) (fun c205 => ?_)
              · refine q_iconst F dX9_goNight_212 ?_
                refine q_puti (T := TX9) (ref := "LeastHungryModel") F huX9 rfl hm.1 16 (by decide) (by decide +kernel) rfl 16 rfl tyX9 tyX9_ok nmX9 rfl rfl (by decide +kernel) (by omega) dX9_goNight_213 (fun N213 eN213 => ?_)
                have r213 : N213 0 16 = 1 := by rw [eN213, q_up_at, if_pos rfl]
                refine q_aload_n F dX9_goNight_216 3 rfl ?_
                refine q_geti (T := TX9) (ref := "LeastHungryModel") F huX9 rfl hm.1 16 (by decide) (by decide +kernel) rfl 16 rfl rfl dX9_goNight_217 (fun h217 => ?_)
                refine q_if_ne F 244 dX9_goNight_220 (by decide) (by omega) (fun c220 => ?_) (fun c220 => ?_)
                rotate_left
                · exfalso; omega
                refine q_aload_n F dX9_goNight_244 3 rfl ?_
                refine q_geti (T := TX9) (ref := "LeastHungryModel") F huX9 rfl hm.1 16 (by decide) (by decide +kernel) rfl 16 rfl rfl dX9_goNight_245 (fun h245 => ?_)
                refine q_if_ne F 263 dX9_goNight_248 (by decide) (by omega) (fun c248 => ?_) (fun c248 => ?_)
                rotate_left
                · exfalso; omega
                obtain ⟨v263, e263⟩ : ∃ z_ : Int, z_ = k + 2 := ⟨_, rfl⟩
                refine q_iinc F dX9_goNight_263 5 rfl e263 [(2, .int (q_I v263)), (5, .int (q_I v175)), (4, .int (q_I v165)), (3, .int (q_I v36)), (0, .ref (q_ad G 0)), (1, .int (q_I own))] (Nat.le_of_ble_eq_true rfl) rfl ?_
                have hkz213 : q_kz M1 N213 := q_kz_tr kz1 (q_kz_e0 eN213 (by omega))
                have v213 : q_v9 N213 = q_v9 M1 := by rw [eN213, q_v9_ne (by omega), v39]
                have a213 : N213 0 17 = M1 0 17 := by rw [eN213, q_up_at, if_neg (by decide), a39]
                have u213 : N213 0 18 = M1 0 18 := by rw [eN213, q_up_at, if_neg (by decide), u39]
                have hg : v165 = M 6 k - 65 := by omega
                have hh : v175 = M 6 (k + 1) := h175
                have hsg : ¬ M 6 k = 46 := by omega
                have hR : N213 0 16 = 1 := by rw [eN213, q_up_at, if_pos rfl]
                have hA : q_act (q_hrT (M 0 0)) (M 0 0) (M 0 4) (q_v9 M1) (M 6 k) (M 6 (k + 1)) own = (1, q_v9 N213) := by rw [q_act_nof (by omega) hsg (by omega) (by rw [← hg, ← t39]; exact c205), v213]
                have hkz : q_kz M1 N213 := hkz213
                have hcv : q_zv N213 := q_zv_v9 zv hkz213 v213
                have h17 : N213 0 17 = M1 0 17 := a213
                have hr0 : ¬ (1 : Int) = 0 := by decide
                refine q_aload_n F dX9_goNight_266 4 rfl ?_
                refine q_geti (T := TX9) (ref := "LeastHungryModel") F huX9 rfl hm.1 16 (by decide) (by decide +kernel) rfl 16 rfl rfl dX9_goNight_267 (fun h267 => ?_)
                refine q_if_le F 278 dX9_goNight_270 (by decide) (by omega) (fun c270 => ?_) (fun c270 => ?_)
                · exfalso; omega
                refine q_aload_n F dX9_goNight_273 4 rfl ?_
                refine q_geti (T := TX9) (ref := "LeastHungryModel") F huX9 rfl hm.1 17 (by decide) (by decide +kernel) rfl 17 rfl rfl dX9_goNight_274 (fun h274 => ?_)
                exact q_iret F FI dX9_goNight_277 (by omega) (q_gN_fin sim17 (q_kz_tr kz hkz) hcv (by rw [q_gI_fail hi22 hk hr0 hA, h17]) (fun _ => hR) (Or.inr (by omega)))
              · refine q_iconst F dX9_goNight_208 ?_
                refine q_goto F 213 dX9_goNight_209 (by decide) ?_
                refine q_puti (T := TX9) (ref := "LeastHungryModel") F huX9 rfl hm.1 16 (by decide) (by decide +kernel) rfl 16 rfl tyX9 tyX9_ok nmX9 rfl rfl (by decide +kernel) (by omega) dX9_goNight_213 (fun N213 eN213 => ?_)
                have r213 : N213 0 16 = 0 := by rw [eN213, q_up_at, if_pos rfl]
                refine q_aload_n F dX9_goNight_216 3 rfl ?_
                refine q_geti (T := TX9) (ref := "LeastHungryModel") F huX9 rfl hm.1 16 (by decide) (by decide +kernel) rfl 16 rfl rfl dX9_goNight_217 (fun h217 => ?_)
                refine q_if_ne F 244 dX9_goNight_220 (by decide) (by omega) (fun c220 => ?_) (fun c220 => ?_)
                · exfalso; omega
                refine q_iload F dX9_goNight_223 0 rfl ?_
                refine q_bipush F dX9_goNight_225 (by decide) ?_
                refine q_icmp_lt F 244 dX9_goNight_227 (by decide) (by omega) (fun c227 => ?_) (fun c227 => ?_)
                rotate_left
                · exfalso; omega
                refine q_aload_n F dX9_goNight_244 3 rfl ?_
                refine q_geti (T := TX9) (ref := "LeastHungryModel") F huX9 rfl hm.1 16 (by decide) (by decide +kernel) rfl 16 rfl rfl dX9_goNight_245 (fun h245 => ?_)
                refine q_if_ne F 263 dX9_goNight_248 (by decide) (by omega) (fun c248 => ?_) (fun c248 => ?_)
                · exfalso; omega
                have gi := q_has_in c205
                refine q_aload_n F dX9_goNight_251 3 rfl ?_
                refine q_getr (T := TX9) (ref := "LeastHungryModel") F huX9 rfl hm.1 11 (by decide) (by decide +kernel) rfl rfl dX9_goNight_252 ?_
                refine q_iload F dX9_goNight_255 1 rfl ?_
                refine q_iload F dX9_goNight_257 0 rfl ?_
                refine q_bipush F dX9_goNight_259 (by decide) ?_
                refine q_isub F dX9_goNight_261 ?_
                refine q_iast F hm.2.2.2.2.2.2.2.2.1 (Nat.le_of_ble_eq_true rfl) (by omega) (by omega) dX9_goNight_262 (fun N262 eN262 => ?_)
                obtain ⟨v263, e263⟩ : ∃ z_ : Int, z_ = k + 2 := ⟨_, rfl⟩
                refine q_iinc F dX9_goNight_263 5 rfl e263 [(2, .int (q_I v263)), (5, .int (q_I v175)), (4, .int (q_I v165)), (3, .int (q_I v36)), (0, .ref (q_ad G 0)), (1, .int (q_I own))] (Nat.le_of_ble_eq_true rfl) rfl ?_
                have hkz213 : q_kz M1 N213 := q_kz_tr kz1 (q_kz_e0 eN213 (by omega))
                have v213 : q_v9 N213 = q_v9 M1 := by rw [eN213, q_v9_ne (by omega), v39]
                have a213 : N213 0 17 = M1 0 17 := by rw [eN213, q_up_at, if_neg (by decide), a39]
                have u213 : N213 0 18 = M1 0 18 := by rw [eN213, q_up_at, if_neg (by decide), u39]
                have hg : v165 = M 6 k - 65 := by omega
                have hh : v175 = M 6 (k + 1) := h175
                have hsg : ¬ M 6 k = 46 := by omega
                have hR : N262 0 16 = 0 := by rw [eN262, q_up_ne (by omega)]; exact c220
                have hA : q_act (q_hrT (M 0 0)) (M 0 0) (M 0 4) (q_v9 M1) (M 6 k) (M 6 (k + 1)) own = (0, q_v9 N262) := by rw [q_act_fe (by omega) hsg (by omega) (by rw [← hg, ← t39]; exact c205), eN262, q_v9_fe, v213, hg, hh]
                have hkz : q_kz M1 N262 := q_kz_tr hkz213 (q_kz_e eN262 (by omega))
                have h17 : N262 0 17 = M1 0 17 := by rw [eN262, q_up_ne (by omega)]; exact a213
                have h18 : N262 0 18 = -6 ∨ 0 ≤ N262 0 18 := by rw [eN262, q_up_ne (by omega), u213]; exact hu
                refine q_aload_n F dX9_goNight_266 4 rfl ?_
                refine q_geti (T := TX9) (ref := "LeastHungryModel") F huX9 rfl hm.1 16 (by decide) (by decide +kernel) rfl 16 rfl rfl dX9_goNight_267 (fun h267 => ?_)
                refine q_if_le F 278 dX9_goNight_270 (by decide) (by omega) (fun c270 => ?_) (fun c270 => ?_)
                rotate_left
                · exfalso; omega
                refine q_aload_n F dX9_goNight_278 4 rfl ?_
                refine q_dup F dX9_goNight_279 rfl ?_
                refine q_geti (T := TX9) (ref := "LeastHungryModel") F huX9 rfl hm.1 17 (by decide) (by decide +kernel) rfl 17 rfl rfl dX9_goNight_280 (fun h280 => ?_)
                refine q_iconst F dX9_goNight_283 ?_
                refine q_iadd F dX9_goNight_284 ?_
                refine q_puti (T := TX9) (ref := "LeastHungryModel") F huX9 rfl hm.1 17 (by decide) (by decide +kernel) rfl 17 rfl tyX9 tyX9_ok nmX9 rfl rfl (by decide +kernel) (by omega) dX9_goNight_285 (fun N285 eN285 => ?_)
                refine q_goto F 22 dX9_goNight_288 (by decide) ?_
                refine q_drop [4, 5, 0] rfl ?_
                exact ih22_1 _ (by omega) v263 (m - 1) N285 (q_gI_s hi22 hk xp.1.2 hown hkz (by rw [hA]) (by rw [hA]) h18 h17 eN285 (by rw [if_neg hsg]; omega)) rfl
            · refine q_aload_n F dX9_goNight_185 3 rfl ?_
              refine q_iload F dX9_goNight_186 1 rfl ?_
              refine q_iload F dX9_goNight_188 0 rfl ?_
              refine q_bipush F dX9_goNight_190 (by decide) ?_
              refine q_isub F dX9_goNight_192 ?_
              refine q_callVP (n := 2) (T := TX9) F (c_X9_whyNotGo G hI N39 hm v165 _ zv39 (by omega)) rfl rfl hm.1 gX9_goNight_X9_whyNotGo rfl ⟨by decide, by decide, by decide +kernel⟩ rfl ⟨rfl, rfl, Nat.le_of_ble_eq_true rfl, Nat.le_of_ble_eq_true rfl⟩ rfl (Nat.le_of_ble_eq_true rfl) dX9_goNight_193 (fun h193 => ?_)
              refine q_goto F 213 dX9_goNight_196 (by decide) ?_
              refine q_puti (T := TX9) (ref := "LeastHungryModel") F huX9 rfl hm.1 16 (by decide) (by decide +kernel) rfl 16 rfl tyX9 tyX9_ok nmX9 rfl rfl (by decide +kernel) (by omega) dX9_goNight_213 (fun N213 eN213 => ?_)
              refine q_aload_n F dX9_goNight_216 3 rfl ?_
              refine q_geti (T := TX9) (ref := "LeastHungryModel") F huX9 rfl hm.1 16 (by decide) (by decide +kernel) rfl 16 rfl rfl dX9_goNight_217 (fun h217 => ?_)
              refine q_if_ne F 244 dX9_goNight_220 (by decide) (by omega) (fun c220 => ?_) (fun c220 => ?_)
              · refine q_aload_n F dX9_goNight_244 3 rfl ?_
                refine q_geti (T := TX9) (ref := "LeastHungryModel") F huX9 rfl hm.1 16 (by decide) (by decide +kernel) rfl 16 rfl rfl dX9_goNight_245 (fun h245 => ?_)
                refine q_if_ne F 263 dX9_goNight_248 (by decide) (by omega) (fun c248 => ?_) (fun c248 => ?_)
                rotate_left
                · exfalso; omega
                obtain ⟨v263, e263⟩ : ∃ z_ : Int, z_ = k + 2 := ⟨_, rfl⟩
                refine q_iinc F dX9_goNight_263 5 rfl e263 [(2, .int (q_I v263)), (5, .int (q_I v175)), (4, .int (q_I v165)), (3, .int (q_I v36)), (0, .ref (q_ad G 0)), (1, .int (q_I own))] (Nat.le_of_ble_eq_true rfl) rfl ?_
                have hkz213 : q_kz M1 N213 := q_kz_tr kz1 (q_kz_e0 eN213 (by omega))
                have v213 : q_v9 N213 = q_v9 M1 := by rw [eN213, q_v9_ne (by omega), v39]
                have a213 : N213 0 17 = M1 0 17 := by rw [eN213, q_up_at, if_neg (by decide), a39]
                have u213 : N213 0 18 = M1 0 18 := by rw [eN213, q_up_at, if_neg (by decide), u39]
                have hg : v165 = M 6 k - 65 := by omega
                have hh : v175 = M 6 (k + 1) := h175
                have hsg : ¬ M 6 k = 46 := by omega
                have hR : N213 0 16 = q_goW (M 0 0) (q_v9 M1) (M 6 k - 65) (M 6 (k + 1) - 97) := by rw [eN213, q_up_at, if_pos rfl, t39, v39, hg, hh]
                have hr0 : ¬ q_goW (M 0 0) (q_v9 M1) (M 6 k - 65) (M 6 (k + 1) - 97) = 0 := by rw [← hR]; exact c220
                have hgR := q_goW_R (th := M 0 0) (s := q_v9 M1) (g := M 6 k - 65) (a := M 6 (k + 1) - 97)
                have hA : q_act (q_hrT (M 0 0)) (M 0 0) (M 0 4) (q_v9 M1) (M 6 k) (M 6 (k + 1)) own = (q_goW (M 0 0) (q_v9 M1) (M 6 k - 65) (M 6 (k + 1) - 97), q_v9 N213) := by rw [q_act_nog (by omega) hsg (by omega) hr0, v213]
                have hkz : q_kz M1 N213 := hkz213
                have hcv : q_zv N213 := q_zv_v9 zv hkz213 v213
                have h17 : N213 0 17 = M1 0 17 := a213
                refine q_aload_n F dX9_goNight_266 4 rfl ?_
                refine q_geti (T := TX9) (ref := "LeastHungryModel") F huX9 rfl hm.1 16 (by decide) (by decide +kernel) rfl 16 rfl rfl dX9_goNight_267 (fun h267 => ?_)
                refine q_if_le F 278 dX9_goNight_270 (by decide) (by omega) (fun c270 => ?_) (fun c270 => ?_)
                · exfalso; omega
                refine q_aload_n F dX9_goNight_273 4 rfl ?_
                refine q_geti (T := TX9) (ref := "LeastHungryModel") F huX9 rfl hm.1 17 (by decide) (by decide +kernel) rfl 17 rfl rfl dX9_goNight_274 (fun h274 => ?_)
                exact q_iret F FI dX9_goNight_277 (by omega) (q_gN_fin sim17 (q_kz_tr kz hkz) hcv (by rw [q_gI_fail hi22 hk hr0 hA, h17]) (fun _ => hR) (Or.inr (by omega)))
              · refine q_iload F dX9_goNight_223 0 rfl ?_
                refine q_bipush F dX9_goNight_225 (by decide) ?_
                refine q_icmp_lt F 244 dX9_goNight_227 (by decide) (by omega) (fun c227 => ?_) (fun c227 => ?_)
                · exfalso; omega
                have gW : q_goW (N39 0 0) (q_v9 N39) v165 (v175 - 97) = 0 := by
                  have := c220
                  rw [eN213, q_up_at, if_pos rfl] at this
                  exact this
                have gi := q_has_in (q_goW_th gW)
                have i7 : N213 7 = N39 7 := by rw [eN213, q_up_ne (by omega)]
                have xh7 : 0 ≤ N213 7 v165 ∧ N213 7 v165 ≤ 20 := by rw [i7]; exact zv39.2.1 v165 gi.1 gi.2
                refine q_aload_n F dX9_goNight_230 3 rfl ?_
                refine q_iload F dX9_goNight_231 1 rfl ?_
                refine q_iload F dX9_goNight_233 0 rfl ?_
                refine q_bipush F dX9_goNight_235 (by decide) ?_
                refine q_isub F dX9_goNight_237 ?_
                refine q_callVV (n := 2) (T := TX9) F (c_X9_go G hI N213 hm v165 _ (by omega)) rfl rfl hm.1 gX9_goNight_X9_go rfl ⟨by decide, by decide, by decide +kernel⟩ rfl ⟨rfl, rfl, Nat.le_of_ble_eq_true rfl, Nat.le_of_ble_eq_true rfl⟩ rfl (Nat.le_of_ble_eq_true rfl) dX9_goNight_238 (fun N238 p238 => ?_)
                refine q_goto F 263 dX9_goNight_241 (by decide) ?_
                obtain ⟨v263, e263⟩ : ∃ z_ : Int, z_ = k + 2 := ⟨_, rfl⟩
                refine q_iinc F dX9_goNight_263 5 rfl e263 [(2, .int (q_I v263)), (5, .int (q_I v175)), (4, .int (q_I v165)), (3, .int (q_I v36)), (0, .ref (q_ad G 0)), (1, .int (q_I own))] (Nat.le_of_ble_eq_true rfl) rfl ?_
                have hkz213 : q_kz M1 N213 := q_kz_tr kz1 (q_kz_e0 eN213 (by omega))
                have v213 : q_v9 N213 = q_v9 M1 := by rw [eN213, q_v9_ne (by omega), v39]
                have a213 : N213 0 17 = M1 0 17 := by rw [eN213, q_up_at, if_neg (by decide), a39]
                have u213 : N213 0 18 = M1 0 18 := by rw [eN213, q_up_at, if_neg (by decide), u39]
                have hg : v165 = M 6 k - 65 := by omega
                have hh : v175 = M 6 (k + 1) := h175
                have hsg : ¬ M 6 k = 46 := by omega
                have hR : N238 0 16 = 0 := by rw [p238, q_up_ne (by omega), q_up_ne (by omega)]; exact c220
                have hW : q_goW (M 0 0) (q_v9 M1) (M 6 k - 65) (M 6 (k + 1) - 97) = 0 := by
                  have := c220
                  rw [eN213, q_up_at, if_pos rfl, t39, v39, hg, hh] at this
                  exact this
                have hA : q_act (q_hrT (M 0 0)) (M 0 0) (M 0 4) (q_v9 M1) (M 6 k) (M 6 (k + 1)) own = (0, q_v9 N238) := by rw [q_act_go (by omega) hsg (by omega) hW, p238, q_v9_go, v213, hg, hh]
                have hkz : q_kz M1 N238 := q_kz_tr hkz213 (by rw [p238]; exact q_kz_tr (q_kz_up (by omega)) (q_kz_up (by omega)))
                have h17 : N238 0 17 = M1 0 17 := by rw [p238, q_up_ne (by omega), q_up_ne (by omega)]; exact a213
                have h18 : N238 0 18 = -6 ∨ 0 ≤ N238 0 18 := by rw [p238, q_up_ne (by omega), q_up_ne (by omega), u213]; exact hu
                refine q_aload_n F dX9_goNight_266 4 rfl ?_
                refine q_geti (T := TX9) (ref := "LeastHungryModel") F huX9 rfl hm.1 16 (by decide) (by decide +kernel) rfl 16 rfl rfl dX9_goNight_267 (fun h267 => ?_)
                refine q_if_le F 278 dX9_goNight_270 (by decide) (by omega) (fun c270 => ?_) (fun c270 => ?_)
                rotate_left
                · exfalso; omega
                refine q_aload_n F dX9_goNight_278 4 rfl ?_
                refine q_dup F dX9_goNight_279 rfl ?_
                refine q_geti (T := TX9) (ref := "LeastHungryModel") F huX9 rfl hm.1 17 (by decide) (by decide +kernel) rfl 17 rfl rfl dX9_goNight_280 (fun h280 => ?_)
                refine q_iconst F dX9_goNight_283 ?_
                refine q_iadd F dX9_goNight_284 ?_
                refine q_puti (T := TX9) (ref := "LeastHungryModel") F huX9 rfl hm.1 17 (by decide) (by decide +kernel) rfl 17 rfl tyX9 tyX9_ok nmX9 rfl rfl (by decide +kernel) (by omega) dX9_goNight_285 (fun N285 eN285 => ?_)
                refine q_goto F 22 dX9_goNight_288 (by decide) ?_
                refine q_drop [4, 5, 0] rfl ?_
                exact ih22_1 _ (by omega) v263 (m - 1) N285 (q_gI_s hi22 hk xp.1.2 hown hkz (by rw [hA]) (by rw [hA]) h18 h17 eN285 (by rw [if_neg hsg]; omega)) rfl
          · refine q_aload_n F dX9_goNight_64 1 rfl ?_
            refine q_getr (T := TX9) (ref := "LeastHungryModel") F huX9 rfl hm.1 9 (by decide) (by decide +kernel) rfl rfl dX9_goNight_65 ?_
            refine q_iload_n F dX9_goNight_68 3 rfl ?_
            refine q_iconst F dX9_goNight_69 ?_
            refine q_iadd F dX9_goNight_70 ?_
            refine q_iald F hm.2.2.2.2.2.2.1 (Nat.le_of_ble_eq_true rfl) (by omega) dX9_goNight_71 (fun h71 => ?_)
            refine q_bipush F dX9_goNight_72 (by decide) ?_
            refine q_isub F dX9_goNight_74 ?_
            refine q_nm (fun v75 e75 => ?_)
            refine q_istore F dX9_goNight_75 [(4, .int (q_I v75)), (3, .int (q_I v36)), (0, .ref (q_ad G 0)), (1, .int (q_I own)), (2, .int (q_I k))] (Nat.le_of_ble_eq_true rfl) rfl ?_
            refine q_aload_n F dX9_goNight_77 2 rfl ?_
            refine q_aload_n F dX9_goNight_78 2 rfl ?_
            refine q_iload_n F dX9_goNight_79 1 rfl ?_
            refine q_bipush F dX9_goNight_80 (by decide) ?_
            refine q_isub F dX9_goNight_82 ?_
            refine q_callVP (n := 1) (T := TX9) F (c_X9_inHouse G hI N39 hm _ zv39 (by omega)) rfl rfl hm.1 gX9_goNight_X9_inHouse rfl ⟨by decide, by decide, by decide +kernel⟩ rfl ⟨rfl, rfl, Nat.le_of_ble_eq_true rfl, Nat.le_of_ble_eq_true rfl⟩ rfl (Nat.le_of_ble_eq_true rfl) dX9_goNight_83 (fun h83 => ?_)
            refine q_if_ne F 93 dX9_goNight_86 (by decide) (by omega) (fun c86 => ?_) (fun c86 => ?_)
            · refine q_iconst F dX9_goNight_93 ?_
              refine q_puti (T := TX9) (ref := "LeastHungryModel") F huX9 rfl hm.1 16 (by decide) (by decide +kernel) rfl 16 rfl tyX9 tyX9_ok nmX9 rfl rfl (by decide +kernel) (by omega) dX9_goNight_94 (fun N94 eN94 => ?_)
              have r94 : N94 0 16 = 0 := by rw [eN94, q_up_at, if_pos rfl]
              have v94 : q_v9 N94 = q_v9 M1 := by rw [eN94, q_v9_ne (by omega), v39]
              have kz94 : q_kz M1 N94 := q_kz_tr kz1 (q_kz_e0 eN94 (by omega))
              have zv94 : q_zv N94 := q_zv_v9 zv kz94 v94
              have tb94 : q_Tb (q_v9 N94) k := by rw [v94]; exact tb
              have hu94 : qt_u (q_v9 N94) = -6 ∨ 0 ≤ qt_u (q_v9 N94) := by rw [v94]; exact hu
              refine q_aload_n F dX9_goNight_97 2 rfl ?_
              refine q_geti (T := TX9) (ref := "LeastHungryModel") F huX9 rfl hm.1 16 (by decide) (by decide +kernel) rfl 16 rfl rfl dX9_goNight_98 (fun h98 => ?_)
              refine q_if_ne F 155 dX9_goNight_101 (by decide) (by omega) (fun c101 => ?_) (fun c101 => ?_)
              · exfalso; omega
              have h75 : v75 = M 6 (k + 1) - 48 := by rw [e75, k39]
              refine q_aload_n F dX9_goNight_104 2 rfl ?_
              refine q_iload_n F dX9_goNight_105 1 rfl ?_
              refine q_bipush F dX9_goNight_106 (by decide) ?_
              refine q_isub F dX9_goNight_108 ?_
              refine q_iload F dX9_goNight_109 0 rfl ?_
              refine q_iload_n F dX9_goNight_111 3 rfl ?_
              refine q_icmp_le F 122 dX9_goNight_112 (by decide) (by omega) (fun c112 => ?_) (fun c112 => ?_)
              · refine q_iconst F dX9_goNight_122 ?_
                refine q_callVI (n := 2) (T := TX9) F (c_X9_dish G hI N94 hm _ 0 k zv94 tb94.1 (by omega) (by omega)) rfl rfl hm.1 gX9_goNight_X9_dish rfl ⟨by decide, by decide, by decide +kernel⟩ rfl ⟨rfl, rfl, Nat.le_of_ble_eq_true rfl, Nat.le_of_ble_eq_true rfl⟩ rfl (Nat.le_of_ble_eq_true rfl) dX9_goNight_123 (fun r123 N123 h123 p123 => ?_)
                refine q_istore F dX9_goNight_126 [(5, .int (q_I r123)), (4, .int (q_I v75)), (3, .int (q_I v36)), (0, .ref (q_ad G 0)), (1, .int (q_I own)), (2, .int (q_I k))] (Nat.le_of_ble_eq_true rfl) rfl ?_
                refine q_aload_n F dX9_goNight_128 3 rfl ?_
                refine q_iload F dX9_goNight_129 0 rfl ?_
                refine q_if_ne F 148 dX9_goNight_131 (by decide) (by omega) (fun c131 => ?_) (fun c131 => ?_)
                · refine q_aload_n F dX9_goNight_148 3 rfl ?_
                  refine q_geti (T := TX9) (ref := "LeastHungryModel") F huX9 rfl hm.1 18 (by decide) (by decide +kernel) rfl 18 rfl rfl dX9_goNight_149 (fun h149 => ?_)
                  refine q_puti (T := TX9) (ref := "LeastHungryModel") F huX9 rfl hm.1 18 (by decide) (by decide +kernel) rfl 18 rfl tyX9 tyX9_ok nmX9 rfl rfl (by decide +kernel) (by omega) dX9_goNight_152 (fun N152 eN152 => ?_)
                  obtain ⟨v155, e155⟩ : ∃ z_ : Int, z_ = k + 2 := ⟨_, rfl⟩
                  refine q_iinc F dX9_goNight_155 5 rfl e155 [(2, .int (q_I v155)), (5, .int (q_I r123)), (4, .int (q_I v75)), (3, .int (q_I v36)), (0, .ref (q_ad G 0)), (1, .int (q_I own))] (Nat.le_of_ble_eq_true rfl) rfl ?_
                  refine q_goto F 266 dX9_goNight_158 (by decide) ?_
                  have pd123 : q_v9 N123 = q_su (q_dish (N94 0 0) (N94 0 4) (q_v9 N94) (v36 - 97) 0) (N94 0 18) := by
                    obtain ⟨l, hl1, hl2⟩ := p123.2.1
                    have hdb := (q_dish_b (th := N94 0 0) (ke := N94 0 4) (pl := v36 - 97) (p := 0) tb94 (by omega)).2
                    rw [hl1, hl2 (by omega)]
                    rfl
                  have hR : N152 0 16 = 0 := by rw [eN152, q_up_at, if_neg (by decide), p123.2.2.2 _ (by decide), r94]
                  have hmx : max 0 (M 6 (k + 1) - 48 - own) = 0 := by omega
                  have hD : q_dish (N94 0 0) (N94 0 4) (q_v9 N94) (v36 - 97) 0 = q_dish (M 0 0) (M 0 4) (q_v9 M1) (M 6 k - 97) (max 0 (M 6 (k + 1) - 48 - own)) := by
                    rw [v94, hmx, es, kz94.2.1, kz94.2.2.1, t1, ke1]
                  have hV : q_v9 N152 = q_dish (M 0 0) (M 0 4) (q_v9 M1) (M 6 k - 97) (max 0 (M 6 (k + 1) - 48 - own)) := by
                    rw [← hD, eN152]
                    refine q_v9_u pd123 ?_
                    rw [q_dish_u p123.1 hu94]
                    have q18 : N123 0 18 = qt_u (q_v9 N94) := p123.2.2.2 18 (by decide)
                    have q17 : N123 0 17 = qt_k (q_v9 N94) := p123.2.2.2 17 (by decide)
                    rw [if_neg (fun h => c131 h.1)]; exact q18
                  have hA : q_act (q_hrT (M 0 0)) (M 0 0) (M 0 4) (q_v9 M1) (M 6 k) (M 6 (k + 1)) own = (0, q_v9 N152) := by
                    rw [q_act_dish (by omega) (by rw [← es, show qt_a (q_v9 M1) = N39 9 from (congrArg qt_a v39).symm, ← t39]; exact c86), hV]
                  have hkz : q_kz M1 N152 := q_kz_tr kz94 (q_kz_tr (q_kz_dish p123.2.2.1 p123.2.2.2) (q_kz_e0 eN152 (by omega)))
                  have h17 : N152 0 17 = M1 0 17 := by rw [eN152, q_up_at, if_neg (by decide), p123.2.2.2 _ (by decide), eN94, q_up_at, if_neg (by decide), a39]
                  have h18 : N152 0 18 = -6 ∨ 0 ≤ N152 0 18 := by
                    rw [eN152, q_up_at, if_pos rfl]
                    have q18 : N123 0 18 = M1 0 18 := by rw [p123.2.2.2 18 (by decide), eN94, q_up_at, if_neg (by decide), u39]
                    have q17 : N123 0 17 = M1 0 17 := by rw [p123.2.2.2 17 (by decide), eN94, q_up_at, if_neg (by decide), a39]
                    omega
                  have hsg : ¬ M 6 k = 46 := by omega
                  refine q_aload_n F dX9_goNight_266 4 rfl ?_
                  refine q_geti (T := TX9) (ref := "LeastHungryModel") F huX9 rfl hm.1 16 (by decide) (by decide +kernel) rfl 16 rfl rfl dX9_goNight_267 (fun h267 => ?_)
                  refine q_if_le F 278 dX9_goNight_270 (by decide) (by omega) (fun c270 => ?_) (fun c270 => ?_)
                  rotate_left
                  · exfalso; omega
                  refine q_aload_n F dX9_goNight_278 4 rfl ?_
                  refine q_dup F dX9_goNight_279 rfl ?_
                  refine q_geti (T := TX9) (ref := "LeastHungryModel") F huX9 rfl hm.1 17 (by decide) (by decide +kernel) rfl 17 rfl rfl dX9_goNight_280 (fun h280 => ?_)
                  refine q_iconst F dX9_goNight_283 ?_
                  refine q_iadd F dX9_goNight_284 ?_
                  refine q_puti (T := TX9) (ref := "LeastHungryModel") F huX9 rfl hm.1 17 (by decide) (by decide +kernel) rfl 17 rfl tyX9 tyX9_ok nmX9 rfl rfl (by decide +kernel) (by omega) dX9_goNight_285 (fun N285 eN285 => ?_)
                  refine q_goto F 22 dX9_goNight_288 (by decide) ?_
                  refine q_drop [4, 5, 0] rfl ?_
                  exact ih22_1 _ (by omega) v155 (m - 1) N285 (q_gI_s hi22 hk xp.1.2 hown hkz (by rw [hA]) (by rw [hA]) h18 h17 eN285 (by rw [if_neg hsg]; omega)) rfl
                · refine q_aload_n F dX9_goNight_134 3 rfl ?_
                  refine q_geti (T := TX9) (ref := "LeastHungryModel") F huX9 rfl hm.1 18 (by decide) (by decide +kernel) rfl 18 rfl rfl dX9_goNight_135 (fun h135 => ?_)
                  refine q_if_ge F 148 dX9_goNight_138 (by decide) (by omega) (fun c138 => ?_) (fun c138 => ?_)
                  · refine q_aload_n F dX9_goNight_148 3 rfl ?_
                    refine q_geti (T := TX9) (ref := "LeastHungryModel") F huX9 rfl hm.1 18 (by decide) (by decide +kernel) rfl 18 rfl rfl dX9_goNight_149 (fun h149 => ?_)
                    refine q_puti (T := TX9) (ref := "LeastHungryModel") F huX9 rfl hm.1 18 (by decide) (by decide +kernel) rfl 18 rfl tyX9 tyX9_ok nmX9 rfl rfl (by decide +kernel) (by omega) dX9_goNight_152 (fun N152 eN152 => ?_)
                    obtain ⟨v155, e155⟩ : ∃ z_ : Int, z_ = k + 2 := ⟨_, rfl⟩
                    refine q_iinc F dX9_goNight_155 5 rfl e155 [(2, .int (q_I v155)), (5, .int (q_I r123)), (4, .int (q_I v75)), (3, .int (q_I v36)), (0, .ref (q_ad G 0)), (1, .int (q_I own))] (Nat.le_of_ble_eq_true rfl) rfl ?_
                    refine q_goto F 266 dX9_goNight_158 (by decide) ?_
                    have pd123 : q_v9 N123 = q_su (q_dish (N94 0 0) (N94 0 4) (q_v9 N94) (v36 - 97) 0) (N94 0 18) := by
                      obtain ⟨l, hl1, hl2⟩ := p123.2.1
                      have hdb := (q_dish_b (th := N94 0 0) (ke := N94 0 4) (pl := v36 - 97) (p := 0) tb94 (by omega)).2
                      rw [hl1, hl2 (by omega)]
                      rfl
                    have hR : N152 0 16 = 0 := by rw [eN152, q_up_at, if_neg (by decide), p123.2.2.2 _ (by decide), r94]
                    have hmx : max 0 (M 6 (k + 1) - 48 - own) = 0 := by omega
                    have hD : q_dish (N94 0 0) (N94 0 4) (q_v9 N94) (v36 - 97) 0 = q_dish (M 0 0) (M 0 4) (q_v9 M1) (M 6 k - 97) (max 0 (M 6 (k + 1) - 48 - own)) := by
                      rw [v94, hmx, es, kz94.2.1, kz94.2.2.1, t1, ke1]
                    have hV : q_v9 N152 = q_dish (M 0 0) (M 0 4) (q_v9 M1) (M 6 k - 97) (max 0 (M 6 (k + 1) - 48 - own)) := by
                      rw [← hD, eN152]
                      refine q_v9_u pd123 ?_
                      rw [q_dish_u p123.1 hu94]
                      have q18 : N123 0 18 = qt_u (q_v9 N94) := p123.2.2.2 18 (by decide)
                      have q17 : N123 0 17 = qt_k (q_v9 N94) := p123.2.2.2 17 (by decide)
                      rw [if_neg (by omega)]; exact q18
                    have hA : q_act (q_hrT (M 0 0)) (M 0 0) (M 0 4) (q_v9 M1) (M 6 k) (M 6 (k + 1)) own = (0, q_v9 N152) := by
                      rw [q_act_dish (by omega) (by rw [← es, show qt_a (q_v9 M1) = N39 9 from (congrArg qt_a v39).symm, ← t39]; exact c86), hV]
                    have hkz : q_kz M1 N152 := q_kz_tr kz94 (q_kz_tr (q_kz_dish p123.2.2.1 p123.2.2.2) (q_kz_e0 eN152 (by omega)))
                    have h17 : N152 0 17 = M1 0 17 := by rw [eN152, q_up_at, if_neg (by decide), p123.2.2.2 _ (by decide), eN94, q_up_at, if_neg (by decide), a39]
                    have h18 : N152 0 18 = -6 ∨ 0 ≤ N152 0 18 := by
                      rw [eN152, q_up_at, if_pos rfl]
                      have q18 : N123 0 18 = M1 0 18 := by rw [p123.2.2.2 18 (by decide), eN94, q_up_at, if_neg (by decide), u39]
                      have q17 : N123 0 17 = M1 0 17 := by rw [p123.2.2.2 17 (by decide), eN94, q_up_at, if_neg (by decide), a39]
                      omega
                    have hsg : ¬ M 6 k = 46 := by omega
                    refine q_aload_n F dX9_goNight_266 4 rfl ?_
                    refine q_geti (T := TX9) (ref := "LeastHungryModel") F huX9 rfl hm.1 16 (by decide) (by decide +kernel) rfl 16 rfl rfl dX9_goNight_267 (fun h267 => ?_)
                    refine q_if_le F 278 dX9_goNight_270 (by decide) (by omega) (fun c270 => ?_) (fun c270 => ?_)
                    rotate_left
                    · exfalso; omega
                    refine q_aload_n F dX9_goNight_278 4 rfl ?_
                    refine q_dup F dX9_goNight_279 rfl ?_
                    refine q_geti (T := TX9) (ref := "LeastHungryModel") F huX9 rfl hm.1 17 (by decide) (by decide +kernel) rfl 17 rfl rfl dX9_goNight_280 (fun h280 => ?_)
                    refine q_iconst F dX9_goNight_283 ?_
                    refine q_iadd F dX9_goNight_284 ?_
                    refine q_puti (T := TX9) (ref := "LeastHungryModel") F huX9 rfl hm.1 17 (by decide) (by decide +kernel) rfl 17 rfl tyX9 tyX9_ok nmX9 rfl rfl (by decide +kernel) (by omega) dX9_goNight_285 (fun N285 eN285 => ?_)
                    refine q_goto F 22 dX9_goNight_288 (by decide) ?_
                    refine q_drop [4, 5, 0] rfl ?_
                    exact ih22_1 _ (by omega) v155 (m - 1) N285 (q_gI_s hi22 hk xp.1.2 hown hkz (by rw [hA]) (by rw [hA]) h18 h17 eN285 (by rw [if_neg hsg]; omega)) rfl
                  · refine q_aload_n F dX9_goNight_141 3 rfl ?_
                    refine q_geti (T := TX9) (ref := "LeastHungryModel") F huX9 rfl hm.1 17 (by decide) (by decide +kernel) rfl 17 rfl rfl dX9_goNight_142 (fun h142 => ?_)
                    refine q_goto F 152 dX9_goNight_145 (by decide) ?_
                    refine q_puti (T := TX9) (ref := "LeastHungryModel") F huX9 rfl hm.1 18 (by decide) (by decide +kernel) rfl 18 rfl tyX9 tyX9_ok nmX9 rfl rfl (by decide +kernel) (by omega) dX9_goNight_152 (fun N152 eN152 => ?_)
                    obtain ⟨v155, e155⟩ : ∃ z_ : Int, z_ = k + 2 := ⟨_, rfl⟩
                    refine q_iinc F dX9_goNight_155 5 rfl e155 [(2, .int (q_I v155)), (5, .int (q_I r123)), (4, .int (q_I v75)), (3, .int (q_I v36)), (0, .ref (q_ad G 0)), (1, .int (q_I own))] (Nat.le_of_ble_eq_true rfl) rfl ?_
                    refine q_goto F 266 dX9_goNight_158 (by decide) ?_
                    have pd123 : q_v9 N123 = q_su (q_dish (N94 0 0) (N94 0 4) (q_v9 N94) (v36 - 97) 0) (N94 0 18) := by
                      obtain ⟨l, hl1, hl2⟩ := p123.2.1
                      have hdb := (q_dish_b (th := N94 0 0) (ke := N94 0 4) (pl := v36 - 97) (p := 0) tb94 (by omega)).2
                      rw [hl1, hl2 (by omega)]
                      rfl
                    have hR : N152 0 16 = 0 := by rw [eN152, q_up_at, if_neg (by decide), p123.2.2.2 _ (by decide), r94]
                    have hmx : max 0 (M 6 (k + 1) - 48 - own) = 0 := by omega
                    have hD : q_dish (N94 0 0) (N94 0 4) (q_v9 N94) (v36 - 97) 0 = q_dish (M 0 0) (M 0 4) (q_v9 M1) (M 6 k - 97) (max 0 (M 6 (k + 1) - 48 - own)) := by
                      rw [v94, hmx, es, kz94.2.1, kz94.2.2.1, t1, ke1]
                    have hV : q_v9 N152 = q_dish (M 0 0) (M 0 4) (q_v9 M1) (M 6 k - 97) (max 0 (M 6 (k + 1) - 48 - own)) := by
                      rw [← hD, eN152]
                      refine q_v9_u pd123 ?_
                      rw [q_dish_u p123.1 hu94]
                      have q18 : N123 0 18 = qt_u (q_v9 N94) := p123.2.2.2 18 (by decide)
                      have q17 : N123 0 17 = qt_k (q_v9 N94) := p123.2.2.2 17 (by decide)
                      rw [if_pos (by omega)]; exact q17
                    have hA : q_act (q_hrT (M 0 0)) (M 0 0) (M 0 4) (q_v9 M1) (M 6 k) (M 6 (k + 1)) own = (0, q_v9 N152) := by
                      rw [q_act_dish (by omega) (by rw [← es, show qt_a (q_v9 M1) = N39 9 from (congrArg qt_a v39).symm, ← t39]; exact c86), hV]
                    have hkz : q_kz M1 N152 := q_kz_tr kz94 (q_kz_tr (q_kz_dish p123.2.2.1 p123.2.2.2) (q_kz_e0 eN152 (by omega)))
                    have h17 : N152 0 17 = M1 0 17 := by rw [eN152, q_up_at, if_neg (by decide), p123.2.2.2 _ (by decide), eN94, q_up_at, if_neg (by decide), a39]
                    have h18 : N152 0 18 = -6 ∨ 0 ≤ N152 0 18 := by
                      rw [eN152, q_up_at, if_pos rfl]
                      have q18 : N123 0 18 = M1 0 18 := by rw [p123.2.2.2 18 (by decide), eN94, q_up_at, if_neg (by decide), u39]
                      have q17 : N123 0 17 = M1 0 17 := by rw [p123.2.2.2 17 (by decide), eN94, q_up_at, if_neg (by decide), a39]
                      omega
                    have hsg : ¬ M 6 k = 46 := by omega
                    refine q_aload_n F dX9_goNight_266 4 rfl ?_
                    refine q_geti (T := TX9) (ref := "LeastHungryModel") F huX9 rfl hm.1 16 (by decide) (by decide +kernel) rfl 16 rfl rfl dX9_goNight_267 (fun h267 => ?_)
                    refine q_if_le F 278 dX9_goNight_270 (by decide) (by omega) (fun c270 => ?_) (fun c270 => ?_)
                    rotate_left
                    · exfalso; omega
                    refine q_aload_n F dX9_goNight_278 4 rfl ?_
                    refine q_dup F dX9_goNight_279 rfl ?_
                    refine q_geti (T := TX9) (ref := "LeastHungryModel") F huX9 rfl hm.1 17 (by decide) (by decide +kernel) rfl 17 rfl rfl dX9_goNight_280 (fun h280 => ?_)
                    refine q_iconst F dX9_goNight_283 ?_
                    refine q_iadd F dX9_goNight_284 ?_
                    refine q_puti (T := TX9) (ref := "LeastHungryModel") F huX9 rfl hm.1 17 (by decide) (by decide +kernel) rfl 17 rfl tyX9 tyX9_ok nmX9 rfl rfl (by decide +kernel) (by omega) dX9_goNight_285 (fun N285 eN285 => ?_)
                    refine q_goto F 22 dX9_goNight_288 (by decide) ?_
                    refine q_drop [4, 5, 0] rfl ?_
                    exact ih22_1 _ (by omega) v155 (m - 1) N285 (q_gI_s hi22 hk xp.1.2 hown hkz (by rw [hA]) (by rw [hA]) h18 h17 eN285 (by rw [if_neg hsg]; omega)) rfl
              · refine q_iload F dX9_goNight_115 0 rfl ?_
                refine q_iload_n F dX9_goNight_117 3 rfl ?_
                refine q_isub F dX9_goNight_118 ?_
                refine q_goto F 123 dX9_goNight_119 (by decide) ?_
                refine q_callVI (n := 2) (T := TX9) F (c_X9_dish G hI N94 hm _ _ k zv94 tb94.1 (by omega) (by omega)) rfl rfl hm.1 gX9_goNight_X9_dish rfl ⟨by decide, by decide, by decide +kernel⟩ rfl ⟨rfl, rfl, Nat.le_of_ble_eq_true rfl, Nat.le_of_ble_eq_true rfl⟩ rfl (Nat.le_of_ble_eq_true rfl) dX9_goNight_123 (fun r123 N123 h123 p123 => ?_)
                refine q_istore F dX9_goNight_126 [(5, .int (q_I r123)), (4, .int (q_I v75)), (3, .int (q_I v36)), (0, .ref (q_ad G 0)), (1, .int (q_I own)), (2, .int (q_I k))] (Nat.le_of_ble_eq_true rfl) rfl ?_
                refine q_aload_n F dX9_goNight_128 3 rfl ?_
                refine q_iload F dX9_goNight_129 0 rfl ?_
                refine q_if_ne F 148 dX9_goNight_131 (by decide) (by omega) (fun c131 => ?_) (fun c131 => ?_)
                · refine q_aload_n F dX9_goNight_148 3 rfl ?_
                  refine q_geti (T := TX9) (ref := "LeastHungryModel") F huX9 rfl hm.1 18 (by decide) (by decide +kernel) rfl 18 rfl rfl dX9_goNight_149 (fun h149 => ?_)
                  refine q_puti (T := TX9) (ref := "LeastHungryModel") F huX9 rfl hm.1 18 (by decide) (by decide +kernel) rfl 18 rfl tyX9 tyX9_ok nmX9 rfl rfl (by decide +kernel) (by omega) dX9_goNight_152 (fun N152 eN152 => ?_)
                  obtain ⟨v155, e155⟩ : ∃ z_ : Int, z_ = k + 2 := ⟨_, rfl⟩
                  refine q_iinc F dX9_goNight_155 5 rfl e155 [(2, .int (q_I v155)), (5, .int (q_I r123)), (4, .int (q_I v75)), (3, .int (q_I v36)), (0, .ref (q_ad G 0)), (1, .int (q_I own))] (Nat.le_of_ble_eq_true rfl) rfl ?_
                  refine q_goto F 266 dX9_goNight_158 (by decide) ?_
                  have pd123 : q_v9 N123 = q_su (q_dish (N94 0 0) (N94 0 4) (q_v9 N94) (v36 - 97) (v75 - own)) (N94 0 18) := by
                    obtain ⟨l, hl1, hl2⟩ := p123.2.1
                    have hdb := (q_dish_b (th := N94 0 0) (ke := N94 0 4) (pl := v36 - 97) (p := (v75 - own)) tb94 (by omega)).2
                    rw [hl1, hl2 (by omega)]
                    rfl
                  have hR : N152 0 16 = 0 := by rw [eN152, q_up_at, if_neg (by decide), p123.2.2.2 _ (by decide), r94]
                  have hmx : max 0 (M 6 (k + 1) - 48 - own) = (v75 - own) := by omega
                  have hD : q_dish (N94 0 0) (N94 0 4) (q_v9 N94) (v36 - 97) (v75 - own) = q_dish (M 0 0) (M 0 4) (q_v9 M1) (M 6 k - 97) (max 0 (M 6 (k + 1) - 48 - own)) := by
                    rw [v94, hmx, es, kz94.2.1, kz94.2.2.1, t1, ke1]
                  have hV : q_v9 N152 = q_dish (M 0 0) (M 0 4) (q_v9 M1) (M 6 k - 97) (max 0 (M 6 (k + 1) - 48 - own)) := by
                    rw [← hD, eN152]
                    refine q_v9_u pd123 ?_
                    rw [q_dish_u p123.1 hu94]
                    have q18 : N123 0 18 = qt_u (q_v9 N94) := p123.2.2.2 18 (by decide)
                    have q17 : N123 0 17 = qt_k (q_v9 N94) := p123.2.2.2 17 (by decide)
                    rw [if_neg (fun h => c131 h.1)]; exact q18
                  have hA : q_act (q_hrT (M 0 0)) (M 0 0) (M 0 4) (q_v9 M1) (M 6 k) (M 6 (k + 1)) own = (0, q_v9 N152) := by
                    rw [q_act_dish (by omega) (by rw [← es, show qt_a (q_v9 M1) = N39 9 from (congrArg qt_a v39).symm, ← t39]; exact c86), hV]
                  have hkz : q_kz M1 N152 := q_kz_tr kz94 (q_kz_tr (q_kz_dish p123.2.2.1 p123.2.2.2) (q_kz_e0 eN152 (by omega)))
                  have h17 : N152 0 17 = M1 0 17 := by rw [eN152, q_up_at, if_neg (by decide), p123.2.2.2 _ (by decide), eN94, q_up_at, if_neg (by decide), a39]
                  have h18 : N152 0 18 = -6 ∨ 0 ≤ N152 0 18 := by
                    rw [eN152, q_up_at, if_pos rfl]
                    have q18 : N123 0 18 = M1 0 18 := by rw [p123.2.2.2 18 (by decide), eN94, q_up_at, if_neg (by decide), u39]
                    have q17 : N123 0 17 = M1 0 17 := by rw [p123.2.2.2 17 (by decide), eN94, q_up_at, if_neg (by decide), a39]
                    omega
                  have hsg : ¬ M 6 k = 46 := by omega
                  refine q_aload_n F dX9_goNight_266 4 rfl ?_
                  refine q_geti (T := TX9) (ref := "LeastHungryModel") F huX9 rfl hm.1 16 (by decide) (by decide +kernel) rfl 16 rfl rfl dX9_goNight_267 (fun h267 => ?_)
                  refine q_if_le F 278 dX9_goNight_270 (by decide) (by omega) (fun c270 => ?_) (fun c270 => ?_)
                  rotate_left
                  · exfalso; omega
                  refine q_aload_n F dX9_goNight_278 4 rfl ?_
                  refine q_dup F dX9_goNight_279 rfl ?_
                  refine q_geti (T := TX9) (ref := "LeastHungryModel") F huX9 rfl hm.1 17 (by decide) (by decide +kernel) rfl 17 rfl rfl dX9_goNight_280 (fun h280 => ?_)
                  refine q_iconst F dX9_goNight_283 ?_
                  refine q_iadd F dX9_goNight_284 ?_
                  refine q_puti (T := TX9) (ref := "LeastHungryModel") F huX9 rfl hm.1 17 (by decide) (by decide +kernel) rfl 17 rfl tyX9 tyX9_ok nmX9 rfl rfl (by decide +kernel) (by omega) dX9_goNight_285 (fun N285 eN285 => ?_)
                  refine q_goto F 22 dX9_goNight_288 (by decide) ?_
                  refine q_drop [4, 5, 0] rfl ?_
                  exact ih22_1 _ (by omega) v155 (m - 1) N285 (q_gI_s hi22 hk xp.1.2 hown hkz (by rw [hA]) (by rw [hA]) h18 h17 eN285 (by rw [if_neg hsg]; omega)) rfl
                · refine q_aload_n F dX9_goNight_134 3 rfl ?_
                  refine q_geti (T := TX9) (ref := "LeastHungryModel") F huX9 rfl hm.1 18 (by decide) (by decide +kernel) rfl 18 rfl rfl dX9_goNight_135 (fun h135 => ?_)
                  refine q_if_ge F 148 dX9_goNight_138 (by decide) (by omega) (fun c138 => ?_) (fun c138 => ?_)
                  · refine q_aload_n F dX9_goNight_148 3 rfl ?_
                    refine q_geti (T := TX9) (ref := "LeastHungryModel") F huX9 rfl hm.1 18 (by decide) (by decide +kernel) rfl 18 rfl rfl dX9_goNight_149 (fun h149 => ?_)
                    refine q_puti (T := TX9) (ref := "LeastHungryModel") F huX9 rfl hm.1 18 (by decide) (by decide +kernel) rfl 18 rfl tyX9 tyX9_ok nmX9 rfl rfl (by decide +kernel) (by omega) dX9_goNight_152 (fun N152 eN152 => ?_)
                    obtain ⟨v155, e155⟩ : ∃ z_ : Int, z_ = k + 2 := ⟨_, rfl⟩
                    refine q_iinc F dX9_goNight_155 5 rfl e155 [(2, .int (q_I v155)), (5, .int (q_I r123)), (4, .int (q_I v75)), (3, .int (q_I v36)), (0, .ref (q_ad G 0)), (1, .int (q_I own))] (Nat.le_of_ble_eq_true rfl) rfl ?_
                    refine q_goto F 266 dX9_goNight_158 (by decide) ?_
                    have pd123 : q_v9 N123 = q_su (q_dish (N94 0 0) (N94 0 4) (q_v9 N94) (v36 - 97) (v75 - own)) (N94 0 18) := by
                      obtain ⟨l, hl1, hl2⟩ := p123.2.1
                      have hdb := (q_dish_b (th := N94 0 0) (ke := N94 0 4) (pl := v36 - 97) (p := (v75 - own)) tb94 (by omega)).2
                      rw [hl1, hl2 (by omega)]
                      rfl
                    have hR : N152 0 16 = 0 := by rw [eN152, q_up_at, if_neg (by decide), p123.2.2.2 _ (by decide), r94]
                    have hmx : max 0 (M 6 (k + 1) - 48 - own) = (v75 - own) := by omega
                    have hD : q_dish (N94 0 0) (N94 0 4) (q_v9 N94) (v36 - 97) (v75 - own) = q_dish (M 0 0) (M 0 4) (q_v9 M1) (M 6 k - 97) (max 0 (M 6 (k + 1) - 48 - own)) := by
                      rw [v94, hmx, es, kz94.2.1, kz94.2.2.1, t1, ke1]
                    have hV : q_v9 N152 = q_dish (M 0 0) (M 0 4) (q_v9 M1) (M 6 k - 97) (max 0 (M 6 (k + 1) - 48 - own)) := by
                      rw [← hD, eN152]
                      refine q_v9_u pd123 ?_
                      rw [q_dish_u p123.1 hu94]
                      have q18 : N123 0 18 = qt_u (q_v9 N94) := p123.2.2.2 18 (by decide)
                      have q17 : N123 0 17 = qt_k (q_v9 N94) := p123.2.2.2 17 (by decide)
                      rw [if_neg (by omega)]; exact q18
                    have hA : q_act (q_hrT (M 0 0)) (M 0 0) (M 0 4) (q_v9 M1) (M 6 k) (M 6 (k + 1)) own = (0, q_v9 N152) := by
                      rw [q_act_dish (by omega) (by rw [← es, show qt_a (q_v9 M1) = N39 9 from (congrArg qt_a v39).symm, ← t39]; exact c86), hV]
                    have hkz : q_kz M1 N152 := q_kz_tr kz94 (q_kz_tr (q_kz_dish p123.2.2.1 p123.2.2.2) (q_kz_e0 eN152 (by omega)))
                    have h17 : N152 0 17 = M1 0 17 := by rw [eN152, q_up_at, if_neg (by decide), p123.2.2.2 _ (by decide), eN94, q_up_at, if_neg (by decide), a39]
                    have h18 : N152 0 18 = -6 ∨ 0 ≤ N152 0 18 := by
                      rw [eN152, q_up_at, if_pos rfl]
                      have q18 : N123 0 18 = M1 0 18 := by rw [p123.2.2.2 18 (by decide), eN94, q_up_at, if_neg (by decide), u39]
                      have q17 : N123 0 17 = M1 0 17 := by rw [p123.2.2.2 17 (by decide), eN94, q_up_at, if_neg (by decide), a39]
                      omega
                    have hsg : ¬ M 6 k = 46 := by omega
                    refine q_aload_n F dX9_goNight_266 4 rfl ?_
                    refine q_geti (T := TX9) (ref := "LeastHungryModel") F huX9 rfl hm.1 16 (by decide) (by decide +kernel) rfl 16 rfl rfl dX9_goNight_267 (fun h267 => ?_)
                    refine q_if_le F 278 dX9_goNight_270 (by decide) (by omega) (fun c270 => ?_) (fun c270 => ?_)
                    rotate_left
                    · exfalso; omega
                    refine q_aload_n F dX9_goNight_278 4 rfl ?_
                    refine q_dup F dX9_goNight_279 rfl ?_
                    refine q_geti (T := TX9) (ref := "LeastHungryModel") F huX9 rfl hm.1 17 (by decide) (by decide +kernel) rfl 17 rfl rfl dX9_goNight_280 (fun h280 => ?_)
                    refine q_iconst F dX9_goNight_283 ?_
                    refine q_iadd F dX9_goNight_284 ?_
                    refine q_puti (T := TX9) (ref := "LeastHungryModel") F huX9 rfl hm.1 17 (by decide) (by decide +kernel) rfl 17 rfl tyX9 tyX9_ok nmX9 rfl rfl (by decide +kernel) (by omega) dX9_goNight_285 (fun N285 eN285 => ?_)
                    refine q_goto F 22 dX9_goNight_288 (by decide) ?_
                    refine q_drop [4, 5, 0] rfl ?_
                    exact ih22_1 _ (by omega) v155 (m - 1) N285 (q_gI_s hi22 hk xp.1.2 hown hkz (by rw [hA]) (by rw [hA]) h18 h17 eN285 (by rw [if_neg hsg]; omega)) rfl
                  · refine q_aload_n F dX9_goNight_141 3 rfl ?_
                    refine q_geti (T := TX9) (ref := "LeastHungryModel") F huX9 rfl hm.1 17 (by decide) (by decide +kernel) rfl 17 rfl rfl dX9_goNight_142 (fun h142 => ?_)
                    refine q_goto F 152 dX9_goNight_145 (by decide) ?_
                    refine q_puti (T := TX9) (ref := "LeastHungryModel") F huX9 rfl hm.1 18 (by decide) (by decide +kernel) rfl 18 rfl tyX9 tyX9_ok nmX9 rfl rfl (by decide +kernel) (by omega) dX9_goNight_152 (fun N152 eN152 => ?_)
                    obtain ⟨v155, e155⟩ : ∃ z_ : Int, z_ = k + 2 := ⟨_, rfl⟩
                    refine q_iinc F dX9_goNight_155 5 rfl e155 [(2, .int (q_I v155)), (5, .int (q_I r123)), (4, .int (q_I v75)), (3, .int (q_I v36)), (0, .ref (q_ad G 0)), (1, .int (q_I own))] (Nat.le_of_ble_eq_true rfl) rfl ?_
                    refine q_goto F 266 dX9_goNight_158 (by decide) ?_
                    have pd123 : q_v9 N123 = q_su (q_dish (N94 0 0) (N94 0 4) (q_v9 N94) (v36 - 97) (v75 - own)) (N94 0 18) := by
                      obtain ⟨l, hl1, hl2⟩ := p123.2.1
                      have hdb := (q_dish_b (th := N94 0 0) (ke := N94 0 4) (pl := v36 - 97) (p := (v75 - own)) tb94 (by omega)).2
                      rw [hl1, hl2 (by omega)]
                      rfl
                    have hR : N152 0 16 = 0 := by rw [eN152, q_up_at, if_neg (by decide), p123.2.2.2 _ (by decide), r94]
                    have hmx : max 0 (M 6 (k + 1) - 48 - own) = (v75 - own) := by omega
                    have hD : q_dish (N94 0 0) (N94 0 4) (q_v9 N94) (v36 - 97) (v75 - own) = q_dish (M 0 0) (M 0 4) (q_v9 M1) (M 6 k - 97) (max 0 (M 6 (k + 1) - 48 - own)) := by
                      rw [v94, hmx, es, kz94.2.1, kz94.2.2.1, t1, ke1]
                    have hV : q_v9 N152 = q_dish (M 0 0) (M 0 4) (q_v9 M1) (M 6 k - 97) (max 0 (M 6 (k + 1) - 48 - own)) := by
                      rw [← hD, eN152]
                      refine q_v9_u pd123 ?_
                      rw [q_dish_u p123.1 hu94]
                      have q18 : N123 0 18 = qt_u (q_v9 N94) := p123.2.2.2 18 (by decide)
                      have q17 : N123 0 17 = qt_k (q_v9 N94) := p123.2.2.2 17 (by decide)
                      rw [if_pos (by omega)]; exact q17
                    have hA : q_act (q_hrT (M 0 0)) (M 0 0) (M 0 4) (q_v9 M1) (M 6 k) (M 6 (k + 1)) own = (0, q_v9 N152) := by
                      rw [q_act_dish (by omega) (by rw [← es, show qt_a (q_v9 M1) = N39 9 from (congrArg qt_a v39).symm, ← t39]; exact c86), hV]
                    have hkz : q_kz M1 N152 := q_kz_tr kz94 (q_kz_tr (q_kz_dish p123.2.2.1 p123.2.2.2) (q_kz_e0 eN152 (by omega)))
                    have h17 : N152 0 17 = M1 0 17 := by rw [eN152, q_up_at, if_neg (by decide), p123.2.2.2 _ (by decide), eN94, q_up_at, if_neg (by decide), a39]
                    have h18 : N152 0 18 = -6 ∨ 0 ≤ N152 0 18 := by
                      rw [eN152, q_up_at, if_pos rfl]
                      have q18 : N123 0 18 = M1 0 18 := by rw [p123.2.2.2 18 (by decide), eN94, q_up_at, if_neg (by decide), u39]
                      have q17 : N123 0 17 = M1 0 17 := by rw [p123.2.2.2 17 (by decide), eN94, q_up_at, if_neg (by decide), a39]
                      omega
                    have hsg : ¬ M 6 k = 46 := by omega
                    refine q_aload_n F dX9_goNight_266 4 rfl ?_
                    refine q_geti (T := TX9) (ref := "LeastHungryModel") F huX9 rfl hm.1 16 (by decide) (by decide +kernel) rfl 16 rfl rfl dX9_goNight_267 (fun h267 => ?_)
                    refine q_if_le F 278 dX9_goNight_270 (by decide) (by omega) (fun c270 => ?_) (fun c270 => ?_)
                    rotate_left
                    · exfalso; omega
                    refine q_aload_n F dX9_goNight_278 4 rfl ?_
                    refine q_dup F dX9_goNight_279 rfl ?_
                    refine q_geti (T := TX9) (ref := "LeastHungryModel") F huX9 rfl hm.1 17 (by decide) (by decide +kernel) rfl 17 rfl rfl dX9_goNight_280 (fun h280 => ?_)
                    refine q_iconst F dX9_goNight_283 ?_
                    refine q_iadd F dX9_goNight_284 ?_
                    refine q_puti (T := TX9) (ref := "LeastHungryModel") F huX9 rfl hm.1 17 (by decide) (by decide +kernel) rfl 17 rfl tyX9 tyX9_ok nmX9 rfl rfl (by decide +kernel) (by omega) dX9_goNight_285 (fun N285 eN285 => ?_)
                    refine q_goto F 22 dX9_goNight_288 (by decide) ?_
                    refine q_drop [4, 5, 0] rfl ?_
                    exact ih22_1 _ (by omega) v155 (m - 1) N285 (q_gI_s hi22 hk xp.1.2 hown hkz (by rw [hA]) (by rw [hA]) h18 h17 eN285 (by rw [if_neg hsg]; omega)) rfl
            · refine q_iconst F dX9_goNight_89 ?_
              refine q_goto F 94 dX9_goNight_90 (by decide) ?_
              refine q_puti (T := TX9) (ref := "LeastHungryModel") F huX9 rfl hm.1 16 (by decide) (by decide +kernel) rfl 16 rfl tyX9 tyX9_ok nmX9 rfl rfl (by decide +kernel) (by omega) dX9_goNight_94 (fun N94 eN94 => ?_)
              have r94 : N94 0 16 = 3 := by rw [eN94, q_up_at, if_pos rfl]
              have v94 : q_v9 N94 = q_v9 M1 := by rw [eN94, q_v9_ne (by omega), v39]
              have kz94 : q_kz M1 N94 := q_kz_tr kz1 (q_kz_e0 eN94 (by omega))
              have zv94 : q_zv N94 := q_zv_v9 zv kz94 v94
              have tb94 : q_Tb (q_v9 N94) k := by rw [v94]; exact tb
              have hu94 : qt_u (q_v9 N94) = -6 ∨ 0 ≤ qt_u (q_v9 N94) := by rw [v94]; exact hu
              refine q_aload_n F dX9_goNight_97 2 rfl ?_
              refine q_geti (T := TX9) (ref := "LeastHungryModel") F huX9 rfl hm.1 16 (by decide) (by decide +kernel) rfl 16 rfl rfl dX9_goNight_98 (fun h98 => ?_)
              refine q_if_ne F 155 dX9_goNight_101 (by decide) (by omega) (fun c101 => ?_) (fun c101 => ?_)
              rotate_left
              · exfalso; omega
              obtain ⟨v155, e155⟩ : ∃ z_ : Int, z_ = k + 2 := ⟨_, rfl⟩
              refine q_iinc F dX9_goNight_155 4 rfl e155 [(2, .int (q_I v155)), (4, .int (q_I v75)), (3, .int (q_I v36)), (0, .ref (q_ad G 0)), (1, .int (q_I own))] (Nat.le_of_ble_eq_true rfl) rfl ?_
              refine q_goto F 266 dX9_goNight_158 (by decide) ?_
              have hR : N94 0 16 = 3 := r94
              have hA : q_act (q_hrT (M 0 0)) (M 0 0) (M 0 4) (q_v9 M1) (M 6 k) (M 6 (k + 1)) own = (3, q_v9 N94) := by
                rw [q_act_no3 (by omega) (by rw [← es, show qt_a (q_v9 M1) = N39 9 from (congrArg qt_a v39).symm, ← t39]; exact c86), v94]
              have hkz : q_kz M1 N94 := kz94
              have hcv : q_zv N94 := zv94
              have h17 : N94 0 17 = M1 0 17 := by rw [eN94, q_up_at, if_neg (by decide), a39]
              have hr0 : ¬ (3 : Int) = 0 := by decide
              refine q_aload_n F dX9_goNight_266 3 rfl ?_
              refine q_geti (T := TX9) (ref := "LeastHungryModel") F huX9 rfl hm.1 16 (by decide) (by decide +kernel) rfl 16 rfl rfl dX9_goNight_267 (fun h267 => ?_)
              refine q_if_le F 278 dX9_goNight_270 (by decide) (by omega) (fun c270 => ?_) (fun c270 => ?_)
              · exfalso; omega
              refine q_aload_n F dX9_goNight_273 3 rfl ?_
              refine q_geti (T := TX9) (ref := "LeastHungryModel") F huX9 rfl hm.1 17 (by decide) (by decide +kernel) rfl 17 rfl rfl dX9_goNight_274 (fun h274 => ?_)
              exact q_iret F FI dX9_goNight_277 (by omega) (q_gN_fin sim17 (q_kz_tr kz hkz) hcv (by rw [q_gI_fail hi22 hk hr0 hA, h17]) (fun _ => hR) (Or.inr (by omega)))
        · refine q_aload_n F dX9_goNight_48 1 rfl ?_
          refine q_callVV (n := 0) (T := TX9) F (c_X9_hour G hI N39 hm zv39) rfl rfl hm.1 gX9_goNight_X9_hour rfl ⟨by decide, by decide, by decide +kernel⟩ rfl ⟨rfl, rfl, Nat.le_of_ble_eq_true rfl, Nat.le_of_ble_eq_true rfl⟩ rfl (Nat.le_of_ble_eq_true rfl) dX9_goNight_49 (fun N49 p49 => ?_)
          obtain ⟨v52, e52⟩ : ∃ z_ : Int, z_ = k + 1 := ⟨_, rfl⟩
          refine q_iinc F dX9_goNight_52 3 rfl e52 [(2, .int (q_I v52)), (3, .int (q_I v36)), (0, .ref (q_ad G 0)), (1, .int (q_I own))] (Nat.le_of_ble_eq_true rfl) rfl ?_
          refine q_goto F 266 dX9_goNight_55 (by decide) ?_
          have hR : N49 0 16 = 0 := by rw [p49.1 0 (by omega), eN39, q_up_at, if_pos rfl]
          have hV : q_v9 N49 = q_hoT (q_hrT (M 0 0)) (q_v9 M1) := by
            rw [q_v9_ho (th := M 0 0) p49.1 (by rw [p49.2, t39]), v39]
          have hA : q_act (q_hrT (M 0 0)) (M 0 0) (M 0 4) (q_v9 M1) (M 6 k) (M 6 (k + 1)) own = (0, q_v9 N49) := by rw [q_act_dot (by omega), hV]
          have hkz : q_kz M1 N49 := q_kz_tr kz1 (q_kz_fr p49.1 (by omega))
          have h18 : N49 0 18 = -6 ∨ 0 ≤ N49 0 18 := by rw [p49.1 0 (by omega), u39]; exact hu
          have h17 : N49 0 17 = M1 0 17 := by rw [p49.1 0 (by omega), a39]
          have hsg : M 6 k = 46 := by omega
          refine q_aload_n F dX9_goNight_266 2 rfl ?_
          refine q_geti (T := TX9) (ref := "LeastHungryModel") F huX9 rfl hm.1 16 (by decide) (by decide +kernel) rfl 16 rfl rfl dX9_goNight_267 (fun h267 => ?_)
          refine q_if_le F 278 dX9_goNight_270 (by decide) (by omega) (fun c270 => ?_) (fun c270 => ?_)
          rotate_left
          · exfalso; omega
          refine q_aload_n F dX9_goNight_278 2 rfl ?_
          refine q_dup F dX9_goNight_279 rfl ?_
          refine q_geti (T := TX9) (ref := "LeastHungryModel") F huX9 rfl hm.1 17 (by decide) (by decide +kernel) rfl 17 rfl rfl dX9_goNight_280 (fun h280 => ?_)
          refine q_iconst F dX9_goNight_283 ?_
          refine q_iadd F dX9_goNight_284 ?_
          refine q_puti (T := TX9) (ref := "LeastHungryModel") F huX9 rfl hm.1 17 (by decide) (by decide +kernel) rfl 17 rfl tyX9 tyX9_ok nmX9 rfl rfl (by decide +kernel) (by omega) dX9_goNight_285 (fun N285 eN285 => ?_)
          refine q_goto F 22 dX9_goNight_288 (by decide) ?_
          refine q_drop [2, 3, 0] rfl ?_
          exact ih22_1 _ (by omega) v52 (m - 1) N285 (q_gI_s hi22 hk xp.1.2 hown hkz (by rw [hA]) (by rw [hA]) h18 h17 eN285 (by rw [if_pos hsg]; omega)) rfl
  refine q_drop [1, 2, 0] rfl ?_
  exact lp22_1 _ 0 (60) N17 ⟨⟨by omega, by omega, by omega⟩, kz17, zv17, ⟨tb17, by omega, by omega⟩, Or.inl z18, hfl, rfl⟩ rfl
