/-! seats: the reference's walk over the numbers of rows -/
def q_sy (F : Int → Int) : Prop := ∀ x y, 0 ≤ x → x < 6 → 0 ≤ y → y < 6 → q_has (F x) y = q_has (F y) x
def q_sI (F : Int → Int) (m S c k us can : Int) (row : Int → Int) : Prop := (0 ≤ us ∧ us ≤ 63) ∧ (can = 0 ∨ can = 1) ∧ (can = 0 → q_vd F m.toNat S 0 c = false) ∧ (can = 1 → ∃ rs fo, (0 ≤ rs ∧ rs ≤ 63) ∧ (0 ≤ fo ∧ fo ≤ 63) ∧ q_vd F m.toNat S 0 c = q_vd F (m - k).toNat rs fo c ∧ (∀ x, 0 ≤ x → x < 6 → q_has rs x = (q_has S x && !q_has us x)) ∧ (k = 0 → fo = 0) ∧ (0 < k → fo = F (row (k - 1))))
theorem q_sI_0 {F : Int → Int} {m S c : Int} {row : Int → Int} (hS : 0 ≤ S ∧ S ≤ 63) : q_sI F m S c 0 0 1 row :=
  ⟨by omega, Or.inr rfl, fun h => absurd h (by decide), fun _ => ⟨S, 0, hS, by omega, by rw [Int.sub_zero], fun x _ _ => by
    have : q_has 0 x = false := by simp [q_has]
    rw [this]; simp, fun _ => rfl, fun h => by omega⟩⟩
theorem q_sI_s {F : Int → Int} {m S c k us e us' can' : Int} {row row' : Int → Int} {ok : Bool} (hF : q_fm F) (hsy : q_sy F) (h : q_sI F m S c k us 1 row) (k0 : 0 ≤ k) (k1 : k < m) (he : e = c / q_pw 6 (m - 1 - k).toNat % 6) (hr : row' k = e) (hR : k = 0 ∨ (0 ≤ row (k - 1) ∧ row (k - 1) < 6)) (hus : us' = q_or us (q_shl 1 e)) (hok : ok = (q_has S e && !q_has us e && (decide (k = 0) || !q_has (F e) (row (k - 1))))) (hcan : can' = q_b ok) : q_sI F m S c (k + 1) us' can' row' := by
  obtain ⟨hus0, -, -, h4⟩ := h
  obtain ⟨rs, fo, hrs, hfo, hv, hh, hf0, hf1⟩ := h4 rfl
  have e0 : 0 ≤ e ∧ e < 6 := by rw [he]; omega
  have hu' : us' = q_set (fun x => q_has us x || decide (x = e)) := by rw [hus, q_orb hus0.1 hus0.2 e0.1 e0.2]
  have hu'R : 0 ≤ us' ∧ us' ≤ 63 := by rw [hu']; exact q_set_R _
  have hfe : q_has fo e = (!(decide (k = 0)) && q_has (F e) (row (k - 1))) := by
    by_cases hk : k = 0
    · rw [hf0 hk, decide_eq_true hk]
      simp [q_has]
    · rw [decide_eq_false hk, hf1 (by omega)]
      have := hR.resolve_left hk
      rw [hsy _ _ this.1 this.2 e0.1 e0.2]
      rfl
  have hvs : q_vd F m.toNat S 0 c = (ok && q_vd F (m - (k + 1)).toNat (q_minus rs e) (F e) c) := by
    rw [hv, show (m - k).toNat = (m - (k + 1)).toNat + 1 by omega, q_vd_s, show (m - (k + 1)).toNat = (m - 1 - k).toNat by omega, ← he, hh e e0.1 e0.2, hfe, hok]
    cases q_has S e <;> cases q_has us e <;> cases decide (k = 0) <;> cases q_has (F e) (row (k - 1)) <;> rfl
  refine ⟨hu'R, by rw [hcan]; exact q_b01 ok, fun hc => ?_, fun hc => ?_⟩
  · have : ok = false := (q_b0 ok).mp (by rw [← hcan]; exact hc)
    rw [hvs, this]
    rfl
  · have : ok = true := by
      cases ok
      · rw [hcan] at hc
        exact absurd hc (by decide)
      · rfl
    refine ⟨q_minus rs e, F e, q_minus_R hrs e0.1 e0.2, hF e e0.1 e0.2, by rw [hvs, this, Bool.true_and], fun x x0 x1 => ?_, fun h => by omega, fun _ => by rw [show k + 1 - 1 = k by omega, hr]⟩
    rw [q_minus_has hrs e0.1 e0.2 x0 x1, hh x x0 x1, hu', q_has_set x0 x1]
    cases q_has S x <;> cases q_has us x <;> cases decide (x = e) <;> rfl
def q_sF (V : Int → Bool) (n c m : Int) (fr : Int → Int) : Prop := n = q_ctN V c.toNat ∧ (n = 0 ∨ ∃ c0, 0 ≤ c0 ∧ c0 < c ∧ V c0 = true ∧ (∀ c', 0 ≤ c' → c' < c0 → V c' = false) ∧ ∀ i, 0 ≤ i → i < m → fr i = c0 / q_pw 6 (m - 1 - i).toNat % 6)
theorem q_sF_no {V : Int → Bool} {n c m : Int} {fr : Int → Int} (h : q_sF V n c m fr) (c0 : 0 ≤ c) (hv : V c = false) : q_sF V n (c + 1) m fr := by
  obtain ⟨h1, h2⟩ := h
  refine ⟨?_, ?_⟩
  · rw [show (c + 1).toNat = c.toNat + 1 by omega, q_ctN_s, Int.toNat_of_nonneg c0, hv, ← h1]
    simp [q_b]
  · rcases h2 with h2 | ⟨x, a, b, d⟩
    · exact Or.inl h2
    · exact Or.inr ⟨x, a, by omega, d⟩
theorem q_ctN_zero {V : Int → Bool} {n : Nat} (h : q_ctN V n = 0) (c : Int) (h0 : 0 ≤ c) (h1 : c < n) : V c = false := by
  cases hv : V c
  · rfl
  · have := q_ctN_mem n h0 h1 hv
    omega
theorem q_sF_yes {V : Int → Bool} {n c m : Int} {fr fr' : Int → Int} (h : q_sF V n c m fr) (c0 : 0 ≤ c) (hv : V c = true) (h0 : n = 0 → ∀ i, 0 ≤ i → i < m → fr' i = c / q_pw 6 (m - 1 - i).toNat % 6) (h1 : ¬ n = 0 → fr' = fr) : q_sF V (n + 1) (c + 1) m fr' := by
  obtain ⟨e1, e2⟩ := h
  refine ⟨?_, Or.inr ?_⟩
  · rw [show (c + 1).toNat = c.toNat + 1 by omega, q_ctN_s, Int.toNat_of_nonneg c0, hv, ← e1]
    rfl
  · by_cases hn : n = 0
    · exact ⟨c, c0, by omega, hv, fun x a b => q_ctN_zero (by rw [← e1]; exact hn) x a (by omega), h0 hn⟩
    · rcases e2 with e2 | ⟨x, a, b, d⟩
      · exact absurd e2 hn
      · rw [h1 hn]
        exact ⟨x, a, by omega, d⟩
theorem q_S_seats9 {F a : Int → Int} {th pl i n m C v : Int} {fr : Int → Int} (hF : q_fm F) (d : 0 ≤ pl ∧ pl ≤ 2) (hv : v = q_set (q_ins a th pl)) (hm : m = q_cnt (q_has v)) (hC : C = q_pw 6 m.toNat) (h : q_sF (q_vd F m.toNat v 0) n C m fr) : S_seats F a th pl i = if i = -1 then n else if 0 < n ∧ 0 ≤ i ∧ i ≤ m - 1 then fr i else -6 := by
  have hvR : 0 ≤ v ∧ v ≤ 63 := by rw [hv]; exact q_set_R _
  have hmR := q_cnt_R (q_has v)
  rw [← hm] at hmR
  have hrows : n = q_rows F v := by
    rw [h.1, hC, q_vd_cnt hF m.toNat v 0 hvR (by omega) (by omega)]
    unfold q_rows
    have hz := q_cnt_0s hvR
    rw [← hm] at hz
    by_cases h0 : v = 0
    · rw [if_pos h0, if_pos (by have := hz.mpr h0; omega)]
    · rw [if_neg h0, if_neg (fun q => h0 (hz.mp (by omega)))]
  have hnR := q_ctN_R (q_vd F m.toNat v 0) C.toNat
  rw [← h.1] at hnR
  unfold S_seats
  rw [if_pos d, ← hv, ← hrows, ← hm]
  by_cases hi : i = -1
  · rw [if_pos hi, if_pos hi]
  · rw [if_neg hi, if_neg hi]
    by_cases hj : 0 ≤ i ∧ i < m ∧ ¬ n = 0
    · rw [if_pos hj, if_pos (by omega)]
      rcases h.2 with h2 | ⟨c0, a0, a1, a2, a3, a4⟩
      · omega
      · rw [a4 i hj.1 hj.2.1, q_sit_it]
        have := q_vd_first hF m.toNat v 0 (-6) c0 i.toNat hvR (by omega) (by omega) a0 (by rw [← hC]; exact a1) a2 a3 (by omega)
        rw [this, show m.toNat - 1 - i.toNat = (m - 1 - i).toNat by omega]
    · rw [if_neg hj, if_neg (by omega)]
theorem q_pw6_6 {m : Int} (h0 : 0 ≤ m) (h1 : m ≤ 6) : 1 ≤ q_pw 6 m.toNat ∧ q_pw 6 m.toNat ≤ 46656 := by
  rcases (show m = 0 ∨ m = 1 ∨ m = 2 ∨ m = 3 ∨ m = 4 ∨ m = 5 ∨ m = 6 by omega) with rfl | rfl | rfl | rfl | rfl | rfl | rfl <;> decide
set_option maxHeartbeats 4000000 in
set_option maxRecDepth 100000 in
theorem c_X9_seats (G : q_G) (hI : q_inj G) (M : q_M) (hm : q_mo G) (pl : Int) (i : Int) (hplR : -2147483648 ≤ pl ∧ pl ≤ 2147483647) (hiR : -2147483648 ≤ i ∧ i ≤ 2147483647) (hZ : q_Z M) (hsy : q_sy (M 4)) : q_CI G yX9_seats wsX9_seats ({ frames := 3, cells := 0, slots := 0, locals := 66 } : Room) [.ref (q_ad G 0), .int (q_I pl), .int (q_I i)] M (fun z M' => z = S_seats (M 4) (M 3) (M 0 0) pl i ∧ q_kz M M') := by
  refine q_CI.of hI (by decide) rfl RX9 rfl [(0, .ref (q_ad G 0)), (1, .int (q_I pl)), (2, .int (q_I i))] rfl (Nat.le_of_ble_eq_true rfl) (fun E F FI => ?_)
  have huX9 : ∀ w ∈ wsX90, w ∈ wsX9_seats := by decide +kernel
  refine q_MRof (fun hM => ?_)
  obtain ⟨⟨xt, xk⟩, ⟨xh, xf, xa⟩, xF, xs, xp⟩ := id hZ
  have hz := hZ.1
  refine q_iload_n F dX9_seats_0 1 rfl ?_
  refine q_iconst F dX9_seats_1 ?_
  refine q_iconst F dX9_seats_2 ?_
  refine q_callSP (n := 3) F (c_X9_in G hI M pl 0 2 (by omega)) rfl gX9_seats_X9_in ⟨by decide, by decide, by decide +kernel⟩ rfl ⟨rfl, rfl, Nat.le_of_ble_eq_true rfl, Nat.le_of_ble_eq_true rfl⟩ rfl (Nat.le_of_ble_eq_true rfl) dX9_seats_3 (fun h3 => ?_)
  refine q_ifb_ne F 11 dX9_seats_6 (by decide) (fun c6 => ?_) (fun c6 => ?_)
  · have d1 := q_dt c6
    have hF : q_fm (M 4) := xF
    refine q_aload_n F dX9_seats_11 0 rfl ?_
    refine q_callVV (n := 0) (T := TX9) F (c_X9_asNow G hI M hm) rfl rfl hm.1 gX9_seats_X9_asNow rfl ⟨by decide, by decide, by decide +kernel⟩ rfl ⟨rfl, rfl, Nat.le_of_ble_eq_true rfl, Nat.le_of_ble_eq_true rfl⟩ rfl (Nat.le_of_ble_eq_true rfl) dX9_seats_12 (fun N12 p12 => ?_)
    have zv12 := q_an_zv p12 hZ
    have kz12 := q_an_kz p12
    refine q_aload_n F dX9_seats_15 0 rfl ?_
    refine q_iload_n F dX9_seats_16 1 rfl ?_
    refine q_callVP (n := 1) (T := TX9) F (c_X9_inHouse G hI N12 hm pl zv12 (by omega)) rfl rfl hm.1 gX9_seats_X9_inHouse rfl ⟨by decide, by decide, by decide +kernel⟩ rfl ⟨rfl, rfl, Nat.le_of_ble_eq_true rfl, Nat.le_of_ble_eq_true rfl⟩ rfl (Nat.le_of_ble_eq_true rfl) dX9_seats_17 (fun h17 => ?_)
    refine q_nm (fun v20 e20 => ?_)
    refine q_istore_n F dX9_seats_20 [(3, .int (q_I v20)), (0, .ref (q_ad G 0)), (1, .int (q_I pl)), (2, .int (q_I i))] (Nat.le_of_ble_eq_true rfl) rfl ?_
    have hv20 : v20 = q_set (q_ins (M 3) (M 0 0) pl) := by rw [e20, kz12.2.1]; exact q_set_congr (fun x _ _ => q_ins_sim (q_agR_sim (q_an_ag p12)) x)
    have hS : 0 ≤ v20 ∧ v20 ≤ 63 := by rw [hv20]; exact q_set_R _
    have hcn := q_cnt_R (q_has v20)
    refine q_iload_n F dX9_seats_21 0 rfl ?_
    refine q_callSP (n := 1) F (c_X9_bits G hI N12 v20 (by omega)) rfl gX9_seats_X9_bits ⟨by decide, by decide, by decide +kernel⟩ rfl ⟨rfl, rfl, Nat.le_of_ble_eq_true rfl, Nat.le_of_ble_eq_true rfl⟩ rfl (Nat.le_of_ble_eq_true rfl) dX9_seats_22 (fun h22 => ?_)
    refine q_nm (fun v25 e25 => ?_)
    refine q_istore F dX9_seats_25 [(4, .int (q_I v25)), (3, .int (q_I v20)), (0, .ref (q_ad G 0)), (1, .int (q_I pl)), (2, .int (q_I i))] (Nat.le_of_ble_eq_true rfl) rfl ?_
    refine q_iconst F dX9_seats_27 ?_
    refine q_istore F dX9_seats_28 [(5, .int (q_I 1)), (4, .int (q_I v25)), (3, .int (q_I v20)), (0, .ref (q_ad G 0)), (1, .int (q_I pl)), (2, .int (q_I i))] (Nat.le_of_ble_eq_true rfl) rfl ?_
    refine q_iconst F dX9_seats_30 ?_
    refine q_istore F dX9_seats_31 [(6, .int (q_I 0)), (5, .int (q_I 1)), (4, .int (q_I v25)), (3, .int (q_I v20)), (0, .ref (q_ad G 0)), (1, .int (q_I pl)), (2, .int (q_I i))] (Nat.le_of_ble_eq_true rfl) rfl ?_
    have lp33_1 : ∀ (k33_1 : Nat) (c1 : Int) (k1v : Int), ((0 ≤ k1v ∧ k1v ≤ v25) ∧ c1 = q_pw 6 k1v.toNat) → (v25 - k1v).toNat = k33_1 → q_Y G E 12 N12 [(0, .ref (q_ad G 0)), (1, .int (q_I pl)), (2, .int (q_I i)), (3, .int (q_I v20)), (4, .int (q_I v25)), (5, .int (q_I c1)), (6, .int (q_I k1v))] 33 [] := by
      intro k33_1
      induction k33_1 using Nat.strongRecOn with
      | _ k33_1 ih33_1 =>
        intro c1 k1v   hi33 hk33
        refine q_iload F dX9_seats_33 6 rfl ?_
        refine q_iload F dX9_seats_35 4 rfl ?_
        refine q_icmp_ge F 53 dX9_seats_37 (by decide) (by omega) (fun c37 => ?_) (fun c37 => ?_)
        · have hC : c1 = q_pw 6 v25.toNat := by rw [hi33.2, show k1v = v25 by omega]
          have hC2 := q_pw6_6 (m := v25) (by omega) (by omega)
          rw [← hC] at hC2
          refine q_iconst F dX9_seats_53 ?_
          refine q_istore F dX9_seats_54 [(6, .int (q_I 0)), (0, .ref (q_ad G 0)), (1, .int (q_I pl)), (2, .int (q_I i)), (3, .int (q_I v20)), (4, .int (q_I v25)), (5, .int (q_I c1))] (Nat.le_of_ble_eq_true rfl) rfl ?_
          refine q_iconst F dX9_seats_56 ?_
          refine q_istore F dX9_seats_57 [(7, .int (q_I 0)), (6, .int (q_I 0)), (0, .ref (q_ad G 0)), (1, .int (q_I pl)), (2, .int (q_I i)), (3, .int (q_I v20)), (4, .int (q_I v25)), (5, .int (q_I c1))] (Nat.le_of_ble_eq_true rfl) rfl ?_
          have lp59_2 : ∀ (k59_2 : Nat) (n : Int) (c : Int) (M1 : q_M), ((0 ≤ c ∧ c ≤ c1) ∧ (∀ j, j ≠ 15 → j ≠ 16 → M1 j = N12 j) ∧ q_sF (q_vd (M 4) v25.toNat v20 0) n c v25 (M1 16)) → (c1 - c).toNat = k59_2 → q_Y G E 12 M1 [(0, .ref (q_ad G 0)), (1, .int (q_I pl)), (2, .int (q_I i)), (3, .int (q_I v20)), (4, .int (q_I v25)), (5, .int (q_I c1)), (6, .int (q_I n)), (7, .int (q_I c))] 59 [] := by
            intro k59_2
            induction k59_2 using Nat.strongRecOn with
            | _ k59_2 ih59_2 =>
              intro n c  M1 hi59 hk59
              refine q_MRof (fun hM59 => ?_)
              obtain ⟨k1, k3, k4⟩ := id hi59
              have hnR := q_ctN_R (q_vd (M 4) v25.toNat v20 0) c.toNat
              rw [← k4.1] at hnR
              refine q_iload F dX9_seats_59 7 rfl ?_
              refine q_iload F dX9_seats_61 5 rfl ?_
              refine q_icmp_ge F 250 dX9_seats_63 (by decide) (by omega) (fun c63 => ?_) (fun c63 => ?_)
              · have hres := q_S_seats9 (i := i) xF d1 hv20 e25 hC (by rw [← show c = c1 by omega]; exact k4)
                have hkz : q_kz M M1 := q_kz_tr kz12 ⟨fun j hj => k3 j (by omega) (by omega), by rw [k3 0 (by omega) (by omega)], by rw [k3 0 (by omega) (by omega)], by rw [k3 0 (by omega) (by omega)], by rw [k3 0 (by omega) (by omega)]⟩
                refine q_iload_n F dX9_seats_250 2 rfl ?_
                refine q_iconst F dX9_seats_251 ?_
                refine q_icmp_ne F 258 dX9_seats_252 (by decide) (by omega) (fun c252 => ?_) (fun c252 => ?_)
                · refine q_iload F dX9_seats_258 6 rfl ?_
                  refine q_if_le F 284 dX9_seats_260 (by decide) (by omega) (fun c260 => ?_) (fun c260 => ?_)
                  · refine q_bipush F dX9_seats_284 (by decide) ?_
                    exact q_iret F FI dX9_seats_286 (by omega) ⟨by rw [hres, if_neg c252, if_neg (fun h => by omega)], hkz⟩
                  · refine q_iload_n F dX9_seats_263 2 rfl ?_
                    refine q_iconst F dX9_seats_264 ?_
                    refine q_iload F dX9_seats_265 4 rfl ?_
                    refine q_iconst F dX9_seats_267 ?_
                    refine q_isub F dX9_seats_268 ?_
                    refine q_callSP (n := 3) F (c_X9_in G hI M1 i 0 _ (by omega)) rfl gX9_seats_X9_in ⟨by decide, by decide, by decide +kernel⟩ rfl ⟨rfl, rfl, Nat.le_of_ble_eq_true rfl, Nat.le_of_ble_eq_true rfl⟩ rfl (Nat.le_of_ble_eq_true rfl) dX9_seats_269 (fun h269 => ?_)
                    refine q_ifb_eq F 284 dX9_seats_272 (by decide) (fun c272 => ?_) (fun c272 => ?_)
                    · refine q_bipush F dX9_seats_284 (by decide) ?_
                      exact q_iret F FI dX9_seats_286 (by omega) ⟨by rw [hres, if_neg c252, if_neg (fun h => q_df c272 (by omega))], hkz⟩
                    · have d272 := q_dt c272
                      refine q_aload_n F dX9_seats_275 0 rfl ?_
                      refine q_getr (T := TX9) (ref := "LeastHungryModel") F huX9 rfl hm.1 24 (by decide) (by decide +kernel) rfl rfl dX9_seats_276 ?_
                      refine q_iload_n F dX9_seats_279 2 rfl ?_
                      refine q_iald F hm.2.2.2.2.2.2.2.2.2.2.2.2.2.2.2.2.1 (Nat.le_of_ble_eq_true rfl) (by omega) dX9_seats_280 (fun h280 => ?_)
                      refine q_goto F 286 dX9_seats_281 (by decide) ?_
                      exact q_iret F FI dX9_seats_286 (by omega) ⟨by rw [hres, if_neg c252, if_pos ⟨by omega, by have := q_dt c272; omega⟩], hkz⟩
                · refine q_iload F dX9_seats_255 6 rfl ?_
                  exact q_iret F FI dX9_seats_257 (by omega) ⟨by rw [hres, if_pos c252], hkz⟩
              · refine q_iload F dX9_seats_66 5 rfl ?_
                refine q_istore F dX9_seats_68 [(8, .int (q_I c1)), (0, .ref (q_ad G 0)), (1, .int (q_I pl)), (2, .int (q_I i)), (3, .int (q_I v20)), (4, .int (q_I v25)), (5, .int (q_I c1)), (6, .int (q_I n)), (7, .int (q_I c))] (Nat.le_of_ble_eq_true rfl) rfl ?_
                refine q_iconst F dX9_seats_70 ?_
                refine q_istore F dX9_seats_71 [(9, .int (q_I 0)), (8, .int (q_I c1)), (0, .ref (q_ad G 0)), (1, .int (q_I pl)), (2, .int (q_I i)), (3, .int (q_I v20)), (4, .int (q_I v25)), (5, .int (q_I c1)), (6, .int (q_I n)), (7, .int (q_I c))] (Nat.le_of_ble_eq_true rfl) rfl ?_
                refine q_iconst F dX9_seats_73 ?_
                refine q_istore F dX9_seats_74 [(10, .int (q_I 1)), (9, .int (q_I 0)), (8, .int (q_I c1)), (0, .ref (q_ad G 0)), (1, .int (q_I pl)), (2, .int (q_I i)), (3, .int (q_I v20)), (4, .int (q_I v25)), (5, .int (q_I c1)), (6, .int (q_I n)), (7, .int (q_I c))] (Nat.le_of_ble_eq_true rfl) rfl ?_
                refine q_iconst F dX9_seats_76 ?_
                refine q_istore F dX9_seats_77 [(11, .int (q_I 0)), (10, .int (q_I 1)), (9, .int (q_I 0)), (8, .int (q_I c1)), (0, .ref (q_ad G 0)), (1, .int (q_I pl)), (2, .int (q_I i)), (3, .int (q_I v20)), (4, .int (q_I v25)), (5, .int (q_I c1)), (6, .int (q_I n)), (7, .int (q_I c))] (Nat.le_of_ble_eq_true rfl) rfl ?_
                have lp79_3 : ∀ (k79_3 : Nat) (bq : Int) (us : Int) (can : Int) (k : Int) (M2 : q_M), ((0 ≤ k ∧ k ≤ v25) ∧ bq = q_pw 6 (v25 - k).toNat ∧ (∀ j, j ≠ 15 → M2 j = M1 j) ∧ (∀ i, 0 ≤ i → i < k → M2 15 i = c / q_pw 6 (v25 - 1 - i).toNat % 6) ∧ q_sI (M 4) v25 v20 c k us can (M2 15)) → (v25 - k).toNat = k79_3 → q_Y G E 12 M2 [(0, .ref (q_ad G 0)), (1, .int (q_I pl)), (2, .int (q_I i)), (3, .int (q_I v20)), (4, .int (q_I v25)), (5, .int (q_I c1)), (6, .int (q_I n)), (7, .int (q_I c)), (8, .int (q_I bq)), (9, .int (q_I us)), (10, .int (q_I can)), (11, .int (q_I k))] 79 [] := by
                  intro k79_3
                  induction k79_3 using Nat.strongRecOn with
                  | _ k79_3 ih79_3 =>
                    intro bq us can k  M2 hi79 hk79
                    refine q_MRof (fun hM79 => ?_)
                    obtain ⟨w1, w2, w3, w4, w5⟩ := id hi79
                    have hcan := w5.2.1
                    have hbR := q_pw6_6 (m := v25 - k) (by omega) (by omega)
                    rw [← w2] at hbR
                    refine q_iload F dX9_seats_79 11 rfl ?_
                    refine q_iload F dX9_seats_81 4 rfl ?_
                    refine q_icmp_ge F 201 dX9_seats_83 (by decide) (by omega) (fun c83 => ?_) (fun c83 => ?_)
                    · obtain ⟨w1, w2, w3, w4, w5⟩ := id hi79
                      have hcan := w5.2.1
                      refine q_iload F dX9_seats_201 10 rfl ?_
                      refine q_if_eq F 244 dX9_seats_203 (by decide) (by omega) (fun c203 => ?_) (fun c203 => ?_)
                      · obtain ⟨v244, e244⟩ : ∃ z_ : Int, z_ = c + 1 := ⟨_, rfl⟩
                        refine q_iinc F dX9_seats_244 7 rfl e244 [(7, .int (q_I v244)), (0, .ref (q_ad G 0)), (1, .int (q_I pl)), (2, .int (q_I i)), (3, .int (q_I v20)), (4, .int (q_I v25)), (5, .int (q_I c1)), (6, .int (q_I n)), (8, .int (q_I bq)), (9, .int (q_I us)), (10, .int (q_I can)), (11, .int (q_I k))] (Nat.le_of_ble_eq_true rfl) rfl ?_
                        refine q_goto F 59 dX9_seats_247 (by decide) ?_
                        refine q_drop [1, 2, 3, 4, 5, 6, 7, 0] rfl ?_
                        exact ih59_2 _ (by omega) n v244 M2 ⟨by omega, fun j a b => by rw [w3 j a]; exact k3 j a b, by rw [e244, w3 16 (by omega)]; exact q_sF_no k4 k1.1 (w5.2.2.1 c203)⟩ rfl
                      · have hV : (q_vd (M 4) v25.toNat v20 0) c = true := by
                          obtain ⟨rs, fo, -, -, hv, -⟩ := w5.2.2.2 (by omega)
                          rw [hv, show (v25 - k).toNat = 0 by omega]
                          rfl
                        refine q_iconst F dX9_seats_206 ?_
                        refine q_istore F dX9_seats_207 [(11, .int (q_I 0)), (0, .ref (q_ad G 0)), (1, .int (q_I pl)), (2, .int (q_I i)), (3, .int (q_I v20)), (4, .int (q_I v25)), (5, .int (q_I c1)), (6, .int (q_I n)), (7, .int (q_I c)), (8, .int (q_I bq)), (9, .int (q_I us)), (10, .int (q_I can))] (Nat.le_of_ble_eq_true rfl) rfl ?_
                        have lp209_4 : ∀ (k209_4 : Nat) (k2 : Int) (M3 : q_M), ((0 ≤ k2 ∧ k2 ≤ v25) ∧ (∀ j, j ≠ 16 → M3 j = M2 j) ∧ (¬ n = 0 → M3 16 = M2 16) ∧ (∀ y, 0 ≤ y → y < k2 → M3 16 y = M2 15 y)) → (v25 - k2).toNat = k209_4 → q_Y G E 12 M3 [(0, .ref (q_ad G 0)), (1, .int (q_I pl)), (2, .int (q_I i)), (3, .int (q_I v20)), (4, .int (q_I v25)), (5, .int (q_I c1)), (6, .int (q_I n)), (7, .int (q_I c)), (11, .int (q_I k2))] 209 [] := by
                          intro k209_4
                          induction k209_4 using Nat.strongRecOn with
                          | _ k209_4 ih209_4 =>
                            intro k2  M3 hi209 hk209
                            refine q_MRof (fun hM209 => ?_)
                            refine q_iload F dX9_seats_209 8 rfl ?_
                            refine q_iload F dX9_seats_211 4 rfl ?_
                            refine q_icmp_ge F 241 dX9_seats_213 (by decide) (by omega) (fun c213 => ?_) (fun c213 => ?_)
                            · obtain ⟨v241, e241⟩ : ∃ z_ : Int, z_ = n + 1 := ⟨_, rfl⟩
                              refine q_iinc F dX9_seats_241 6 rfl e241 [(6, .int (q_I v241)), (0, .ref (q_ad G 0)), (1, .int (q_I pl)), (2, .int (q_I i)), (3, .int (q_I v20)), (4, .int (q_I v25)), (5, .int (q_I c1)), (7, .int (q_I c)), (11, .int (q_I k2))] (Nat.le_of_ble_eq_true rfl) rfl ?_
                              obtain ⟨v244, e244⟩ : ∃ z_ : Int, z_ = c + 1 := ⟨_, rfl⟩
                              refine q_iinc F dX9_seats_244 7 rfl e244 [(7, .int (q_I v244)), (6, .int (q_I v241)), (0, .ref (q_ad G 0)), (1, .int (q_I pl)), (2, .int (q_I i)), (3, .int (q_I v20)), (4, .int (q_I v25)), (5, .int (q_I c1)), (11, .int (q_I k2))] (Nat.le_of_ble_eq_true rfl) rfl ?_
                              refine q_goto F 59 dX9_seats_247 (by decide) ?_
                              refine q_drop [2, 3, 4, 5, 6, 7, 1, 0] rfl ?_
                              exact ih59_2 _ (by omega) v241 v244 M3 ⟨by omega, fun j a b => by rw [hi209.2.1 j b, w3 j a]; exact k3 j a b, by
                                    rw [e244, e241]
                                    refine q_sF_yes (fr := M1 16) k4 k1.1 hV (fun hn i a b => ?_) (fun hn => ?_)
                                    · rw [hi209.2.2.2 i a (by omega), w4 i a (by omega)]
                                    · rw [hi209.2.2.1 hn, w3 16 (by omega)]⟩ rfl
                            · refine q_iload F dX9_seats_216 6 rfl ?_
                              refine q_if_ne F 241 dX9_seats_218 (by decide) (by omega) (fun c218 => ?_) (fun c218 => ?_)
                              · obtain ⟨v241, e241⟩ : ∃ z_ : Int, z_ = n + 1 := ⟨_, rfl⟩
                                refine q_iinc F dX9_seats_241 6 rfl e241 [(6, .int (q_I v241)), (0, .ref (q_ad G 0)), (1, .int (q_I pl)), (2, .int (q_I i)), (3, .int (q_I v20)), (4, .int (q_I v25)), (5, .int (q_I c1)), (7, .int (q_I c)), (11, .int (q_I k2))] (Nat.le_of_ble_eq_true rfl) rfl ?_
                                obtain ⟨v244, e244⟩ : ∃ z_ : Int, z_ = c + 1 := ⟨_, rfl⟩
                                refine q_iinc F dX9_seats_244 7 rfl e244 [(7, .int (q_I v244)), (6, .int (q_I v241)), (0, .ref (q_ad G 0)), (1, .int (q_I pl)), (2, .int (q_I i)), (3, .int (q_I v20)), (4, .int (q_I v25)), (5, .int (q_I c1)), (11, .int (q_I k2))] (Nat.le_of_ble_eq_true rfl) rfl ?_
                                refine q_goto F 59 dX9_seats_247 (by decide) ?_
                                refine q_drop [2, 3, 4, 5, 6, 7, 1, 0] rfl ?_
                                exact ih59_2 _ (by omega) v241 v244 M3 ⟨by omega, fun j a b => by rw [hi209.2.1 j b, w3 j a]; exact k3 j a b, by
                                      rw [e244, e241]
                                      refine q_sF_yes (fr := M1 16) k4 k1.1 hV (fun hn i a b => ?_) (fun hn => ?_)
                                      · rw [hi209.2.2.2 i a (by omega), w4 i a (by omega)]
                                      · rw [hi209.2.2.1 hn, w3 16 (by omega)]⟩ rfl
                              · refine q_aload_n F dX9_seats_221 0 rfl ?_
                                refine q_getr (T := TX9) (ref := "LeastHungryModel") F huX9 rfl hm.1 24 (by decide) (by decide +kernel) rfl rfl dX9_seats_222 ?_
                                refine q_iload F dX9_seats_225 8 rfl ?_
                                refine q_aload_n F dX9_seats_227 0 rfl ?_
                                refine q_getr (T := TX9) (ref := "LeastHungryModel") F huX9 rfl hm.1 23 (by decide) (by decide +kernel) rfl rfl dX9_seats_228 ?_
                                refine q_iload F dX9_seats_231 8 rfl ?_
                                refine q_iald F hm.2.2.2.2.2.2.2.2.2.2.2.2.2.2.2.1 (Nat.le_of_ble_eq_true rfl) (by omega) dX9_seats_233 (fun h233 => ?_)
                                refine q_iast F hm.2.2.2.2.2.2.2.2.2.2.2.2.2.2.2.2.1 (Nat.le_of_ble_eq_true rfl) (by omega) (by omega) dX9_seats_234 (fun N234 eN234 => ?_)
                                obtain ⟨v235, e235⟩ : ∃ z_ : Int, z_ = k2 + 1 := ⟨_, rfl⟩
                                refine q_iinc F dX9_seats_235 8 rfl e235 [(11, .int (q_I v235)), (0, .ref (q_ad G 0)), (1, .int (q_I pl)), (2, .int (q_I i)), (3, .int (q_I v20)), (4, .int (q_I v25)), (5, .int (q_I c1)), (6, .int (q_I n)), (7, .int (q_I c))] (Nat.le_of_ble_eq_true rfl) rfl ?_
                                refine q_goto F 209 dX9_seats_238 (by decide) ?_
                                refine q_drop [1, 2, 3, 4, 5, 6, 7, 8, 0] rfl ?_
                                exact ih209_4 _ (by omega) v235 N234 ⟨by omega, fun j hj => by rw [eN234, q_up_ne hj]; exact hi209.2.1 j hj, fun h => absurd c218 h, fun y a b => by
                                      rw [eN234, q_up_at]
                                      by_cases hx : y = k2
                                      · rw [if_pos hx, hi209.2.1 15 (by omega), hx]
                                      · rw [if_neg hx]; exact hi209.2.2.2 y a (by omega)⟩ rfl
                        refine q_drop [1, 2, 3, 4, 5, 6, 7, 8, 0] rfl ?_
                        exact lp209_4 _ 0 M2 ⟨by omega, fun _ _ => rfl, fun _ => rfl, fun y a b => by omega⟩ rfl
                    · refine q_iload F dX9_seats_86 10 rfl ?_
                      refine q_if_eq F 201 dX9_seats_88 (by decide) (by omega) (fun c88 => ?_) (fun c88 => ?_)
                      · obtain ⟨w1, w2, w3, w4, w5⟩ := id hi79
                        have hcan := w5.2.1
                        refine q_iload F dX9_seats_201 10 rfl ?_
                        refine q_if_eq F 244 dX9_seats_203 (by decide) (by omega) (fun c203 => ?_) (fun c203 => ?_)
                        · obtain ⟨v244, e244⟩ : ∃ z_ : Int, z_ = c + 1 := ⟨_, rfl⟩
                          refine q_iinc F dX9_seats_244 7 rfl e244 [(7, .int (q_I v244)), (0, .ref (q_ad G 0)), (1, .int (q_I pl)), (2, .int (q_I i)), (3, .int (q_I v20)), (4, .int (q_I v25)), (5, .int (q_I c1)), (6, .int (q_I n)), (8, .int (q_I bq)), (9, .int (q_I us)), (10, .int (q_I can)), (11, .int (q_I k))] (Nat.le_of_ble_eq_true rfl) rfl ?_
                          refine q_goto F 59 dX9_seats_247 (by decide) ?_
                          refine q_drop [1, 2, 3, 4, 5, 6, 7, 0] rfl ?_
                          exact ih59_2 _ (by omega) n v244 M2 ⟨by omega, fun j a b => by rw [w3 j a]; exact k3 j a b, by rw [e244, w3 16 (by omega)]; exact q_sF_no k4 k1.1 (w5.2.2.1 c203)⟩ rfl
                        · have hV : (q_vd (M 4) v25.toNat v20 0) c = true := by
                            obtain ⟨rs, fo, -, -, hv, -⟩ := w5.2.2.2 (by omega)
                            rw [hv, show (v25 - k).toNat = 0 by omega]
                            rfl
                          refine q_iconst F dX9_seats_206 ?_
                          refine q_istore F dX9_seats_207 [(11, .int (q_I 0)), (0, .ref (q_ad G 0)), (1, .int (q_I pl)), (2, .int (q_I i)), (3, .int (q_I v20)), (4, .int (q_I v25)), (5, .int (q_I c1)), (6, .int (q_I n)), (7, .int (q_I c)), (8, .int (q_I bq)), (9, .int (q_I us)), (10, .int (q_I can))] (Nat.le_of_ble_eq_true rfl) rfl ?_
                          have lp209_5 : ∀ (k209_5 : Nat) (k2 : Int) (M3 : q_M), ((0 ≤ k2 ∧ k2 ≤ v25) ∧ (∀ j, j ≠ 16 → M3 j = M2 j) ∧ (¬ n = 0 → M3 16 = M2 16) ∧ (∀ y, 0 ≤ y → y < k2 → M3 16 y = M2 15 y)) → (v25 - k2).toNat = k209_5 → q_Y G E 12 M3 [(0, .ref (q_ad G 0)), (1, .int (q_I pl)), (2, .int (q_I i)), (3, .int (q_I v20)), (4, .int (q_I v25)), (5, .int (q_I c1)), (6, .int (q_I n)), (7, .int (q_I c)), (11, .int (q_I k2))] 209 [] := by
                            intro k209_5
                            induction k209_5 using Nat.strongRecOn with
                            | _ k209_5 ih209_5 =>
                              intro k2  M3 hi209 hk209
                              refine q_MRof (fun hM209 => ?_)
                              refine q_iload F dX9_seats_209 8 rfl ?_
                              refine q_iload F dX9_seats_211 4 rfl ?_
                              refine q_icmp_ge F 241 dX9_seats_213 (by decide) (by omega) (fun c213 => ?_) (fun c213 => ?_)
                              · obtain ⟨v241, e241⟩ : ∃ z_ : Int, z_ = n + 1 := ⟨_, rfl⟩
                                refine q_iinc F dX9_seats_241 6 rfl e241 [(6, .int (q_I v241)), (0, .ref (q_ad G 0)), (1, .int (q_I pl)), (2, .int (q_I i)), (3, .int (q_I v20)), (4, .int (q_I v25)), (5, .int (q_I c1)), (7, .int (q_I c)), (11, .int (q_I k2))] (Nat.le_of_ble_eq_true rfl) rfl ?_
                                obtain ⟨v244, e244⟩ : ∃ z_ : Int, z_ = c + 1 := ⟨_, rfl⟩
                                refine q_iinc F dX9_seats_244 7 rfl e244 [(7, .int (q_I v244)), (6, .int (q_I v241)), (0, .ref (q_ad G 0)), (1, .int (q_I pl)), (2, .int (q_I i)), (3, .int (q_I v20)), (4, .int (q_I v25)), (5, .int (q_I c1)), (11, .int (q_I k2))] (Nat.le_of_ble_eq_true rfl) rfl ?_
                                refine q_goto F 59 dX9_seats_247 (by decide) ?_
                                refine q_drop [2, 3, 4, 5, 6, 7, 1, 0] rfl ?_
                                exact ih59_2 _ (by omega) v241 v244 M3 ⟨by omega, fun j a b => by rw [hi209.2.1 j b, w3 j a]; exact k3 j a b, by
                                      rw [e244, e241]
                                      refine q_sF_yes (fr := M1 16) k4 k1.1 hV (fun hn i a b => ?_) (fun hn => ?_)
                                      · rw [hi209.2.2.2 i a (by omega), w4 i a (by omega)]
                                      · rw [hi209.2.2.1 hn, w3 16 (by omega)]⟩ rfl
                              · refine q_iload F dX9_seats_216 6 rfl ?_
                                refine q_if_ne F 241 dX9_seats_218 (by decide) (by omega) (fun c218 => ?_) (fun c218 => ?_)
                                · obtain ⟨v241, e241⟩ : ∃ z_ : Int, z_ = n + 1 := ⟨_, rfl⟩
                                  refine q_iinc F dX9_seats_241 6 rfl e241 [(6, .int (q_I v241)), (0, .ref (q_ad G 0)), (1, .int (q_I pl)), (2, .int (q_I i)), (3, .int (q_I v20)), (4, .int (q_I v25)), (5, .int (q_I c1)), (7, .int (q_I c)), (11, .int (q_I k2))] (Nat.le_of_ble_eq_true rfl) rfl ?_
                                  obtain ⟨v244, e244⟩ : ∃ z_ : Int, z_ = c + 1 := ⟨_, rfl⟩
                                  refine q_iinc F dX9_seats_244 7 rfl e244 [(7, .int (q_I v244)), (6, .int (q_I v241)), (0, .ref (q_ad G 0)), (1, .int (q_I pl)), (2, .int (q_I i)), (3, .int (q_I v20)), (4, .int (q_I v25)), (5, .int (q_I c1)), (11, .int (q_I k2))] (Nat.le_of_ble_eq_true rfl) rfl ?_
                                  refine q_goto F 59 dX9_seats_247 (by decide) ?_
                                  refine q_drop [2, 3, 4, 5, 6, 7, 1, 0] rfl ?_
                                  exact ih59_2 _ (by omega) v241 v244 M3 ⟨by omega, fun j a b => by rw [hi209.2.1 j b, w3 j a]; exact k3 j a b, by
                                        rw [e244, e241]
                                        refine q_sF_yes (fr := M1 16) k4 k1.1 hV (fun hn i a b => ?_) (fun hn => ?_)
                                        · rw [hi209.2.2.2 i a (by omega), w4 i a (by omega)]
                                        · rw [hi209.2.2.1 hn, w3 16 (by omega)]⟩ rfl
                                · refine q_aload_n F dX9_seats_221 0 rfl ?_
                                  refine q_getr (T := TX9) (ref := "LeastHungryModel") F huX9 rfl hm.1 24 (by decide) (by decide +kernel) rfl rfl dX9_seats_222 ?_
                                  refine q_iload F dX9_seats_225 8 rfl ?_
                                  refine q_aload_n F dX9_seats_227 0 rfl ?_
                                  refine q_getr (T := TX9) (ref := "LeastHungryModel") F huX9 rfl hm.1 23 (by decide) (by decide +kernel) rfl rfl dX9_seats_228 ?_
                                  refine q_iload F dX9_seats_231 8 rfl ?_
                                  refine q_iald F hm.2.2.2.2.2.2.2.2.2.2.2.2.2.2.2.1 (Nat.le_of_ble_eq_true rfl) (by omega) dX9_seats_233 (fun h233 => ?_)
                                  refine q_iast F hm.2.2.2.2.2.2.2.2.2.2.2.2.2.2.2.2.1 (Nat.le_of_ble_eq_true rfl) (by omega) (by omega) dX9_seats_234 (fun N234 eN234 => ?_)
                                  obtain ⟨v235, e235⟩ : ∃ z_ : Int, z_ = k2 + 1 := ⟨_, rfl⟩
                                  refine q_iinc F dX9_seats_235 8 rfl e235 [(11, .int (q_I v235)), (0, .ref (q_ad G 0)), (1, .int (q_I pl)), (2, .int (q_I i)), (3, .int (q_I v20)), (4, .int (q_I v25)), (5, .int (q_I c1)), (6, .int (q_I n)), (7, .int (q_I c))] (Nat.le_of_ble_eq_true rfl) rfl ?_
                                  refine q_goto F 209 dX9_seats_238 (by decide) ?_
                                  refine q_drop [1, 2, 3, 4, 5, 6, 7, 8, 0] rfl ?_
                                  exact ih209_5 _ (by omega) v235 N234 ⟨by omega, fun j hj => by rw [eN234, q_up_ne hj]; exact hi209.2.1 j hj, fun h => absurd c218 h, fun y a b => by
                                        rw [eN234, q_up_at]
                                        by_cases hx : y = k2
                                        · rw [if_pos hx, hi209.2.1 15 (by omega), hx]
                                        · rw [if_neg hx]; exact hi209.2.2.2 y a (by omega)⟩ rfl
                          refine q_drop [1, 2, 3, 4, 5, 6, 7, 8, 0] rfl ?_
                          exact lp209_5 _ 0 M2 ⟨by omega, fun _ _ => rfl, fun _ => rfl, fun y a b => by omega⟩ rfl
                      · refine q_iload F dX9_seats_91 8 rfl ?_
                        refine q_bipush F dX9_seats_93 (by decide) ?_
                        refine q_idiv F dX9_seats_95 (by omega) ?_
                        refine q_nm (fun v96 e96 => ?_)
                        refine q_istore F dX9_seats_96 [(8, .int (q_I v96)), (0, .ref (q_ad G 0)), (1, .int (q_I pl)), (2, .int (q_I i)), (3, .int (q_I v20)), (4, .int (q_I v25)), (5, .int (q_I c1)), (6, .int (q_I n)), (7, .int (q_I c)), (9, .int (q_I us)), (10, .int (q_I can)), (11, .int (q_I k))] (Nat.le_of_ble_eq_true rfl) rfl ?_
                        have h96 : v96 = q_pw 6 (v25 - 1 - k).toNat := by rw [e96, w2, show (v25 - k).toNat = (v25 - 1 - k).toNat + 1 by omega, q_pw_d (by omega)]
                        have hpp := q_pw6_6 (m := v25 - 1 - k) (by omega) (by omega)
                        rw [← h96] at hpp
                        have hdd : 0 ≤ c / v96 ∧ c / v96 ≤ c := ⟨Int.ediv_nonneg (by omega) (by omega), Int.ediv_le_self _ (by omega)⟩
                        refine q_aload_n F dX9_seats_98 1 rfl ?_
                        refine q_getr (T := TX9) (ref := "LeastHungryModel") F huX9 rfl hm.1 23 (by decide) (by decide +kernel) rfl rfl dX9_seats_99 ?_
                        refine q_iload F dX9_seats_102 11 rfl ?_
                        refine q_iload F dX9_seats_104 8 rfl ?_
                        refine q_iload F dX9_seats_106 0 rfl ?_
                        refine q_idiv F dX9_seats_108 (by omega) ?_
                        refine q_bipush F dX9_seats_109 (by decide) ?_
                        refine q_irem F dX9_seats_111 (by omega) ?_
                        refine q_iast F hm.2.2.2.2.2.2.2.2.2.2.2.2.2.2.2.1 (Nat.le_of_ble_eq_true rfl) (by omega) (by omega) dX9_seats_112 (fun N112 eN112 => ?_)
                        have hrow : N112 15 k = c / v96 % 6 := by rw [eN112, q_up_at, if_pos rfl]
                        have hdg : c / v96 % 6 = c / q_pw 6 (v25 - 1 - k).toNat % 6 := by rw [h96]
                        have hrR : 0 ≤ N112 15 k ∧ N112 15 k < 6 := by rw [hrow]; omega
                        have hus := w5.1
                        refine q_iload_n F dX9_seats_113 4 rfl ?_
                        refine q_aload_n F dX9_seats_114 1 rfl ?_
                        refine q_getr (T := TX9) (ref := "LeastHungryModel") F huX9 rfl hm.1 23 (by decide) (by decide +kernel) rfl rfl dX9_seats_115 ?_
                        refine q_iload F dX9_seats_118 11 rfl ?_
                        refine q_iald F hm.2.2.2.2.2.2.2.2.2.2.2.2.2.2.2.1 (Nat.le_of_ble_eq_true rfl) (by omega) dX9_seats_120 (fun h120 => ?_)
                        refine q_callSP (n := 2) F (c_X9_has G hI N112 v20 _ (by omega)) rfl gX9_seats_X9_has ⟨by decide, by decide, by decide +kernel⟩ rfl ⟨rfl, rfl, Nat.le_of_ble_eq_true rfl, Nat.le_of_ble_eq_true rfl⟩ rfl (Nat.le_of_ble_eq_true rfl) dX9_seats_121 (fun h121 => ?_)
                        refine q_ifb_eq F 178 dX9_seats_124 (by decide) (fun c124 => ?_) (fun c124 => ?_)
                        · refine q_iconst F dX9_seats_178 ?_
                          refine q_istore F dX9_seats_179 [(10, .int (q_I 0)), (8, .int (q_I v96)), (0, .ref (q_ad G 0)), (1, .int (q_I pl)), (2, .int (q_I i)), (3, .int (q_I v20)), (4, .int (q_I v25)), (5, .int (q_I c1)), (6, .int (q_I n)), (7, .int (q_I c)), (9, .int (q_I us)), (11, .int (q_I k))] (Nat.le_of_ble_eq_true rfl) rfl ?_
                          refine q_iload F dX9_seats_181 10 rfl ?_
                          refine q_iconst F dX9_seats_183 ?_
                          refine q_aload_n F dX9_seats_184 2 rfl ?_
                          refine q_getr (T := TX9) (ref := "LeastHungryModel") F huX9 rfl hm.1 23 (by decide) (by decide +kernel) rfl rfl dX9_seats_185 ?_
                          refine q_iload F dX9_seats_188 11 rfl ?_
                          refine q_iald F hm.2.2.2.2.2.2.2.2.2.2.2.2.2.2.2.1 (Nat.le_of_ble_eq_true rfl) (by omega) dX9_seats_190 (fun h190 => ?_)
                          refine q_ishl F dX9_seats_191 (fun z191 e191 h191 => ?_)
                          refine q_ior F dX9_seats_192 (fun z192 e192 h192 => ?_)
                          refine q_istore F dX9_seats_193 [(9, .int (q_I z192)), (10, .int (q_I 0)), (8, .int (q_I v96)), (0, .ref (q_ad G 0)), (1, .int (q_I pl)), (2, .int (q_I i)), (3, .int (q_I v20)), (4, .int (q_I v25)), (5, .int (q_I c1)), (6, .int (q_I n)), (7, .int (q_I c)), (11, .int (q_I k))] (Nat.le_of_ble_eq_true rfl) rfl ?_
                          obtain ⟨v195, e195⟩ : ∃ z_ : Int, z_ = k + 1 := ⟨_, rfl⟩
                          refine q_iinc F dX9_seats_195 11 rfl e195 [(11, .int (q_I v195)), (9, .int (q_I z192)), (10, .int (q_I 0)), (8, .int (q_I v96)), (0, .ref (q_ad G 0)), (1, .int (q_I pl)), (2, .int (q_I i)), (3, .int (q_I v20)), (4, .int (q_I v25)), (5, .int (q_I c1)), (6, .int (q_I n)), (7, .int (q_I c))] (Nat.le_of_ble_eq_true rfl) rfl ?_
                          refine q_goto F 79 dX9_seats_198 (by decide) ?_
                          refine q_drop [4, 5, 6, 7, 8, 9, 10, 11, 3, 1, 2, 0] rfl ?_
                          exact ih79_3 _ (by omega) v96 z192 0 v195 N112 ⟨by omega, by rw [h96, e195, show v25 - (k + 1) = v25 - 1 - k by omega], fun j hj => by rw [eN112, q_up_ne hj]; exact w3 j hj, fun i a b => by
                                rw [eN112, q_up_at]
                                by_cases hx : i = k
                                · rw [if_pos hx, hx, hdg]
                                · rw [if_neg hx]; exact w4 i a (by omega), by
                                rw [e195]
                                rw [show can = 1 by omega] at w5
                                exact q_sI_s (ok := false) hF hsy w5 w1.1 (by omega) hdg hrow (by
                                  by_cases hk : k = 0
                                  · exact Or.inl hk
                                  · refine Or.inr ?_
                                    rw [w4 (k - 1) (by omega) (by omega)]
                                    omega) (by rw [e192, e191, hrow]) (by rw [← hrow, c124]; rfl) rfl⟩ rfl
                        · refine q_iload F dX9_seats_127 9 rfl ?_
                          refine q_aload_n F dX9_seats_129 1 rfl ?_
                          refine q_getr (T := TX9) (ref := "LeastHungryModel") F huX9 rfl hm.1 23 (by decide) (by decide +kernel) rfl rfl dX9_seats_130 ?_
                          refine q_iload F dX9_seats_133 11 rfl ?_
                          refine q_iald F hm.2.2.2.2.2.2.2.2.2.2.2.2.2.2.2.1 (Nat.le_of_ble_eq_true rfl) (by omega) dX9_seats_135 (fun h135 => ?_)
                          refine q_callSP (n := 2) F (c_X9_has G hI N112 us _ (by omega)) rfl gX9_seats_X9_has ⟨by decide, by decide, by decide +kernel⟩ rfl ⟨rfl, rfl, Nat.le_of_ble_eq_true rfl, Nat.le_of_ble_eq_true rfl⟩ rfl (Nat.le_of_ble_eq_true rfl) dX9_seats_136 (fun h136 => ?_)
                          refine q_ifb_ne F 178 dX9_seats_139 (by decide) (fun c139 => ?_) (fun c139 => ?_)
                          · refine q_iconst F dX9_seats_178 ?_
                            refine q_istore F dX9_seats_179 [(10, .int (q_I 0)), (8, .int (q_I v96)), (0, .ref (q_ad G 0)), (1, .int (q_I pl)), (2, .int (q_I i)), (3, .int (q_I v20)), (4, .int (q_I v25)), (5, .int (q_I c1)), (6, .int (q_I n)), (7, .int (q_I c)), (9, .int (q_I us)), (11, .int (q_I k))] (Nat.le_of_ble_eq_true rfl) rfl ?_
                            refine q_iload F dX9_seats_181 10 rfl ?_
                            refine q_iconst F dX9_seats_183 ?_
                            refine q_aload_n F dX9_seats_184 2 rfl ?_
                            refine q_getr (T := TX9) (ref := "LeastHungryModel") F huX9 rfl hm.1 23 (by decide) (by decide +kernel) rfl rfl dX9_seats_185 ?_
                            refine q_iload F dX9_seats_188 11 rfl ?_
                            refine q_iald F hm.2.2.2.2.2.2.2.2.2.2.2.2.2.2.2.1 (Nat.le_of_ble_eq_true rfl) (by omega) dX9_seats_190 (fun h190 => ?_)
                            refine q_ishl F dX9_seats_191 (fun z191 e191 h191 => ?_)
                            refine q_ior F dX9_seats_192 (fun z192 e192 h192 => ?_)
                            refine q_istore F dX9_seats_193 [(9, .int (q_I z192)), (10, .int (q_I 0)), (8, .int (q_I v96)), (0, .ref (q_ad G 0)), (1, .int (q_I pl)), (2, .int (q_I i)), (3, .int (q_I v20)), (4, .int (q_I v25)), (5, .int (q_I c1)), (6, .int (q_I n)), (7, .int (q_I c)), (11, .int (q_I k))] (Nat.le_of_ble_eq_true rfl) rfl ?_
                            obtain ⟨v195, e195⟩ : ∃ z_ : Int, z_ = k + 1 := ⟨_, rfl⟩
                            refine q_iinc F dX9_seats_195 11 rfl e195 [(11, .int (q_I v195)), (9, .int (q_I z192)), (10, .int (q_I 0)), (8, .int (q_I v96)), (0, .ref (q_ad G 0)), (1, .int (q_I pl)), (2, .int (q_I i)), (3, .int (q_I v20)), (4, .int (q_I v25)), (5, .int (q_I c1)), (6, .int (q_I n)), (7, .int (q_I c))] (Nat.le_of_ble_eq_true rfl) rfl ?_
                            refine q_goto F 79 dX9_seats_198 (by decide) ?_
                            refine q_drop [4, 5, 6, 7, 8, 9, 10, 11, 3, 1, 2, 0] rfl ?_
                            exact ih79_3 _ (by omega) v96 z192 0 v195 N112 ⟨by omega, by rw [h96, e195, show v25 - (k + 1) = v25 - 1 - k by omega], fun j hj => by rw [eN112, q_up_ne hj]; exact w3 j hj, fun i a b => by
                                  rw [eN112, q_up_at]
                                  by_cases hx : i = k
                                  · rw [if_pos hx, hx, hdg]
                                  · rw [if_neg hx]; exact w4 i a (by omega), by
                                  rw [e195]
                                  rw [show can = 1 by omega] at w5
                                  exact q_sI_s (ok := false) hF hsy w5 w1.1 (by omega) hdg hrow (by
                                    by_cases hk : k = 0
                                    · exact Or.inl hk
                                    · refine Or.inr ?_
                                      rw [w4 (k - 1) (by omega) (by omega)]
                                      omega) (by rw [e192, e191, hrow]) (by rw [← hrow, c139]; simp) rfl⟩ rfl
                          · refine q_iload F dX9_seats_142 11 rfl ?_
                            refine q_if_eq F 174 dX9_seats_144 (by decide) (by omega) (fun c144 => ?_) (fun c144 => ?_)
                            · refine q_iconst F dX9_seats_174 ?_
                              refine q_goto F 179 dX9_seats_175 (by decide) ?_
                              refine q_istore F dX9_seats_179 [(10, .int (q_I 1)), (8, .int (q_I v96)), (0, .ref (q_ad G 0)), (1, .int (q_I pl)), (2, .int (q_I i)), (3, .int (q_I v20)), (4, .int (q_I v25)), (5, .int (q_I c1)), (6, .int (q_I n)), (7, .int (q_I c)), (9, .int (q_I us)), (11, .int (q_I k))] (Nat.le_of_ble_eq_true rfl) rfl ?_
                              refine q_iload F dX9_seats_181 10 rfl ?_
                              refine q_iconst F dX9_seats_183 ?_
                              refine q_aload_n F dX9_seats_184 2 rfl ?_
                              refine q_getr (T := TX9) (ref := "LeastHungryModel") F huX9 rfl hm.1 23 (by decide) (by decide +kernel) rfl rfl dX9_seats_185 ?_
                              refine q_iload F dX9_seats_188 11 rfl ?_
                              refine q_iald F hm.2.2.2.2.2.2.2.2.2.2.2.2.2.2.2.1 (Nat.le_of_ble_eq_true rfl) (by omega) dX9_seats_190 (fun h190 => ?_)
                              refine q_ishl F dX9_seats_191 (fun z191 e191 h191 => ?_)
                              refine q_ior F dX9_seats_192 (fun z192 e192 h192 => ?_)
                              refine q_istore F dX9_seats_193 [(9, .int (q_I z192)), (10, .int (q_I 1)), (8, .int (q_I v96)), (0, .ref (q_ad G 0)), (1, .int (q_I pl)), (2, .int (q_I i)), (3, .int (q_I v20)), (4, .int (q_I v25)), (5, .int (q_I c1)), (6, .int (q_I n)), (7, .int (q_I c)), (11, .int (q_I k))] (Nat.le_of_ble_eq_true rfl) rfl ?_
                              obtain ⟨v195, e195⟩ : ∃ z_ : Int, z_ = k + 1 := ⟨_, rfl⟩
                              refine q_iinc F dX9_seats_195 11 rfl e195 [(11, .int (q_I v195)), (9, .int (q_I z192)), (10, .int (q_I 1)), (8, .int (q_I v96)), (0, .ref (q_ad G 0)), (1, .int (q_I pl)), (2, .int (q_I i)), (3, .int (q_I v20)), (4, .int (q_I v25)), (5, .int (q_I c1)), (6, .int (q_I n)), (7, .int (q_I c))] (Nat.le_of_ble_eq_true rfl) rfl ?_
                              refine q_goto F 79 dX9_seats_198 (by decide) ?_
                              refine q_drop [4, 5, 6, 7, 8, 9, 10, 11, 3, 1, 2, 0] rfl ?_
                              exact ih79_3 _ (by omega) v96 z192 1 v195 N112 ⟨by omega, by rw [h96, e195, show v25 - (k + 1) = v25 - 1 - k by omega], fun j hj => by rw [eN112, q_up_ne hj]; exact w3 j hj, fun i a b => by
                                    rw [eN112, q_up_at]
                                    by_cases hx : i = k
                                    · rw [if_pos hx, hx, hdg]
                                    · rw [if_neg hx]; exact w4 i a (by omega), by
                                    rw [e195]
                                    rw [show can = 1 by omega] at w5
                                    exact q_sI_s (ok := true) hF hsy w5 w1.1 (by omega) hdg hrow (by
                                      by_cases hk : k = 0
                                      · exact Or.inl hk
                                      · refine Or.inr ?_
                                        rw [w4 (k - 1) (by omega) (by omega)]
                                        omega) (by rw [e192, e191, hrow]) (by rw [← hrow, c124, c139, decide_eq_true c144]; rfl) rfl⟩ rfl
                            · have h4r : N112 4 = M 4 := by rw [eN112, q_up_ne (by omega), w3 4 (by omega), k3 4 (by omega) (by omega), p12.1 4 (by omega)]
                              have hprev : N112 15 (k - 1) = M2 15 (k - 1) := by rw [eN112, q_up_at, if_neg (by omega)]
                              have hpR : 0 ≤ N112 15 (k - 1) ∧ N112 15 (k - 1) < 6 := by rw [hprev, w4 (k - 1) (by omega) (by omega)]; omega
                              have h4F : 0 ≤ N112 4 (N112 15 k) ∧ N112 4 (N112 15 k) ≤ 63 := by rw [h4r]; exact xF _ hrR.1 hrR.2
                              refine q_aload_n F dX9_seats_147 1 rfl ?_
                              refine q_getr (T := TX9) (ref := "LeastHungryModel") F huX9 rfl hm.1 5 (by decide) (by decide +kernel) rfl rfl dX9_seats_148 ?_
                              refine q_aload_n F dX9_seats_151 1 rfl ?_
                              refine q_getr (T := TX9) (ref := "LeastHungryModel") F huX9 rfl hm.1 23 (by decide) (by decide +kernel) rfl rfl dX9_seats_152 ?_
                              refine q_iload F dX9_seats_155 11 rfl ?_
                              refine q_iald F hm.2.2.2.2.2.2.2.2.2.2.2.2.2.2.2.1 (Nat.le_of_ble_eq_true rfl) (by omega) dX9_seats_157 (fun h157 => ?_)
                              refine q_iald F hm.2.2.2.2.1 (Nat.le_of_ble_eq_true rfl) (by omega) dX9_seats_158 (fun h158 => ?_)
                              refine q_aload_n F dX9_seats_159 1 rfl ?_
                              refine q_getr (T := TX9) (ref := "LeastHungryModel") F huX9 rfl hm.1 23 (by decide) (by decide +kernel) rfl rfl dX9_seats_160 ?_
                              refine q_iload F dX9_seats_163 11 rfl ?_
                              refine q_iconst F dX9_seats_165 ?_
                              refine q_isub F dX9_seats_166 ?_
                              refine q_iald F hm.2.2.2.2.2.2.2.2.2.2.2.2.2.2.2.1 (Nat.le_of_ble_eq_true rfl) (by omega) dX9_seats_167 (fun h167 => ?_)
                              refine q_callSP (n := 2) F (c_X9_has G hI N112 _ _ ⟨h4F, hpR⟩) rfl gX9_seats_X9_has ⟨by decide, by decide, by decide +kernel⟩ rfl ⟨rfl, rfl, Nat.le_of_ble_eq_true rfl, Nat.le_of_ble_eq_true rfl⟩ rfl (Nat.le_of_ble_eq_true rfl) dX9_seats_168 (fun h168 => ?_)
                              refine q_ifb_ne F 178 dX9_seats_171 (by decide) (fun c171 => ?_) (fun c171 => ?_)
                              · refine q_iconst F dX9_seats_178 ?_
                                refine q_istore F dX9_seats_179 [(10, .int (q_I 0)), (8, .int (q_I v96)), (0, .ref (q_ad G 0)), (1, .int (q_I pl)), (2, .int (q_I i)), (3, .int (q_I v20)), (4, .int (q_I v25)), (5, .int (q_I c1)), (6, .int (q_I n)), (7, .int (q_I c)), (9, .int (q_I us)), (11, .int (q_I k))] (Nat.le_of_ble_eq_true rfl) rfl ?_
                                refine q_iload F dX9_seats_181 10 rfl ?_
                                refine q_iconst F dX9_seats_183 ?_
                                refine q_aload_n F dX9_seats_184 2 rfl ?_
                                refine q_getr (T := TX9) (ref := "LeastHungryModel") F huX9 rfl hm.1 23 (by decide) (by decide +kernel) rfl rfl dX9_seats_185 ?_
                                refine q_iload F dX9_seats_188 11 rfl ?_
                                refine q_iald F hm.2.2.2.2.2.2.2.2.2.2.2.2.2.2.2.1 (Nat.le_of_ble_eq_true rfl) (by omega) dX9_seats_190 (fun h190 => ?_)
                                refine q_ishl F dX9_seats_191 (fun z191 e191 h191 => ?_)
                                refine q_ior F dX9_seats_192 (fun z192 e192 h192 => ?_)
                                refine q_istore F dX9_seats_193 [(9, .int (q_I z192)), (10, .int (q_I 0)), (8, .int (q_I v96)), (0, .ref (q_ad G 0)), (1, .int (q_I pl)), (2, .int (q_I i)), (3, .int (q_I v20)), (4, .int (q_I v25)), (5, .int (q_I c1)), (6, .int (q_I n)), (7, .int (q_I c)), (11, .int (q_I k))] (Nat.le_of_ble_eq_true rfl) rfl ?_
                                obtain ⟨v195, e195⟩ : ∃ z_ : Int, z_ = k + 1 := ⟨_, rfl⟩
                                refine q_iinc F dX9_seats_195 11 rfl e195 [(11, .int (q_I v195)), (9, .int (q_I z192)), (10, .int (q_I 0)), (8, .int (q_I v96)), (0, .ref (q_ad G 0)), (1, .int (q_I pl)), (2, .int (q_I i)), (3, .int (q_I v20)), (4, .int (q_I v25)), (5, .int (q_I c1)), (6, .int (q_I n)), (7, .int (q_I c))] (Nat.le_of_ble_eq_true rfl) rfl ?_
                                refine q_goto F 79 dX9_seats_198 (by decide) ?_
                                refine q_drop [4, 5, 6, 7, 8, 9, 10, 11, 3, 1, 2, 0] rfl ?_
                                exact ih79_3 _ (by omega) v96 z192 0 v195 N112 ⟨by omega, by rw [h96, e195, show v25 - (k + 1) = v25 - 1 - k by omega], fun j hj => by rw [eN112, q_up_ne hj]; exact w3 j hj, fun i a b => by
                                      rw [eN112, q_up_at]
                                      by_cases hx : i = k
                                      · rw [if_pos hx, hx, hdg]
                                      · rw [if_neg hx]; exact w4 i a (by omega), by
                                      rw [e195]
                                      rw [show can = 1 by omega] at w5
                                      exact q_sI_s (ok := false) hF hsy w5 w1.1 (by omega) hdg hrow (by
                                        by_cases hk : k = 0
                                        · exact Or.inl hk
                                        · refine Or.inr ?_
                                          rw [w4 (k - 1) (by omega) (by omega)]
                                          omega) (by rw [e192, e191, hrow]) (by rw [← hrow, c124, c139, decide_eq_false c144, ← hprev, ← h4r, c171]; rfl) rfl⟩ rfl
                              · refine q_iconst F dX9_seats_174 ?_
                                refine q_goto F 179 dX9_seats_175 (by decide) ?_
                                refine q_istore F dX9_seats_179 [(10, .int (q_I 1)), (8, .int (q_I v96)), (0, .ref (q_ad G 0)), (1, .int (q_I pl)), (2, .int (q_I i)), (3, .int (q_I v20)), (4, .int (q_I v25)), (5, .int (q_I c1)), (6, .int (q_I n)), (7, .int (q_I c)), (9, .int (q_I us)), (11, .int (q_I k))] (Nat.le_of_ble_eq_true rfl) rfl ?_
                                refine q_iload F dX9_seats_181 10 rfl ?_
                                refine q_iconst F dX9_seats_183 ?_
                                refine q_aload_n F dX9_seats_184 2 rfl ?_
                                refine q_getr (T := TX9) (ref := "LeastHungryModel") F huX9 rfl hm.1 23 (by decide) (by decide +kernel) rfl rfl dX9_seats_185 ?_
                                refine q_iload F dX9_seats_188 11 rfl ?_
                                refine q_iald F hm.2.2.2.2.2.2.2.2.2.2.2.2.2.2.2.1 (Nat.le_of_ble_eq_true rfl) (by omega) dX9_seats_190 (fun h190 => ?_)
                                refine q_ishl F dX9_seats_191 (fun z191 e191 h191 => ?_)
                                refine q_ior F dX9_seats_192 (fun z192 e192 h192 => ?_)
                                refine q_istore F dX9_seats_193 [(9, .int (q_I z192)), (10, .int (q_I 1)), (8, .int (q_I v96)), (0, .ref (q_ad G 0)), (1, .int (q_I pl)), (2, .int (q_I i)), (3, .int (q_I v20)), (4, .int (q_I v25)), (5, .int (q_I c1)), (6, .int (q_I n)), (7, .int (q_I c)), (11, .int (q_I k))] (Nat.le_of_ble_eq_true rfl) rfl ?_
                                obtain ⟨v195, e195⟩ : ∃ z_ : Int, z_ = k + 1 := ⟨_, rfl⟩
                                refine q_iinc F dX9_seats_195 11 rfl e195 [(11, .int (q_I v195)), (9, .int (q_I z192)), (10, .int (q_I 1)), (8, .int (q_I v96)), (0, .ref (q_ad G 0)), (1, .int (q_I pl)), (2, .int (q_I i)), (3, .int (q_I v20)), (4, .int (q_I v25)), (5, .int (q_I c1)), (6, .int (q_I n)), (7, .int (q_I c))] (Nat.le_of_ble_eq_true rfl) rfl ?_
                                refine q_goto F 79 dX9_seats_198 (by decide) ?_
                                refine q_drop [4, 5, 6, 7, 8, 9, 10, 11, 3, 1, 2, 0] rfl ?_
                                exact ih79_3 _ (by omega) v96 z192 1 v195 N112 ⟨by omega, by rw [h96, e195, show v25 - (k + 1) = v25 - 1 - k by omega], fun j hj => by rw [eN112, q_up_ne hj]; exact w3 j hj, fun i a b => by
                                      rw [eN112, q_up_at]
                                      by_cases hx : i = k
                                      · rw [if_pos hx, hx, hdg]
                                      · rw [if_neg hx]; exact w4 i a (by omega), by
                                      rw [e195]
                                      rw [show can = 1 by omega] at w5
                                      exact q_sI_s (ok := true) hF hsy w5 w1.1 (by omega) hdg hrow (by
                                        by_cases hk : k = 0
                                        · exact Or.inl hk
                                        · refine Or.inr ?_
                                          rw [w4 (k - 1) (by omega) (by omega)]
                                          omega) (by rw [e192, e191, hrow]) (by rw [← hrow, c124, c139, decide_eq_false c144, ← hprev, ← h4r, c171]; rfl) rfl⟩ rfl
                refine q_drop [4, 5, 6, 7, 8, 9, 10, 11, 3, 2, 1, 0] rfl ?_
                exact lp79_3 _ c1 0 1 0 M1 ⟨by omega, by rw [hC, Int.sub_zero], fun _ _ => rfl, fun i a b => by omega, q_sI_0 hS⟩ rfl
          refine q_drop [2, 3, 4, 5, 6, 7, 1, 0] rfl ?_
          exact lp59_2 _ 0 0 N12 ⟨by omega, fun _ _ _ => rfl, rfl, Or.inl rfl⟩ rfl
        · refine q_iload F dX9_seats_40 5 rfl ?_
          refine q_bipush F dX9_seats_42 (by decide) ?_
          refine q_imul F dX9_seats_44 ?_
          refine q_nm (fun v45 e45 => ?_)
          refine q_istore F dX9_seats_45 [(5, .int (q_I v45)), (0, .ref (q_ad G 0)), (1, .int (q_I pl)), (2, .int (q_I i)), (3, .int (q_I v20)), (4, .int (q_I v25)), (6, .int (q_I k1v))] (Nat.le_of_ble_eq_true rfl) rfl ?_
          obtain ⟨v47, e47⟩ : ∃ z_ : Int, z_ = k1v + 1 := ⟨_, rfl⟩
          refine q_iinc F dX9_seats_47 6 rfl e47 [(6, .int (q_I v47)), (5, .int (q_I v45)), (0, .ref (q_ad G 0)), (1, .int (q_I pl)), (2, .int (q_I i)), (3, .int (q_I v20)), (4, .int (q_I v25))] (Nat.le_of_ble_eq_true rfl) rfl ?_
          refine q_goto F 33 dX9_seats_50 (by decide) ?_
          refine q_drop [2, 3, 4, 5, 6, 1, 0] rfl ?_
          exact ih33_1 _ (by omega) v45 v47 ⟨by omega, by rw [e45, hi33.2, show v47.toNat = k1v.toNat + 1 by omega]; rfl⟩ rfl
    refine q_drop [4, 5, 6, 3, 2, 1, 0] rfl ?_
    exact lp33_1 _ 1 0 ⟨by omega, rfl⟩ rfl
  · refine q_iconst F dX9_seats_9 ?_
    exact q_iret F FI dX9_seats_10 (by omega) ⟨by unfold S_seats; rw [if_neg (q_df c6)], q_kz_rf⟩
