set_option maxHeartbeats 4000000 in
set_option maxRecDepth 100000 in
theorem c_X8_isWithin (G : q_G) (hI : q_inj G) (M : q_M) (v : Int) (m : Int) (hv : (-2147483648 ≤ v ∧ v ≤ 2147483647) ∧ (-2147483648 ≤ m ∧ m ≤ 2147483647)) : q_CI G yX8_isWithin wsX8_isWithin ({ frames := 0, cells := 0, slots := 0, locals := 0 } : Room) [.int (q_I v), .int (q_I m)] M (fun z M' => z = q_b (decide (0 ≤ v ∧ v ≤ m)) ∧ M' = M) := by
  refine q_CI.of hI (by decide) rfl RX8 rfl [(0, .int (q_I v)), (1, .int (q_I m))] rfl (Nat.le_of_ble_eq_true rfl) (fun E F FI => ?_)
  refine q_MRof (fun hM => ?_)
  refine q_iload_n F dX8_isWithin_0 0 rfl ?_
  refine q_if_lt F 13 dX8_isWithin_1 (by decide) (by omega) (fun c1 => ?_) (fun c1 => ?_)
  · refine q_iconst F dX8_isWithin_13 ?_
    exact q_zret F FI dX8_isWithin_14 (by first | exact q_b01 _ | omega) (by first | exact ⟨(q_b_t (by omega)).symm, rfl⟩ | exact ⟨(q_b_f (by omega)).symm, rfl⟩)
  · refine q_iload_n F dX8_isWithin_4 0 rfl ?_
    refine q_iload_n F dX8_isWithin_5 1 rfl ?_
    refine q_icmp_gt F 13 dX8_isWithin_6 (by decide) (by omega) (fun c6 => ?_) (fun c6 => ?_)
    · refine q_iconst F dX8_isWithin_13 ?_
      exact q_zret F FI dX8_isWithin_14 (by first | exact q_b01 _ | omega) (by first | exact ⟨(q_b_t (by omega)).symm, rfl⟩ | exact ⟨(q_b_f (by omega)).symm, rfl⟩)
    · refine q_iconst F dX8_isWithin_9 ?_
      refine q_goto F 14 dX8_isWithin_10 (by decide) ?_
      exact q_zret F FI dX8_isWithin_14 (by first | exact q_b01 _ | omega) (by first | exact ⟨(q_b_t (by omega)).symm, rfl⟩ | exact ⟨(q_b_f (by omega)).symm, rfl⟩)

set_option maxHeartbeats 4000000 in
set_option maxRecDepth 100000 in
theorem c_X8_isHouse (G : q_G) (hI : q_inj G) (M : q_M) (v : Int) (hv : -2147483648 ≤ v ∧ v ≤ 2147483647) : q_CI G yX8_isHouse wsX8_isHouse ({ frames := 1, cells := 0, slots := 0, locals := 21 } : Room) [.int (q_I v)] M (fun z M' => z = q_b (decide (0 ≤ v ∧ v ≤ 2)) ∧ M' = M) := by
  refine q_CI.of hI (by decide) rfl RX8 rfl [(0, .int (q_I v))] rfl (Nat.le_of_ble_eq_true rfl) (fun E F FI => ?_)
  refine q_MRof (fun hM => ?_)
  refine q_iload_n F dX8_isHouse_0 0 rfl ?_
  refine q_iconst F dX8_isHouse_1 ?_
  refine q_callSP (n := 2) F (c_X8_isWithin G hI M v 2 (by omega)) rfl gX8_isHouse_X8_isWithin ⟨by decide, by decide, by decide +kernel⟩ rfl ⟨rfl, rfl, Nat.le_of_ble_eq_true rfl, Nat.le_of_ble_eq_true rfl⟩ rfl (Nat.le_of_ble_eq_true rfl) dX8_isHouse_2 (fun h2 => ?_)
  exact q_zret F FI dX8_isHouse_5 (by first | exact q_b01 _ | omega) ⟨rfl, rfl⟩

set_option maxHeartbeats 4000000 in
set_option maxRecDepth 100000 in
theorem c_X8_isDish (G : q_G) (hI : q_inj G) (M : q_M) (v : Int) (hv : -2147483648 ≤ v ∧ v ≤ 2147483647) : q_CI G yX8_isDish wsX8_isDish ({ frames := 0, cells := 0, slots := 0, locals := 0 } : Room) [.int (q_I v)] M (fun z M' => z = q_b (decide (1 ≤ v ∧ v ≤ 9)) ∧ M' = M) := by
  refine q_CI.of hI (by decide) rfl RX8 rfl [(0, .int (q_I v))] rfl (Nat.le_of_ble_eq_true rfl) (fun E F FI => ?_)
  refine q_MRof (fun hM => ?_)
  refine q_iload_n F dX8_isDish_0 0 rfl ?_
  refine q_iconst F dX8_isDish_1 ?_
  refine q_icmp_lt F 15 dX8_isDish_2 (by decide) (by omega) (fun c2 => ?_) (fun c2 => ?_)
  · refine q_iconst F dX8_isDish_15 ?_
    exact q_zret F FI dX8_isDish_16 (by first | exact q_b01 _ | omega) (by first | exact ⟨(q_b_t (by omega)).symm, rfl⟩ | exact ⟨(q_b_f (by omega)).symm, rfl⟩)
  · refine q_iload_n F dX8_isDish_5 0 rfl ?_
    refine q_bipush F dX8_isDish_6 (by decide) ?_
    refine q_icmp_gt F 15 dX8_isDish_8 (by decide) (by omega) (fun c8 => ?_) (fun c8 => ?_)
    · refine q_iconst F dX8_isDish_15 ?_
      exact q_zret F FI dX8_isDish_16 (by first | exact q_b01 _ | omega) (by first | exact ⟨(q_b_t (by omega)).symm, rfl⟩ | exact ⟨(q_b_f (by omega)).symm, rfl⟩)
    · refine q_iconst F dX8_isDish_11 ?_
      refine q_goto F 16 dX8_isDish_12 (by decide) ?_
      exact q_zret F FI dX8_isDish_16 (by first | exact q_b01 _ | omega) (by first | exact ⟨(q_b_t (by omega)).symm, rfl⟩ | exact ⟨(q_b_f (by omega)).symm, rfl⟩)

set_option maxHeartbeats 4000000 in
set_option maxRecDepth 100000 in
theorem c_X8_holds (G : q_G) (hI : q_inj G) (M : q_M) (s : Int) (g : Int) (hs : (0 ≤ s ∧ s ≤ 63) ∧ (-2147483648 ≤ g ∧ g ≤ 2147483647)) : q_CI G yX8_holds wsX8_holds ({ frames := 0, cells := 0, slots := 0, locals := 0 } : Room) [.int (q_I s), .int (q_I g)] M (fun z M' => z = q_b (q_has s g) ∧ M' = M) := by
  refine q_CI.of hI (by decide) rfl RX8 rfl [(0, .int (q_I s)), (1, .int (q_I g))] rfl (Nat.le_of_ble_eq_true rfl) (fun E F FI => ?_)
  refine q_MRof (fun hM => ?_)
  refine q_iload_n F dX8_holds_0 1 rfl ?_
  refine q_if_lt F 23 dX8_holds_1 (by decide) (by omega) (fun c1 => ?_) (fun c1 => ?_)
  · refine q_iconst F dX8_holds_23 ?_
    exact q_zret F FI dX8_holds_24 (by first | exact q_b01 _ | omega) (by first | exact ⟨by rw [q_has_out (by omega)]; rfl, rfl⟩ | (subst e14; subst e12; rw [q_bit (by omega) (by omega) (by omega) (by omega)] at c16; refine ⟨?_, rfl⟩; revert c16; generalize q_has s g = b; cases b <;> decide))
  · refine q_iload_n F dX8_holds_4 1 rfl ?_
    refine q_bipush F dX8_holds_5 (by decide) ?_
    refine q_icmp_ge F 23 dX8_holds_7 (by decide) (by omega) (fun c7 => ?_) (fun c7 => ?_)
    · refine q_iconst F dX8_holds_23 ?_
      exact q_zret F FI dX8_holds_24 (by first | exact q_b01 _ | omega) (by first | exact ⟨by rw [q_has_out (by omega)]; rfl, rfl⟩ | (subst e14; subst e12; rw [q_bit (by omega) (by omega) (by omega) (by omega)] at c16; refine ⟨?_, rfl⟩; revert c16; generalize q_has s g = b; cases b <;> decide))
    · refine q_iload_n F dX8_holds_10 0 rfl ?_
      refine q_iload_n F dX8_holds_11 1 rfl ?_
      refine q_ishr F dX8_holds_12 (fun z12 e12 h12 => ?_)
      refine q_iconst F dX8_holds_13 ?_
      refine q_iand F dX8_holds_14 (fun z14 e14 h14 => ?_)
      refine q_iconst F dX8_holds_15 ?_
      refine q_icmp_ne F 23 dX8_holds_16 (by decide) (by omega) (fun c16 => ?_) (fun c16 => ?_)
      · refine q_iconst F dX8_holds_23 ?_
        exact q_zret F FI dX8_holds_24 (by first | exact q_b01 _ | omega) (by first | exact ⟨by rw [q_has_out (by omega)]; rfl, rfl⟩ | (subst e14; subst e12; rw [q_bit (by omega) (by omega) (by omega) (by omega)] at c16; refine ⟨?_, rfl⟩; revert c16; generalize q_has s g = b; cases b <;> decide))
      · refine q_iconst F dX8_holds_19 ?_
        refine q_goto F 24 dX8_holds_20 (by decide) ?_
        exact q_zret F FI dX8_holds_24 (by first | exact q_b01 _ | omega) (by first | exact ⟨by rw [q_has_out (by omega)]; rfl, rfl⟩ | (subst e14; subst e12; rw [q_bit (by omega) (by omega) (by omega) (by omega)] at c16; refine ⟨?_, rfl⟩; revert c16; generalize q_has s g = b; cases b <;> decide))

set_option maxHeartbeats 4000000 in
set_option maxRecDepth 100000 in
theorem c_X8_at (G : q_G) (hI : q_inj G) (M : q_M) (k : Nat) (n : Nat) (hk : q_sh G k = some (.inl (false, n))) (i : Int) (hi : (0 ≤ i ∧ i < (n : Int)) ∧ n ≤ 2147483647) : q_CI G yX8_at wsX8_at ({ frames := 0, cells := 0, slots := 0, locals := 0 } : Room) [.ref (q_ad G k), .int (q_I i)] M (fun z M' => z = M k i ∧ M' = M) := by
  refine q_CI.of hI (by decide) rfl RX8 rfl [(0, .ref (q_ad G k)), (1, .int (q_I i))] rfl (Nat.le_of_ble_eq_true rfl) (fun E F FI => ?_)
  refine q_MRof (fun hM => ?_)
  refine q_iload_n F dX8_at_0 1 rfl ?_
  refine q_if_lt F 16 dX8_at_1 (by decide) (by omega) (fun c1 => ?_) (fun c1 => ?_)
  · exfalso; omega
  refine q_iload_n F dX8_at_4 1 rfl ?_
  refine q_aload_n F dX8_at_5 0 rfl ?_
  refine q_alen F (n : Int) hk rfl dX8_at_6 ?_
  refine q_icmp_ge F 16 dX8_at_7 (by decide) (by omega) (fun c7 => ?_) (fun c7 => ?_)
  · exfalso; omega
  refine q_aload_n F dX8_at_10 0 rfl ?_
  refine q_iload_n F dX8_at_11 1 rfl ?_
  refine q_iald F hk (by omega) (by omega) dX8_at_12 (fun h12 => ?_)
  refine q_goto F 17 dX8_at_13 (by decide) ?_
  exact q_iret F FI dX8_at_17 (by omega) ⟨rfl, rfl⟩

set_option maxHeartbeats 4000000 in
set_option maxRecDepth 100000 in
theorem c_X8_put (G : q_G) (hI : q_inj G) (M : q_M) (k : Nat) (n : Nat) (hk : q_sh G k = some (.inl (false, n))) (i : Int) (v : Int) (hi : (0 ≤ i ∧ i < (n : Int)) ∧ n ≤ 2147483647) (hv : -2147483648 ≤ v ∧ v ≤ 2147483647) : q_CV G yX8_put wsX8_put ({ frames := 0, cells := 0, slots := 0, locals := 0 } : Room) [.ref (q_ad G k), .int (q_I i), .int (q_I v)] M (fun M' => M' = q_up M k i v) := by
  refine q_CV.of hI (by decide) rfl RX8 rfl [(0, .ref (q_ad G k)), (1, .int (q_I i)), (2, .int (q_I v))] rfl (Nat.le_of_ble_eq_true rfl) (fun E F FV => ?_)
  refine q_MRof (fun hM => ?_)
  refine q_iload_n F dX8_put_0 1 rfl ?_
  refine q_if_lt F 14 dX8_put_1 (by decide) (by omega) (fun c1 => ?_) (fun c1 => ?_)
  · exfalso; omega
  refine q_iload_n F dX8_put_4 1 rfl ?_
  refine q_aload_n F dX8_put_5 0 rfl ?_
  refine q_alen F (n : Int) hk rfl dX8_put_6 ?_
  refine q_icmp_ge F 14 dX8_put_7 (by decide) (by omega) (fun c7 => ?_) (fun c7 => ?_)
  · exfalso; omega
  refine q_aload_n F dX8_put_10 0 rfl ?_
  refine q_iload_n F dX8_put_11 1 rfl ?_
  refine q_iload_n F dX8_put_12 2 rfl ?_
  refine q_iast F hk (by omega) (by omega) (by omega) dX8_put_13 (fun N13 eN13 => ?_)
  exact q_vret F FV dX8_put_14 (by assumption)

set_option maxHeartbeats 4000000 in
set_option maxRecDepth 100000 in
theorem c_X8_copyRow (G : q_G) (hI : q_inj G) (M : q_M) (k0 : Nat) (k1 : Nat) (n : Nat) (hk0 : q_sh G k0 = some (.inl (false, n))) (hk1 : q_sh G k1 = some (.inl (false, n))) (hn : n ≤ 2147483647) : q_CV G yX8_copyRow wsX8_copyRow ({ frames := 1, cells := 0, slots := 0, locals := 26 } : Room) [.ref (q_ad G k0), .ref (q_ad G k1)] M (fun M' => M' = q_cp M k0 k1 n) := by
  refine q_CV.of hI (by decide) rfl RX8 rfl [(0, .ref (q_ad G k0)), (1, .ref (q_ad G k1))] rfl (Nat.le_of_ble_eq_true rfl) (fun E F FV => ?_)
  refine q_MRof (fun hM => ?_)
  refine q_aload_n F dX8_copyRow_0 0 rfl ?_
  refine q_iconst F dX8_copyRow_1 ?_
  refine q_aload_n F dX8_copyRow_2 1 rfl ?_
  refine q_iconst F dX8_copyRow_3 ?_
  refine q_aload_n F dX8_copyRow_4 0 rfl ?_
  refine q_alen F (n : Int) hk0 rfl dX8_copyRow_5 ?_
  refine q_aload_n F dX8_copyRow_6 1 rfl ?_
  refine q_alen F (n : Int) hk1 rfl dX8_copyRow_7 ?_
  refine q_mmin F (by omega) (by decide +kernel) (by decide +kernel) (by decide +kernel) (by decide +kernel) ⟨Nat.le_of_ble_eq_true rfl, Nat.le_of_ble_eq_true rfl⟩ dX8_copyRow_8 ?_
  refine q_copy F hk0 hk1 (by omega) (by decide +kernel) (by decide +kernel) (by decide +kernel) (by decide +kernel) ⟨Nat.le_of_ble_eq_true rfl, Nat.le_of_ble_eq_true rfl⟩ dX8_copyRow_11 (fun N11 eN11 => ?_)
  exact q_vret F FV dX8_copyRow_14 (by rw [show min (n : Int) (n : Int) = (n : Int) by omega] at eN11; exact eN11)

set_option maxHeartbeats 4000000 in
set_option maxRecDepth 100000 in
theorem c_X8_thoseWithAny (G : q_G) (hI : q_inj G) (M : q_M) (k : Nat) (hk : q_sh G k = some (.inl (false, 6))) : q_CI G yX8_thoseWithAny wsX8_thoseWithAny ({ frames := 0, cells := 0, slots := 0, locals := 0 } : Room) [.ref (q_ad G k)] M (fun z M' => z = q_set (fun x => decide (0 < M k x)) ∧ M' = M) := by
  refine q_CI.of hI (by decide) rfl RX8 rfl [(0, .ref (q_ad G k))] rfl (Nat.le_of_ble_eq_true rfl) (fun E F FI => ?_)
  refine q_MRof (fun hM => ?_)
  refine q_iconst F dX8_thoseWithAny_0 ?_
  refine q_istore_n F dX8_thoseWithAny_1 [(1, .int (q_I 0)), (0, .ref (q_ad G k))] (Nat.le_of_ble_eq_true rfl) rfl ?_
  refine q_iconst F dX8_thoseWithAny_2 ?_
  refine q_istore_n F dX8_thoseWithAny_3 [(2, .int (q_I 0)), (1, .int (q_I 0)), (0, .ref (q_ad G k))] (Nat.le_of_ble_eq_true rfl) rfl ?_
  have lp4_1 : ∀ (k4_1 : Nat) (s : Int) (g : Int), (0 ≤ g ∧ g ≤ 6 ∧ s = q_set (q_lt (fun x => decide (0 < M k x)) g)) → (6 - g).toNat = k4_1 → q_Y G E 3 M [(0, .ref (q_ad G k)), (1, .int (q_I s)), (2, .int (q_I g))] 4 [] := by
    intro k4_1
    induction k4_1 using Nat.strongRecOn with
    | _ k4_1 ih4_1 =>
      intro s g   hi4 hk4
      refine q_iload_n F dX8_thoseWithAny_4 2 rfl ?_
      refine q_aload_n F dX8_thoseWithAny_5 0 rfl ?_
      refine q_alen F 6 hk rfl dX8_thoseWithAny_6 ?_
      refine q_icmp_ge F 28 dX8_thoseWithAny_7 (by decide) (by omega) (fun c7 => ?_) (fun c7 => ?_)
      · refine q_iload_n F dX8_thoseWithAny_28 1 rfl ?_
        exact q_iret F FI dX8_thoseWithAny_29 (by have := q_set_R (q_lt (fun x => decide (0 < M k x)) g); omega) (by obtain ⟨h1, h2, h3⟩ := hi4; rw [h3, show g = 6 by omega, q_set_6]; exact ⟨rfl, rfl⟩)
      · refine q_aload_n F dX8_thoseWithAny_10 0 rfl ?_
        refine q_iload_n F dX8_thoseWithAny_11 2 rfl ?_
        refine q_iald F hk (Nat.le_of_ble_eq_true rfl) (by omega) dX8_thoseWithAny_12 (fun h12 => ?_)
        refine q_if_le F 22 dX8_thoseWithAny_13 (by decide) (by omega) (fun c13 => ?_) (fun c13 => ?_)
        · obtain ⟨v22, e22⟩ : ∃ z_ : Int, z_ = g + 1 := ⟨_, rfl⟩
          refine q_iinc F dX8_thoseWithAny_22 2 rfl e22 [(2, .int (q_I v22)), (0, .ref (q_ad G k)), (1, .int (q_I s))] (Nat.le_of_ble_eq_true rfl) rfl ?_
          refine q_goto F 4 dX8_thoseWithAny_25 (by decide) ?_
          refine q_drop [1, 2, 0] rfl ?_
          exact ih4_1 _ (by omega) s v22 (by obtain ⟨h1, h2, h3⟩ := hi4; refine ⟨by omega, by omega, ?_⟩; rw [e22, q_set_step _ (by omega) (by omega)]; (rw [if_neg (by simp; omega)]; exact h3)) rfl
        · refine q_iload_n F dX8_thoseWithAny_16 1 rfl ?_
          refine q_iconst F dX8_thoseWithAny_17 ?_
          refine q_iload_n F dX8_thoseWithAny_18 2 rfl ?_
          refine q_ishl F dX8_thoseWithAny_19 (fun z19 e19 h19 => ?_)
          refine q_ior F dX8_thoseWithAny_20 (fun z20 e20 h20 => ?_)
          refine q_istore_n F dX8_thoseWithAny_21 [(1, .int (q_I z20)), (0, .ref (q_ad G k)), (2, .int (q_I g))] (Nat.le_of_ble_eq_true rfl) rfl ?_
          obtain ⟨v22, e22⟩ : ∃ z_ : Int, z_ = g + 1 := ⟨_, rfl⟩
          refine q_iinc F dX8_thoseWithAny_22 2 rfl e22 [(2, .int (q_I v22)), (1, .int (q_I z20)), (0, .ref (q_ad G k))] (Nat.le_of_ble_eq_true rfl) rfl ?_
          refine q_goto F 4 dX8_thoseWithAny_25 (by decide) ?_
          refine q_drop [2, 1, 0] rfl ?_
          exact ih4_1 _ (by omega) z20 v22 (by obtain ⟨h1, h2, h3⟩ := hi4; refine ⟨by omega, by omega, ?_⟩; rw [e22, q_set_step _ (by omega) (by omega)]; (rw [if_pos (by simp [c13])]; rw [e20, e19, h3])) rfl
  refine q_drop [2, 1, 0] rfl ?_
  exact lp4_1 _ 0 0 ⟨by omega, by omega, (q_set_0 _).symm⟩ rfl

set_option maxHeartbeats 4000000 in
set_option maxRecDepth 100000 in
theorem c_X8_power (G : q_G) (hI : q_inj G) (M : q_M) (b : Int) (t : Int) (hb : (0 ≤ b ∧ b ≤ 10) ∧ (0 ≤ t ∧ t ≤ 6)) : q_CI G yX8_power wsX8_power ({ frames := 0, cells := 0, slots := 0, locals := 0 } : Room) [.int (q_I b), .int (q_I t)] M (fun z M' => z = q_pw b t.toNat ∧ M' = M) := by
  refine q_CI.of hI (by decide) rfl RX8 rfl [(0, .int (q_I b)), (1, .int (q_I t))] rfl (Nat.le_of_ble_eq_true rfl) (fun E F FI => ?_)
  refine q_MRof (fun hM => ?_)
  refine q_iconst F dX8_power_0 ?_
  refine q_istore_n F dX8_power_1 [(2, .int (q_I 1)), (0, .int (q_I b)), (1, .int (q_I t))] (Nat.le_of_ble_eq_true rfl) rfl ?_
  refine q_iconst F dX8_power_2 ?_
  refine q_istore_n F dX8_power_3 [(3, .int (q_I 0)), (2, .int (q_I 1)), (0, .int (q_I b)), (1, .int (q_I t))] (Nat.le_of_ble_eq_true rfl) rfl ?_
  have lp4_1 : ∀ (k4_1 : Nat) (z : Int) (g : Int), (0 ≤ g ∧ g ≤ t ∧ z = q_pw b g.toNat) → (t - g).toNat = k4_1 → q_Y G E 4 M [(0, .int (q_I b)), (1, .int (q_I t)), (2, .int (q_I z)), (3, .int (q_I g))] 4 [] := by
    intro k4_1
    induction k4_1 using Nat.strongRecOn with
    | _ k4_1 ih4_1 =>
      intro z g   hi4 hk4
      refine q_iload_n F dX8_power_4 3 rfl ?_
      refine q_iload_n F dX8_power_5 1 rfl ?_
      refine q_icmp_ge F 19 dX8_power_6 (by decide) (by omega) (fun c6 => ?_) (fun c6 => ?_)
      · refine q_iload_n F dX8_power_19 2 rfl ?_
        obtain ⟨h1, h2, h3⟩ := hi4
        have hz := q_pw_R (b := b) hb.1 g.toNat (by omega)
        rw [← h3] at hz
        exact q_iret F FI dX8_power_20 (by omega) ⟨by rw [h3, show g = t by omega], rfl⟩
      · refine q_iload_n F dX8_power_9 2 rfl ?_
        refine q_iload_n F dX8_power_10 0 rfl ?_
        refine q_imul F dX8_power_11 ?_
        refine q_nm (fun v12 e12 => ?_)
        refine q_istore_n F dX8_power_12 [(2, .int (q_I v12)), (0, .int (q_I b)), (1, .int (q_I t)), (3, .int (q_I g))] (Nat.le_of_ble_eq_true rfl) rfl ?_
        obtain ⟨v13, e13⟩ : ∃ z_ : Int, z_ = g + 1 := ⟨_, rfl⟩
        refine q_iinc F dX8_power_13 3 rfl e13 [(3, .int (q_I v13)), (2, .int (q_I v12)), (0, .int (q_I b)), (1, .int (q_I t))] (Nat.le_of_ble_eq_true rfl) rfl ?_
        refine q_goto F 4 dX8_power_16 (by decide) ?_
        refine q_drop [2, 3, 1, 0] rfl ?_
        exact ih4_1 _ (by omega) v12 v13 (by obtain ⟨h1, h2, h3⟩ := hi4; refine ⟨by omega, by omega, ?_⟩; rw [e12, h3, show v13.toNat = g.toNat + 1 by omega]; rfl) rfl
  refine q_drop [2, 3, 1, 0] rfl ?_
  exact lp4_1 _ 1 0 ⟨by omega, by omega, rfl⟩ rfl

set_option maxHeartbeats 4000000 in
set_option maxRecDepth 100000 in
theorem c_X8_placeOf (G : q_G) (hI : q_inj G) (M : q_M) (g : Int) (k : Nat) (s : Int) (hk : q_sh G k = some (.inl (false, 6))) (hg : (0 ≤ g ∧ g < 6) ∧ (0 ≤ s ∧ s ≤ 63)) : q_CI G yX8_placeOf wsX8_placeOf ({ frames := 1, cells := 0, slots := 0, locals := 21 } : Room) [.int (q_I g), .ref (q_ad G k), .int (q_I s)] M (fun z M' => z = q_place (M k) s g ∧ M' = M) := by
  refine q_CI.of hI (by decide) rfl RX8 rfl [(0, .int (q_I g)), (1, .ref (q_ad G k)), (2, .int (q_I s))] rfl (Nat.le_of_ble_eq_true rfl) (fun E F FI => ?_)
  refine q_MRof (fun hM => ?_)
  refine q_aload_n F dX8_placeOf_0 1 rfl ?_
  refine q_iload_n F dX8_placeOf_1 0 rfl ?_
  refine q_callSP (n := 2) F (c_X8_at G hI M k 6 hk g (by omega)) rfl gX8_placeOf_X8_at ⟨by decide, by decide, by decide +kernel⟩ rfl ⟨rfl, rfl, Nat.le_of_ble_eq_true rfl, Nat.le_of_ble_eq_true rfl⟩ rfl (Nat.le_of_ble_eq_true rfl) dX8_placeOf_2 (fun h2 => ?_)
  refine q_nm (fun v5 e5 => ?_)
  refine q_istore_n F dX8_placeOf_5 [(3, .int (q_I v5)), (0, .int (q_I g)), (1, .ref (q_ad G k)), (2, .int (q_I s))] (Nat.le_of_ble_eq_true rfl) rfl ?_
  refine q_iconst F dX8_placeOf_6 ?_
  refine q_istore F dX8_placeOf_7 [(4, .int (q_I 0)), (3, .int (q_I v5)), (0, .int (q_I g)), (1, .ref (q_ad G k)), (2, .int (q_I s))] (Nat.le_of_ble_eq_true rfl) rfl ?_
  refine q_iconst F dX8_placeOf_9 ?_
  refine q_istore F dX8_placeOf_10 [(5, .int (q_I 0)), (4, .int (q_I 0)), (3, .int (q_I v5)), (0, .int (q_I g)), (1, .ref (q_ad G k)), (2, .int (q_I s))] (Nat.le_of_ble_eq_true rfl) rfl ?_
  have lp12_1 : ∀ (k12_1 : Nat) (a : Int) (x : Int), (0 ≤ x ∧ x ≤ 6 ∧ a = q_cnt (q_lt (fun y => q_has s y && (decide (M k y < M k g) || (decide (M k y = M k g) && decide (y < g)))) x)) → (6 - x).toNat = k12_1 → q_Y G E 7 M [(0, .int (q_I g)), (1, .ref (q_ad G k)), (2, .int (q_I s)), (3, .int (q_I v5)), (4, .int (q_I a)), (5, .int (q_I x))] 12 [] := by
    intro k12_1
    induction k12_1 using Nat.strongRecOn with
    | _ k12_1 ih12_1 =>
      intro a x   hi12 hk12
      refine q_iload F dX8_placeOf_12 5 rfl ?_
      refine q_aload_n F dX8_placeOf_14 1 rfl ?_
      refine q_alen F 6 hk rfl dX8_placeOf_15 ?_
      refine q_icmp_ge F 71 dX8_placeOf_16 (by decide) (by omega) (fun c16 => ?_) (fun c16 => ?_)
      · refine q_iload F dX8_placeOf_71 4 rfl ?_
        exact q_iret F FI dX8_placeOf_73 (by have := q_cnt_R (q_lt (fun y => q_has s y && (decide (M k y < M k g) || (decide (M k y = M k g) && decide (y < g)))) x); omega) (by obtain ⟨h1, h2, h3⟩ := hi12; rw [h3, show x = 6 by omega, q_cnt_6]; exact ⟨rfl, rfl⟩)
      · refine q_aload_n F dX8_placeOf_19 1 rfl ?_
        refine q_iload F dX8_placeOf_20 5 rfl ?_
        refine q_iald F hk (Nat.le_of_ble_eq_true rfl) (by omega) dX8_placeOf_22 (fun h22 => ?_)
        refine q_iload_n F dX8_placeOf_23 3 rfl ?_
        refine q_icmp_lt F 41 dX8_placeOf_24 (by decide) (by omega) (fun c24 => ?_) (fun c24 => ?_)
        · refine q_iconst F dX8_placeOf_41 ?_
          refine q_goto F 46 dX8_placeOf_42 (by decide) ?_
          refine q_istore F dX8_placeOf_46 [(6, .int (q_I 1)), (0, .int (q_I g)), (1, .ref (q_ad G k)), (2, .int (q_I s)), (3, .int (q_I v5)), (4, .int (q_I a)), (5, .int (q_I x))] (Nat.le_of_ble_eq_true rfl) rfl ?_
          refine q_iload F dX8_placeOf_48 0 rfl ?_
          refine q_if_eq F 65 dX8_placeOf_50 (by decide) (by omega) (fun c50 => absurd c50 (by decide)) (fun _ => ?_)
          refine q_iload_n F dX8_placeOf_53 3 rfl ?_
          refine q_iload F dX8_placeOf_54 6 rfl ?_
          refine q_callSP (n := 2) F (c_X8_holds G hI M s x (by omega)) rfl gX8_placeOf_X8_holds ⟨by decide, by decide, by decide +kernel⟩ rfl ⟨rfl, rfl, Nat.le_of_ble_eq_true rfl, Nat.le_of_ble_eq_true rfl⟩ rfl (Nat.le_of_ble_eq_true rfl) dX8_placeOf_56 (fun h56 => ?_)
          refine q_ifb_eq F 65 dX8_placeOf_59 (by decide) (fun c59 => ?_) (fun c59 => ?_)
          · obtain ⟨v65, e65⟩ : ∃ z_ : Int, z_ = x + 1 := ⟨_, rfl⟩
            refine q_iinc F dX8_placeOf_65 6 rfl e65 [(5, .int (q_I v65)), (6, .int (q_I 1)), (0, .int (q_I g)), (1, .ref (q_ad G k)), (2, .int (q_I s)), (3, .int (q_I v5)), (4, .int (q_I a))] (Nat.le_of_ble_eq_true rfl) rfl ?_
            refine q_goto F 12 dX8_placeOf_68 (by decide) ?_
            refine q_drop [2, 3, 4, 5, 6, 0] rfl ?_
            exact ih12_1 _ (by omega) a v65 (by obtain ⟨h1, h2, h3⟩ := hi12; refine ⟨by omega, by omega, ?_⟩; rw [e65, q_cnt_step _ (by omega) (by omega)]; rw [if_neg (by simp [c59])]; exact h3) rfl
          · obtain ⟨v62, e62⟩ : ∃ z_ : Int, z_ = a + 1 := ⟨_, rfl⟩
            refine q_iinc F dX8_placeOf_62 5 rfl e62 [(4, .int (q_I v62)), (6, .int (q_I 1)), (0, .int (q_I g)), (1, .ref (q_ad G k)), (2, .int (q_I s)), (3, .int (q_I v5)), (5, .int (q_I x))] (Nat.le_of_ble_eq_true rfl) rfl ?_
            obtain ⟨v65, e65⟩ : ∃ z_ : Int, z_ = x + 1 := ⟨_, rfl⟩
            refine q_iinc F dX8_placeOf_65 6 rfl e65 [(5, .int (q_I v65)), (4, .int (q_I v62)), (6, .int (q_I 1)), (0, .int (q_I g)), (1, .ref (q_ad G k)), (2, .int (q_I s)), (3, .int (q_I v5))] (Nat.le_of_ble_eq_true rfl) rfl ?_
            refine q_goto F 12 dX8_placeOf_68 (by decide) ?_
            refine q_drop [3, 4, 5, 6, 1, 0] rfl ?_
            exact ih12_1 _ (by omega) v62 v65 (by obtain ⟨h1, h2, h3⟩ := hi12; refine ⟨by omega, by omega, ?_⟩; rw [e65, q_cnt_step _ (by omega) (by omega)]; rw [if_pos (by simp [c59, ← e5]; omega)]; omega) rfl
        · refine q_aload_n F dX8_placeOf_27 1 rfl ?_
          refine q_iload F dX8_placeOf_28 5 rfl ?_
          refine q_iald F hk (Nat.le_of_ble_eq_true rfl) (by omega) dX8_placeOf_30 (fun h30 => ?_)
          refine q_iload_n F dX8_placeOf_31 3 rfl ?_
          refine q_icmp_ne F 45 dX8_placeOf_32 (by decide) (by omega) (fun c32 => ?_) (fun c32 => ?_)
          · refine q_iconst F dX8_placeOf_45 ?_
            refine q_istore F dX8_placeOf_46 [(6, .int (q_I 0)), (0, .int (q_I g)), (1, .ref (q_ad G k)), (2, .int (q_I s)), (3, .int (q_I v5)), (4, .int (q_I a)), (5, .int (q_I x))] (Nat.le_of_ble_eq_true rfl) rfl ?_
            refine q_iload F dX8_placeOf_48 0 rfl ?_
            refine q_if_eq F 65 dX8_placeOf_50 (by decide) (by omega) (fun _ => ?_) (fun c50 => absurd c50 (by decide))
            obtain ⟨v65, e65⟩ : ∃ z_ : Int, z_ = x + 1 := ⟨_, rfl⟩
            refine q_iinc F dX8_placeOf_65 6 rfl e65 [(5, .int (q_I v65)), (6, .int (q_I 0)), (0, .int (q_I g)), (1, .ref (q_ad G k)), (2, .int (q_I s)), (3, .int (q_I v5)), (4, .int (q_I a))] (Nat.le_of_ble_eq_true rfl) rfl ?_
            refine q_goto F 12 dX8_placeOf_68 (by decide) ?_
            refine q_drop [2, 3, 4, 5, 6, 0] rfl ?_
            exact ih12_1 _ (by omega) a v65 (by obtain ⟨h1, h2, h3⟩ := hi12; refine ⟨by omega, by omega, ?_⟩; rw [e65, q_cnt_step _ (by omega) (by omega)]; rw [if_neg (by simp [← e5]; intro _; omega)]; exact h3) rfl
          · refine q_iload F dX8_placeOf_35 5 rfl ?_
            refine q_iload_n F dX8_placeOf_37 0 rfl ?_
            refine q_icmp_ge F 45 dX8_placeOf_38 (by decide) (by omega) (fun c38 => ?_) (fun c38 => ?_)
            · refine q_iconst F dX8_placeOf_45 ?_
              refine q_istore F dX8_placeOf_46 [(6, .int (q_I 0)), (0, .int (q_I g)), (1, .ref (q_ad G k)), (2, .int (q_I s)), (3, .int (q_I v5)), (4, .int (q_I a)), (5, .int (q_I x))] (Nat.le_of_ble_eq_true rfl) rfl ?_
              refine q_iload F dX8_placeOf_48 0 rfl ?_
              refine q_if_eq F 65 dX8_placeOf_50 (by decide) (by omega) (fun _ => ?_) (fun c50 => absurd c50 (by decide))
              obtain ⟨v65, e65⟩ : ∃ z_ : Int, z_ = x + 1 := ⟨_, rfl⟩
              refine q_iinc F dX8_placeOf_65 6 rfl e65 [(5, .int (q_I v65)), (6, .int (q_I 0)), (0, .int (q_I g)), (1, .ref (q_ad G k)), (2, .int (q_I s)), (3, .int (q_I v5)), (4, .int (q_I a))] (Nat.le_of_ble_eq_true rfl) rfl ?_
              refine q_goto F 12 dX8_placeOf_68 (by decide) ?_
              refine q_drop [2, 3, 4, 5, 6, 0] rfl ?_
              exact ih12_1 _ (by omega) a v65 (by obtain ⟨h1, h2, h3⟩ := hi12; refine ⟨by omega, by omega, ?_⟩; rw [e65, q_cnt_step _ (by omega) (by omega)]; rw [if_neg (by simp [← e5]; intro _; omega)]; exact h3) rfl
            · refine q_iconst F dX8_placeOf_41 ?_
              refine q_goto F 46 dX8_placeOf_42 (by decide) ?_
              refine q_istore F dX8_placeOf_46 [(6, .int (q_I 1)), (0, .int (q_I g)), (1, .ref (q_ad G k)), (2, .int (q_I s)), (3, .int (q_I v5)), (4, .int (q_I a)), (5, .int (q_I x))] (Nat.le_of_ble_eq_true rfl) rfl ?_
              refine q_iload F dX8_placeOf_48 0 rfl ?_
              refine q_if_eq F 65 dX8_placeOf_50 (by decide) (by omega) (fun c50 => absurd c50 (by decide)) (fun _ => ?_)
              refine q_iload_n F dX8_placeOf_53 3 rfl ?_
              refine q_iload F dX8_placeOf_54 6 rfl ?_
              refine q_callSP (n := 2) F (c_X8_holds G hI M s x (by omega)) rfl gX8_placeOf_X8_holds ⟨by decide, by decide, by decide +kernel⟩ rfl ⟨rfl, rfl, Nat.le_of_ble_eq_true rfl, Nat.le_of_ble_eq_true rfl⟩ rfl (Nat.le_of_ble_eq_true rfl) dX8_placeOf_56 (fun h56 => ?_)
              refine q_ifb_eq F 65 dX8_placeOf_59 (by decide) (fun c59 => ?_) (fun c59 => ?_)
              · obtain ⟨v65, e65⟩ : ∃ z_ : Int, z_ = x + 1 := ⟨_, rfl⟩
                refine q_iinc F dX8_placeOf_65 6 rfl e65 [(5, .int (q_I v65)), (6, .int (q_I 1)), (0, .int (q_I g)), (1, .ref (q_ad G k)), (2, .int (q_I s)), (3, .int (q_I v5)), (4, .int (q_I a))] (Nat.le_of_ble_eq_true rfl) rfl ?_
                refine q_goto F 12 dX8_placeOf_68 (by decide) ?_
                refine q_drop [2, 3, 4, 5, 6, 0] rfl ?_
                exact ih12_1 _ (by omega) a v65 (by obtain ⟨h1, h2, h3⟩ := hi12; refine ⟨by omega, by omega, ?_⟩; rw [e65, q_cnt_step _ (by omega) (by omega)]; rw [if_neg (by simp [c59])]; exact h3) rfl
              · obtain ⟨v62, e62⟩ : ∃ z_ : Int, z_ = a + 1 := ⟨_, rfl⟩
                refine q_iinc F dX8_placeOf_62 5 rfl e62 [(4, .int (q_I v62)), (6, .int (q_I 1)), (0, .int (q_I g)), (1, .ref (q_ad G k)), (2, .int (q_I s)), (3, .int (q_I v5)), (5, .int (q_I x))] (Nat.le_of_ble_eq_true rfl) rfl ?_
                obtain ⟨v65, e65⟩ : ∃ z_ : Int, z_ = x + 1 := ⟨_, rfl⟩
                refine q_iinc F dX8_placeOf_65 6 rfl e65 [(5, .int (q_I v65)), (4, .int (q_I v62)), (6, .int (q_I 1)), (0, .int (q_I g)), (1, .ref (q_ad G k)), (2, .int (q_I s)), (3, .int (q_I v5))] (Nat.le_of_ble_eq_true rfl) rfl ?_
                refine q_goto F 12 dX8_placeOf_68 (by decide) ?_
                refine q_drop [3, 4, 5, 6, 1, 0] rfl ?_
                exact ih12_1 _ (by omega) v62 v65 (by obtain ⟨h1, h2, h3⟩ := hi12; refine ⟨by omega, by omega, ?_⟩; rw [e65, q_cnt_step _ (by omega) (by omega)]; rw [if_pos (by simp [c59, ← e5]; omega)]; omega) rfl
  refine q_drop [3, 4, 5, 2, 1, 0] rfl ?_
  exact lp12_1 _ 0 0 ⟨by omega, by omega, (q_cnt_0 _).symm⟩ rfl

set_option maxHeartbeats 4000000 in
set_option maxRecDepth 100000 in
theorem c_X8_firstBy (G : q_G) (hI : q_inj G) (M : q_M) (k : Nat) (s : Int) (p : Int) (hk : q_sh G k = some (.inl (false, 6))) (hp : (0 ≤ s ∧ s ≤ 63) ∧ (-2147483648 ≤ p ∧ p ≤ 2147483647)) : q_CI G yX8_firstBy wsX8_firstBy ({ frames := 2, cells := 0, slots := 0, locals := 47 } : Room) [.ref (q_ad G k), .int (q_I s), .int (q_I p)] M (fun z M' => z = q_set (fun x => q_has s x && decide (q_place (M k) s x < p)) ∧ M' = M) := by
  refine q_CI.of hI (by decide) rfl RX8 rfl [(0, .ref (q_ad G k)), (1, .int (q_I s)), (2, .int (q_I p))] rfl (Nat.le_of_ble_eq_true rfl) (fun E F FI => ?_)
  refine q_MRof (fun hM => ?_)
  refine q_iconst F dX8_firstBy_0 ?_
  refine q_istore_n F dX8_firstBy_1 [(3, .int (q_I 0)), (0, .ref (q_ad G k)), (1, .int (q_I s)), (2, .int (q_I p))] (Nat.le_of_ble_eq_true rfl) rfl ?_
  refine q_iconst F dX8_firstBy_2 ?_
  refine q_istore F dX8_firstBy_3 [(4, .int (q_I 0)), (3, .int (q_I 0)), (0, .ref (q_ad G k)), (1, .int (q_I s)), (2, .int (q_I p))] (Nat.le_of_ble_eq_true rfl) rfl ?_
  have lp5_1 : ∀ (k5_1 : Nat) (z : Int) (g : Int), (0 ≤ g ∧ g ≤ 6 ∧ z = q_set (q_lt (fun x => q_has s x && decide (q_place (M k) s x < p)) g)) → (6 - g).toNat = k5_1 → q_Y G E 5 M [(0, .ref (q_ad G k)), (1, .int (q_I s)), (2, .int (q_I p)), (3, .int (q_I z)), (4, .int (q_I g))] 5 [] := by
    intro k5_1
    induction k5_1 using Nat.strongRecOn with
    | _ k5_1 ih5_1 =>
      intro z g   hi5 hk5
      refine q_iload F dX8_firstBy_5 4 rfl ?_
      refine q_aload_n F dX8_firstBy_7 0 rfl ?_
      refine q_alen F 6 hk rfl dX8_firstBy_8 ?_
      refine q_icmp_ge F 45 dX8_firstBy_9 (by decide) (by omega) (fun c9 => ?_) (fun c9 => ?_)
      · refine q_iload_n F dX8_firstBy_45 3 rfl ?_
        exact q_iret F FI dX8_firstBy_46 (by have := q_set_R (q_lt (fun x => q_has s x && decide (q_place (M k) s x < p)) g); omega) (by obtain ⟨h1, h2, h3⟩ := hi5; rw [h3, show g = 6 by omega, q_set_6]; exact ⟨rfl, rfl⟩)
      · refine q_iload_n F dX8_firstBy_12 1 rfl ?_
        refine q_iload F dX8_firstBy_13 4 rfl ?_
        refine q_callSP (n := 2) F (c_X8_holds G hI M s g (by omega)) rfl gX8_firstBy_X8_holds ⟨by decide, by decide, by decide +kernel⟩ rfl ⟨rfl, rfl, Nat.le_of_ble_eq_true rfl, Nat.le_of_ble_eq_true rfl⟩ rfl (Nat.le_of_ble_eq_true rfl) dX8_firstBy_15 (fun h15 => ?_)
        refine q_ifb_eq F 39 dX8_firstBy_18 (by decide) (fun c18 => ?_) (fun c18 => ?_)
        · obtain ⟨v39, e39⟩ : ∃ z_ : Int, z_ = g + 1 := ⟨_, rfl⟩
          refine q_iinc F dX8_firstBy_39 4 rfl e39 [(4, .int (q_I v39)), (0, .ref (q_ad G k)), (1, .int (q_I s)), (2, .int (q_I p)), (3, .int (q_I z))] (Nat.le_of_ble_eq_true rfl) rfl ?_
          refine q_goto F 5 dX8_firstBy_42 (by decide) ?_
          refine q_drop [1, 2, 3, 4, 0] rfl ?_
          exact ih5_1 _ (by omega) z v39 (by obtain ⟨h1, h2, h3⟩ := hi5; refine ⟨by omega, by omega, ?_⟩; rw [e39, q_set_step _ (by omega) (by omega)]; (rw [if_neg (by simp [c18])]; exact h3)) rfl
        · refine q_iload F dX8_firstBy_21 4 rfl ?_
          refine q_aload_n F dX8_firstBy_23 0 rfl ?_
          refine q_iload_n F dX8_firstBy_24 1 rfl ?_
          refine q_callSP (n := 3) F (c_X8_placeOf G hI M g k s hk (by omega)) rfl gX8_firstBy_X8_placeOf ⟨by decide, by decide, by decide +kernel⟩ rfl ⟨rfl, rfl, Nat.le_of_ble_eq_true rfl, Nat.le_of_ble_eq_true rfl⟩ rfl (Nat.le_of_ble_eq_true rfl) dX8_firstBy_25 (fun h25 => ?_)
          refine q_iload_n F dX8_firstBy_28 2 rfl ?_
          refine q_icmp_ge F 39 dX8_firstBy_29 (by decide) (by omega) (fun c29 => ?_) (fun c29 => ?_)
          · obtain ⟨v39, e39⟩ : ∃ z_ : Int, z_ = g + 1 := ⟨_, rfl⟩
            refine q_iinc F dX8_firstBy_39 4 rfl e39 [(4, .int (q_I v39)), (0, .ref (q_ad G k)), (1, .int (q_I s)), (2, .int (q_I p)), (3, .int (q_I z))] (Nat.le_of_ble_eq_true rfl) rfl ?_
            refine q_goto F 5 dX8_firstBy_42 (by decide) ?_
            refine q_drop [1, 2, 3, 4, 0] rfl ?_
            exact ih5_1 _ (by omega) z v39 (by obtain ⟨h1, h2, h3⟩ := hi5; refine ⟨by omega, by omega, ?_⟩; rw [e39, q_set_step _ (by omega) (by omega)]; (rw [if_neg (by simp; intro _; omega)]; exact h3)) rfl
          · refine q_iload_n F dX8_firstBy_32 3 rfl ?_
            refine q_iconst F dX8_firstBy_33 ?_
            refine q_iload F dX8_firstBy_34 4 rfl ?_
            refine q_ishl F dX8_firstBy_36 (fun z36 e36 h36 => ?_)
            refine q_ior F dX8_firstBy_37 (fun z37 e37 h37 => ?_)
            refine q_istore_n F dX8_firstBy_38 [(3, .int (q_I z37)), (0, .ref (q_ad G k)), (1, .int (q_I s)), (2, .int (q_I p)), (4, .int (q_I g))] (Nat.le_of_ble_eq_true rfl) rfl ?_
            obtain ⟨v39, e39⟩ : ∃ z_ : Int, z_ = g + 1 := ⟨_, rfl⟩
            refine q_iinc F dX8_firstBy_39 4 rfl e39 [(4, .int (q_I v39)), (3, .int (q_I z37)), (0, .ref (q_ad G k)), (1, .int (q_I s)), (2, .int (q_I p))] (Nat.le_of_ble_eq_true rfl) rfl ?_
            refine q_goto F 5 dX8_firstBy_42 (by decide) ?_
            refine q_drop [2, 3, 4, 1, 0] rfl ?_
            exact ih5_1 _ (by omega) z37 v39 (by obtain ⟨h1, h2, h3⟩ := hi5; refine ⟨by omega, by omega, ?_⟩; rw [e39, q_set_step _ (by omega) (by omega)]; (rw [if_pos (by simp [c18, c29])]; rw [e37, e36, h3])) rfl
  refine q_drop [2, 3, 4, 1, 0] rfl ?_
  exact lp5_1 _ 0 0 ⟨by omega, by omega, (q_set_0 _).symm⟩ rfl

set_option maxHeartbeats 4000000 in
set_option maxRecDepth 100000 in
theorem c_J7_fill_53178 (G : q_G) (hI : q_inj G) (M : q_M) (k : Nat) (n : Nat) (hk : q_sh G k = some (.inl (false, n))) (v : Int) (hv : (-2147483648 ≤ v ∧ v ≤ 2147483647) ∧ n ≤ 2147483647) : q_CV G yJ7_fill_53178 wsJ7_fill_53178 ({ frames := 0, cells := 0, slots := 0, locals := 0 } : Room) [.ref (q_ad G k), .int (q_I v)] M (fun M' => q_fr k M M' ∧ ∀ x, 0 ≤ x → x < (n : Int) → M' k x = v) := by
  refine q_CV.of hI (by decide) rfl RJ7 rfl [(0, .ref (q_ad G k)), (1, .int (q_I v))] rfl (Nat.le_of_ble_eq_true rfl) (fun E F FV => ?_)
  refine q_MRof (fun hM => ?_)
  refine q_iconst F dJ7_fill_53178_0 ?_
  refine q_istore_n F dJ7_fill_53178_1 [(2, .int (q_I 0)), (0, .ref (q_ad G k)), (1, .int (q_I v))] (Nat.le_of_ble_eq_true rfl) rfl ?_
  refine q_aload_n F dJ7_fill_53178_2 1 rfl ?_
  refine q_alen F (n : Int) hk rfl dJ7_fill_53178_3 ?_
  refine q_istore_n F dJ7_fill_53178_4 [(3, .int (q_I (n : Int))), (2, .int (q_I 0)), (0, .ref (q_ad G k)), (1, .int (q_I v))] (Nat.le_of_ble_eq_true rfl) rfl ?_
  have lp5_1 : ∀ (k5_1 : Nat) (i : Int) (M1 : q_M), ((0 ≤ i ∧ i ≤ (n : Int)) ∧ q_fr k M M1 ∧ ∀ x, 0 ≤ x → x < i → M1 k x = v) → (n - i).toNat = k5_1 → q_Y G E 4 M1 [(0, .ref (q_ad G k)), (1, .int (q_I v)), (2, .int (q_I i)), (3, .int (q_I (n : Int)))] 5 [] := by
    intro k5_1
    induction k5_1 using Nat.strongRecOn with
    | _ k5_1 ih5_1 =>
      intro i  M1 hi5 hk5
      refine q_MRof (fun hM5 => ?_)
      refine q_iload_n F dJ7_fill_53178_5 2 rfl ?_
      refine q_iload_n F dJ7_fill_53178_6 3 rfl ?_
      refine q_icmp_ge F 20 dJ7_fill_53178_7 (by decide) (by omega) (fun c7 => ?_) (fun c7 => ?_)
      · exact q_vret F FV dJ7_fill_53178_20 ⟨hi5.2.1, fun x h0 h1 => hi5.2.2 x h0 (by omega)⟩
      · refine q_aload_n F dJ7_fill_53178_10 0 rfl ?_
        refine q_iload_n F dJ7_fill_53178_11 2 rfl ?_
        refine q_iload_n F dJ7_fill_53178_12 1 rfl ?_
        refine q_iast F hk (by omega) (by omega) (by omega) dJ7_fill_53178_13 (fun N13 eN13 => ?_)
        obtain ⟨v14, e14⟩ : ∃ z_ : Int, z_ = i + 1 := ⟨_, rfl⟩
        refine q_iinc F dJ7_fill_53178_14 2 rfl e14 [(2, .int (q_I v14)), (0, .ref (q_ad G k)), (1, .int (q_I v)), (3, .int (q_I (n : Int)))] (Nat.le_of_ble_eq_true rfl) rfl ?_
        refine q_goto F 5 dJ7_fill_53178_17 (by decide) ?_
        refine q_drop [1, 2, 0, 3] rfl ?_
        have e13 := eN13
        exact ih5_1 _ (by omega) v14 N13 ⟨by omega, q_fr_tr hi5.2.1 (q_fr_up e13), fun x h0 h1 => by rw [e13, q_up_at]; split <;> first | rfl | exact hi5.2.2 x h0 (by omega)⟩ rfl
  refine q_drop [2, 3, 1, 0] rfl ?_
  exact lp5_1 _ 0 M ⟨by omega, q_fr_rf, fun x h0 h1 => by omega⟩ rfl
