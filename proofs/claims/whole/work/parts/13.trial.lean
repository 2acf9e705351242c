/-! the class's trial of a night -/
theorem q_T_ext {s s' : q_T} (h1 : qt_h s = qt_h s') (h2 : qt_f s = qt_f s') (h3 : qt_a s = qt_a s') (h4 : qt_p s = qt_p s') (h5 : qt_c s = qt_c s') (h6 : qt_l s = qt_l s') (h7 : qt_k s = qt_k s') (h8 : qt_u s = qt_u s') : s = s' := by
  obtain ⟨a1, a2, a3, a4, a5, a6, a7, a8⟩ := s
  obtain ⟨b1, b2, b3, b4, b5, b6, b7, b8⟩ := s'
  simp only [qt_h, qt_f, qt_a, qt_p, qt_c, qt_l, qt_k, qt_u] at h1 h2 h3 h4 h5 h6 h7 h8
  subst h1 h2 h3 h4 h5 h6 h7 h8
  rfl
theorem q_goW_tv {M : q_M} {t : Nat} {th g a : Int} : q_goW th (q_tv M t) g a = if q_has th g = true then (if M (t + 1 + 3) g = a then 2 else 0) else 1 := rfl
theorem q_cv_a {M M' : q_M} {c : Nat} {g v : Int} (h : q_cv M c) (e : M' = q_up M (c + 3) g v) (hv : 0 ≤ v ∧ v ≤ 2) : q_cv M' c := by
  unfold q_cv
  rw [e, q_up_ne (show c ≠ c + 3 by omega), q_up_ne (show c + 2 ≠ c + 3 by omega), q_up_ne (show c + 1 ≠ c + 3 by omega)]
  refine ⟨h.1, h.2.1, h.2.2.1, h.2.2.2.1, fun x h0 h1 => ?_⟩
  rw [q_up_at]
  split
  · exact hv
  · exact h.2.2.2.2 x h0 h1
theorem q_cv_f {M M' : q_M} {c : Nat} {g v : Int} (h : q_cv M c) (e : M' = q_up M (c + 2) g v) (hv : 0 ≤ v ∧ v ≤ 9) : q_cv M' c := by
  unfold q_cv
  rw [e, q_up_ne (show c ≠ c + 2 by omega), q_up_ne (show c + 3 ≠ c + 2 by omega), q_up_ne (show c + 1 ≠ c + 2 by omega)]
  refine ⟨h.1, h.2.1, h.2.2.1, fun x h0 h1 => ?_, h.2.2.2.2⟩
  rw [q_up_at]
  split
  · exact hv
  · exact h.2.2.2.1 x h0 h1
theorem q_tv_go {M : q_M} {t : Nat} {g a : Int} : q_tv (q_up (q_up M (t + 1 + 3) g a) (t + 1 + 1) g (min 20 (M (t + 1 + 1) g + 1))) t = q_goT (q_tv M t) g a := by
  apply q_T_ext
  · show q_up (q_up M (t + 1 + 3) g a) (t + 1 + 1) g (min 20 (M (t + 1 + 1) g + 1)) (t + 1 + 1) = q_row (M (t + 1 + 1)) g (min 20 (M (t + 1 + 1) g + 1))
    rw [q_up_row, q_up_ne (by omega)]
  · show q_up (q_up M (t + 1 + 3) g a) (t + 1 + 1) g _ (t + 1 + 2) = M (t + 1 + 2)
    rw [q_up_ne (by omega), q_up_ne (by omega)]
  · show q_up (q_up M (t + 1 + 3) g a) (t + 1 + 1) g _ (t + 1 + 3) = q_row (M (t + 1 + 3)) g a
    rw [q_up_ne (by omega), q_up_row]
  · show q_up (q_up M (t + 1 + 3) g a) (t + 1 + 1) g _ (t + 6) = M (t + 6)
    rw [q_up_ne (by omega), q_up_ne (by omega)]
  · show q_up (q_up M (t + 1 + 3) g a) (t + 1 + 1) g _ (t + 7) = M (t + 7)
    rw [q_up_ne (by omega), q_up_ne (by omega)]
  · show q_up (q_up M (t + 1 + 3) g a) (t + 1 + 1) g _ t 4 = M t 4
    rw [q_up_ne (by omega), q_up_ne (by omega)]
  · show q_up (q_up M (t + 1 + 3) g a) (t + 1 + 1) g _ t 5 = M t 5
    rw [q_up_ne (by omega), q_up_ne (by omega)]
  · show q_up (q_up M (t + 1 + 3) g a) (t + 1 + 1) g _ t 6 = M t 6
    rw [q_up_ne (by omega), q_up_ne (by omega)]
theorem q_keep_go {M : q_M} {t : Nat} {g a v : Int} : q_keep M (q_up (q_up M (t + 1 + 3) g a) (t + 1 + 1) g v) t :=
  q_keep_tr (q_keep_up (by omega) (by omega)) (q_keep_up (by omega) (by omega))
theorem q_tv_fe {M : q_M} {t : Nat} {g v : Int} : q_tv (q_up M (t + 1 + 2) g v) t = q_feT (q_tv M t) g v := by
  apply q_T_ext
  · show q_up M (t + 1 + 2) g v (t + 1 + 1) = M (t + 1 + 1)
    rw [q_up_ne (by omega)]
  · show q_up M (t + 1 + 2) g v (t + 1 + 2) = q_row (M (t + 1 + 2)) g v
    rw [q_up_row]
  · show q_up M (t + 1 + 2) g v (t + 1 + 3) = M (t + 1 + 3)
    rw [q_up_ne (by omega)]
  · show q_up M (t + 1 + 2) g v (t + 6) = M (t + 6)
    rw [q_up_ne (by omega)]
  · show q_up M (t + 1 + 2) g v (t + 7) = M (t + 7)
    rw [q_up_ne (by omega)]
  · show q_up M (t + 1 + 2) g v t 4 = M t 4
    rw [q_up_ne (by omega)]
  · show q_up M (t + 1 + 2) g v t 5 = M t 5
    rw [q_up_ne (by omega)]
  · show q_up M (t + 1 + 2) g v t 6 = M t 6
    rw [q_up_ne (by omega)]
theorem q_tv_ho {M M' : q_M} {t : Nat} (h : q_fr (t + 1 + 1) M M') (e : M' (t + 1 + 1) = q_hrA (M (t + 1 + 1))) : q_tv M' t = q_hoT q_hrA (q_tv M t) := by
  apply q_T_ext
  · exact e
  · exact h _ (by omega)
  · exact h _ (by omega)
  · exact h _ (by omega)
  · exact h _ (by omega)
  · show M' t 4 = M t 4
    rw [h t (by omega)]
  · show M' t 5 = M t 5
    rw [h t (by omega)]
  · show M' t 6 = M t 6
    rw [h t (by omega)]
/-- a dish, out of the writes that the class makes -/
theorem q_tv_dish {M M' : q_M} {t : Nat} {th ke pl p r fo : Int} (hr : r = q_TK th ke (q_tv M t) pl p) (hfo : fo = q_FO th ke (q_tv M t) pl)
    (e1 : M' (t + 1 + 1) = q_left (M (t + 1 + 1)) r) (e2 : M' (t + 1 + 2) = M (t + 1 + 2)) (e3 : M' (t + 1 + 3) = M (t + 1 + 3)) (e4 : ∀ x, M' (t + 6) x = M (t + 6) x + q_b (q_has r x)) (e5 : ∀ x, M' (t + 7) x = M (t + 7) x + q_b (q_has fo x))
    (e6 : M' t 4 = M t 4 + (p - q_cnt (q_has r))) (e7 : M' t 5 = M t 5) (e8 : M' t 6 = if r = 0 ∧ M t 6 = -6 then M t 5 else M t 6) : q_tv M' t = q_dish th ke (q_tv M t) pl p := by
  subst hr; subst hfo
  apply q_T_ext
  · exact e1
  · exact e2
  · exact e3
  · exact funext e4
  · exact funext e5
  · exact e6
  · exact e7
  · exact e8
theorem q_cv_upt {M M' : q_M} {t : Nat} {i v : Int} (h : q_cv M (t + 1)) (e : M' = q_up M t i v) : q_cv M' (t + 1) := by
  unfold q_cv
  rw [e, q_up_ne (show t + 1 ≠ t by omega), q_up_ne (show t + 1 + 1 ≠ t by omega), q_up_ne (show t + 1 + 2 ≠ t by omega), q_up_ne (show t + 1 + 3 ≠ t by omega)]
  exact h
set_option maxHeartbeats 4000000 in
set_option maxRecDepth 100000 in
theorem c_X6_go (G : q_G) (hI : q_inj G) (M : q_M) (t : Nat) (ht : q_tr G t) (g : Int) (a : Int) (hv : q_cv M (t + 1)) (hg : (0 ≤ g ∧ g < 6) ∧ (0 ≤ a ∧ a ≤ 2)) : q_CI G yX6_go wsX6_go ({ frames := 2, cells := 0, slots := 0, locals := 43 } : Room) [.ref (q_ad G t), .int (q_I g), .int (q_I a)] M (fun z M' => z = q_goW (M (t + 1) 4) (q_tv M t) g a ∧ M' = if z = 0 then q_up (q_up M (t + 1 + 3) g a) (t + 1 + 1) g (min 20 (M (t + 1 + 1) g + 1)) else M) := by
  refine q_CI.of hI (by decide) rfl RX6 rfl [(0, .ref (q_ad G t)), (1, .int (q_I g)), (2, .int (q_I a))] rfl (Nat.le_of_ble_eq_true rfl) (fun E F FI => ?_)
  have huX1 : ∀ w ∈ wsX10, w ∈ wsX6_go := by decide +kernel
  have huX6 : ∀ w ∈ wsX60, w ∈ wsX6_go := by decide +kernel
  refine q_MRof (fun hM => ?_)
  have hv4 := hv.1
  have hv5 := hv.2.1
  refine q_aload_n F dX6_go_0 0 rfl ?_
  refine q_getr (T := TX6) (ref := "LeastHungry$Trial") F huX6 rfl ht.1 0 (by decide) (by decide +kernel) rfl rfl dX6_go_1 ?_
  refine q_iload_n F dX6_go_4 1 rfl ?_
  refine q_callVP (n := 1) (T := TX1) F (c_X1_has G hI M (t + 1) ht.2.1 g (by assumption) (by omega)) rfl rfl ht.2.1.1 gX6_go_X1_has rfl ⟨by decide, by decide, by decide +kernel⟩ rfl ⟨rfl, rfl, Nat.le_of_ble_eq_true rfl, Nat.le_of_ble_eq_true rfl⟩ rfl (Nat.le_of_ble_eq_true rfl) dX6_go_5 (fun h5 => ?_)
  refine q_ifb_ne F 13 dX6_go_8 (by decide) (fun c8 => ?_) (fun c8 => ?_)
  · refine q_aload_n F dX6_go_13 0 rfl ?_
    refine q_getr (T := TX6) (ref := "LeastHungry$Trial") F huX6 rfl ht.1 0 (by decide) (by decide +kernel) rfl rfl dX6_go_14 ?_
    refine q_getr (T := TX1) (ref := "LeastHungry$Company") F huX1 rfl ht.2.1.1 2 (by decide) (by decide +kernel) rfl rfl dX6_go_17 ?_
    refine q_iload_n F dX6_go_20 1 rfl ?_
    refine q_callNP (n := 2) F (c_X8_at G hI M ((t + 1) + 3) 6 ht.2.1.2.2.2.1 g (by omega)) rfl gX6_go_X8_at_n102 (host := RX8) (by decide +kernel) (by decide +kernel) (by decide +kernel) ⟨by decide, by decide, by decide +kernel⟩ rfl ⟨rfl, rfl, Nat.le_of_ble_eq_true rfl, Nat.le_of_ble_eq_true rfl⟩ rfl (Nat.le_of_ble_eq_true rfl) dX6_go_21 (fun h21 => ?_)
    refine q_iload_n F dX6_go_24 2 rfl ?_
    refine q_icmp_ne F 30 dX6_go_25 (by decide) (by omega) (fun c25 => ?_) (fun c25 => ?_)
    · refine q_aload_n F dX6_go_30 0 rfl ?_
      refine q_getr (T := TX6) (ref := "LeastHungry$Trial") F huX6 rfl ht.1 0 (by decide) (by decide +kernel) rfl rfl dX6_go_31 ?_
      refine q_getr (T := TX1) (ref := "LeastHungry$Company") F huX1 rfl ht.2.1.1 2 (by decide) (by decide +kernel) rfl rfl dX6_go_34 ?_
      refine q_iload_n F dX6_go_37 1 rfl ?_
      refine q_iload_n F dX6_go_38 2 rfl ?_
      refine q_callNV (n := 3) F (c_X8_put G hI M ((t + 1) + 3) 6 ht.2.1.2.2.2.1 g a (by omega) (by omega)) rfl gX6_go_X8_put_n106 (host := RX8) (by decide +kernel) (by decide +kernel) (by decide +kernel) ⟨by decide, by decide, by decide +kernel⟩ rfl ⟨rfl, rfl, Nat.le_of_ble_eq_true rfl, Nat.le_of_ble_eq_true rfl⟩ rfl (Nat.le_of_ble_eq_true rfl) dX6_go_39 (fun N39 p39 => ?_)
      have hv1 : q_cv N39 (t + 1) := q_cv_a hv p39 hg.2
      refine q_aload_n F dX6_go_42 0 rfl ?_
      refine q_getr (T := TX6) (ref := "LeastHungry$Trial") F huX6 rfl ht.1 0 (by decide) (by decide +kernel) rfl rfl dX6_go_43 ?_
      refine q_iload_n F dX6_go_46 1 rfl ?_
      refine q_callVV (n := 1) (T := TX1) F (c_X1_growHungrier G hI N39 (t + 1) ht.2.1 g hv1 (by omega)) rfl rfl ht.2.1.1 gX6_go_X1_growHungrier rfl ⟨by decide, by decide, by decide +kernel⟩ rfl ⟨rfl, rfl, Nat.le_of_ble_eq_true rfl, Nat.le_of_ble_eq_true rfl⟩ rfl (Nat.le_of_ble_eq_true rfl) dX6_go_47 (fun N47 p47 => ?_)
      refine q_iconst F dX6_go_50 ?_
      exact q_iret F FI dX6_go_51 (by omega) ⟨by rw [q_goW_tv, if_pos c8, if_neg c25], by rw [if_pos rfl, p47, p39, q_up_ne (by omega)]⟩
    · refine q_iconst F dX6_go_28 ?_
      exact q_iret F FI dX6_go_29 (by omega) ⟨by rw [q_goW_tv, if_pos c8, if_pos c25], by rw [if_neg (by decide)]⟩
  · refine q_iconst F dX6_go_11 ?_
    exact q_iret F FI dX6_go_12 (by omega) ⟨by rw [q_goW_tv, if_neg (by simp [c8])], by rw [if_neg (by decide)]⟩

set_option maxHeartbeats 4000000 in
set_option maxRecDepth 100000 in
theorem c_X6_pretend (G : q_G) (hI : q_inj G) (M : q_M) (t : Nat) (ht : q_tr G t) (g : Int) (v : Int) (hv : q_cv M (t + 1)) (hg : (0 ≤ g ∧ g < 6) ∧ (0 ≤ v ∧ v ≤ 9)) : q_CI G yX6_pretend wsX6_pretend ({ frames := 2, cells := 0, slots := 0, locals := 42 } : Room) [.ref (q_ad G t), .int (q_I g), .int (q_I v)] M (fun z M' => z = (if q_has (M (t + 1) 4) g = true then 0 else 1) ∧ M' = if z = 0 then q_up M (t + 1 + 2) g v else M) := by
  refine q_CI.of hI (by decide) rfl RX6 rfl [(0, .ref (q_ad G t)), (1, .int (q_I g)), (2, .int (q_I v))] rfl (Nat.le_of_ble_eq_true rfl) (fun E F FI => ?_)
  have huX1 : ∀ w ∈ wsX10, w ∈ wsX6_pretend := by decide +kernel
  have huX6 : ∀ w ∈ wsX60, w ∈ wsX6_pretend := by decide +kernel
  refine q_MRof (fun hM => ?_)
  have hv4 := hv.1
  have hv5 := hv.2.1
  refine q_aload_n F dX6_pretend_0 0 rfl ?_
  refine q_getr (T := TX6) (ref := "LeastHungry$Trial") F huX6 rfl ht.1 0 (by decide) (by decide +kernel) rfl rfl dX6_pretend_1 ?_
  refine q_iload_n F dX6_pretend_4 1 rfl ?_
  refine q_callVP (n := 1) (T := TX1) F (c_X1_has G hI M (t + 1) ht.2.1 g (by assumption) (by omega)) rfl rfl ht.2.1.1 gX6_pretend_X1_has rfl ⟨by decide, by decide, by decide +kernel⟩ rfl ⟨rfl, rfl, Nat.le_of_ble_eq_true rfl, Nat.le_of_ble_eq_true rfl⟩ rfl (Nat.le_of_ble_eq_true rfl) dX6_pretend_5 (fun h5 => ?_)
  refine q_ifb_ne F 13 dX6_pretend_8 (by decide) (fun c8 => ?_) (fun c8 => ?_)
  · refine q_aload_n F dX6_pretend_13 0 rfl ?_
    refine q_getr (T := TX6) (ref := "LeastHungry$Trial") F huX6 rfl ht.1 0 (by decide) (by decide +kernel) rfl rfl dX6_pretend_14 ?_
    refine q_getr (T := TX1) (ref := "LeastHungry$Company") F huX1 rfl ht.2.1.1 1 (by decide) (by decide +kernel) rfl rfl dX6_pretend_17 ?_
    refine q_iload_n F dX6_pretend_20 1 rfl ?_
    refine q_iload_n F dX6_pretend_21 2 rfl ?_
    refine q_callNV (n := 3) F (c_X8_put G hI M ((t + 1) + 2) 6 ht.2.1.2.2.1 g v (by omega) (by omega)) rfl gX6_pretend_X8_put_n106 (host := RX8) (by decide +kernel) (by decide +kernel) (by decide +kernel) ⟨by decide, by decide, by decide +kernel⟩ rfl ⟨rfl, rfl, Nat.le_of_ble_eq_true rfl, Nat.le_of_ble_eq_true rfl⟩ rfl (Nat.le_of_ble_eq_true rfl) dX6_pretend_22 (fun N22 p22 => ?_)
    refine q_iconst F dX6_pretend_25 ?_
    exact q_iret F FI dX6_pretend_26 (by omega) ⟨by rw [if_pos c8], by rw [if_pos rfl, p22]⟩
  · refine q_iconst F dX6_pretend_11 ?_
    exact q_iret F FI dX6_pretend_12 (by omega) ⟨by rw [if_neg (by simp [c8])], by rw [if_neg (by decide)]⟩

set_option maxHeartbeats 4000000 in
set_option maxRecDepth 100000 in
theorem c_X6_count (G : q_G) (hI : q_inj G) (M : q_M) (k : Nat) (hk : q_sh G k = some (.inl (false, 6))) (s : Int) (hs : 0 ≤ s ∧ s ≤ 63) (hr : ∀ x, 0 ≤ x → x < 6 → 0 ≤ M k x ∧ M k x ≤ 1000) : q_CV G yX6_count wsX6_count ({ frames := 1, cells := 0, slots := 0, locals := 21 } : Room) [.ref (q_ad G k), .int (q_I s)] M (fun M' => q_fr k M M' ∧ ∀ x, M' k x = M k x + q_b (q_has s x)) := by
  refine q_CV.of hI (by decide) rfl RX6 rfl [(0, .ref (q_ad G k)), (1, .int (q_I s))] rfl (Nat.le_of_ble_eq_true rfl) (fun E F FV => ?_)
  refine q_MRof (fun hM => ?_)
  refine q_iconst F dX6_count_0 ?_
  refine q_istore_n F dX6_count_1 [(2, .int (q_I 0)), (0, .ref (q_ad G k)), (1, .int (q_I s))] (Nat.le_of_ble_eq_true rfl) rfl ?_
  have lp2_1 : ∀ (k2_1 : Nat) (g : Int) (M1 : q_M), ((0 ≤ g ∧ g ≤ 6) ∧ q_fr k M M1 ∧ ∀ x, M1 k x = M k x + (if x < g then q_b (q_has s x) else 0)) → (6 - g).toNat = k2_1 → q_Y G E 3 M1 [(0, .ref (q_ad G k)), (1, .int (q_I s)), (2, .int (q_I g))] 2 [] := by
    intro k2_1
    induction k2_1 using Nat.strongRecOn with
    | _ k2_1 ih2_1 =>
      intro g  M1 hi2 hk2
      refine q_MRof (fun hM2 => ?_)
      have hrg : 0 ≤ g → g < 6 → _ := hr g
      have hg1 : M1 k g = M k g := by rw [hi2.2.2 g, if_neg (by omega)]; omega
      refine q_iload_n F dX6_count_2 2 rfl ?_
      refine q_aload_n F dX6_count_3 0 rfl ?_
      refine q_alen F 6 hk rfl dX6_count_4 ?_
      refine q_icmp_ge F 33 dX6_count_5 (by decide) (by omega) (fun c5 => ?_) (fun c5 => ?_)
      · exact q_vret F FV dX6_count_33 ⟨hi2.2.1, fun x => by
      rw [hi2.2.2 x]
      by_cases hx : x < g
      · rw [if_pos hx]
      · rw [if_neg hx, q_has_out (by omega)]; rfl⟩
      · refine q_aload_n F dX6_count_8 0 rfl ?_
        refine q_iload_n F dX6_count_9 2 rfl ?_
        refine q_dup2 F dX6_count_10 rfl rfl ?_
        refine q_iald F hk (Nat.le_of_ble_eq_true rfl) (by omega) dX6_count_11 (fun h11 => ?_)
        refine q_iload_n F dX6_count_12 1 rfl ?_
        refine q_iload_n F dX6_count_13 2 rfl ?_
        refine q_callNP (n := 2) F (c_X8_holds G hI M1 s g (by omega)) rfl gX6_count_X8_holds_n140 (host := RX8) (by decide +kernel) (by decide +kernel) (by decide +kernel) ⟨by decide, by decide, by decide +kernel⟩ rfl ⟨rfl, rfl, Nat.le_of_ble_eq_true rfl, Nat.le_of_ble_eq_true rfl⟩ rfl (Nat.le_of_ble_eq_true rfl) dX6_count_14 (fun h14 => ?_)
        refine q_ifb_eq F 24 dX6_count_17 (by decide) (fun c17 => ?_) (fun c17 => ?_)
        · refine q_iconst F dX6_count_24 ?_
          refine q_iadd F dX6_count_25 ?_
          refine q_iast F hk (Nat.le_of_ble_eq_true rfl) (by omega) (by omega) dX6_count_26 (fun N26 eN26 => ?_)
          obtain ⟨v27, e27⟩ : ∃ z_ : Int, z_ = g + 1 := ⟨_, rfl⟩
          refine q_iinc F dX6_count_27 2 rfl e27 [(2, .int (q_I v27)), (0, .ref (q_ad G k)), (1, .int (q_I s))] (Nat.le_of_ble_eq_true rfl) rfl ?_
          refine q_goto F 2 dX6_count_30 (by decide) ?_
          refine q_drop [1, 2, 0] rfl ?_
          have e26 := eN26
          exact ih2_1 _ (by omega) v27 N26 ⟨by omega, q_fr_tr hi2.2.1 (q_fr_up e26), fun x => by
      rw [e26, q_up_at]
      by_cases hx : x = g
      · rw [if_pos hx, if_pos (by omega), hx, hg1, c17]; rfl
      · rw [if_neg hx, hi2.2.2 x]
        by_cases hl : x < g
        · rw [if_pos hl, if_pos (by omega)]
        · rw [if_neg hl, if_neg (by omega)]⟩ rfl
        · refine q_iconst F dX6_count_20 ?_
          refine q_goto F 25 dX6_count_21 (by decide) ?_
          refine q_iadd F dX6_count_25 ?_
          refine q_iast F hk (Nat.le_of_ble_eq_true rfl) (by omega) (by omega) dX6_count_26 (fun N26 eN26 => ?_)
          obtain ⟨v27, e27⟩ : ∃ z_ : Int, z_ = g + 1 := ⟨_, rfl⟩
          refine q_iinc F dX6_count_27 2 rfl e27 [(2, .int (q_I v27)), (0, .ref (q_ad G k)), (1, .int (q_I s))] (Nat.le_of_ble_eq_true rfl) rfl ?_
          refine q_goto F 2 dX6_count_30 (by decide) ?_
          refine q_drop [1, 2, 0] rfl ?_
          have e26 := eN26
          exact ih2_1 _ (by omega) v27 N26 ⟨by omega, q_fr_tr hi2.2.1 (q_fr_up e26), fun x => by
      rw [e26, q_up_at]
      by_cases hx : x = g
      · rw [if_pos hx, if_pos (by omega), hx, hg1, c17]; rfl
      · rw [if_neg hx, hi2.2.2 x]
        by_cases hl : x < g
        · rw [if_pos hl, if_pos (by omega)]
        · rw [if_neg hl, if_neg (by omega)]⟩ rfl
  refine q_drop [1, 2, 0] rfl ?_
  exact lp2_1 _ 0 M ⟨by omega, q_fr_rf, fun x => by
      by_cases hx : x < 0
      · rw [if_pos hx, q_has_out (by omega)]; simp [q_b]
      · rw [if_neg hx]; omega⟩ rfl

set_option maxHeartbeats 4000000 in
set_option maxRecDepth 100000 in
theorem c_X6_bring (G : q_G) (hI : q_inj G) (M : q_M) (t : Nat) (ht : q_tr G t) (a : Int) (p : Int) (hv : q_cv M (t + 1)) (K : Int) (hb : q_Tb (q_tv M t) K) (hK : 0 ≤ K ∧ K ≤ 1000) (ha : (0 ≤ a ∧ a ≤ 2) ∧ (0 ≤ p ∧ p ≤ 9)) : q_CI G yX6_bring wsX6_bring ({ frames := 4, cells := 0, slots := 0, locals := 94 } : Room) [.ref (q_ad G t), .int (q_I a), .int (q_I p)] M (fun z M' => q_keep M M' t ∧ ((q_set (q_ins (M (t + 1 + 3)) (M (t + 1) 4) a) = 0 ∧ z = 3 ∧ M' = M) ∨ (¬ q_set (q_ins (M (t + 1 + 3)) (M (t + 1) 4) a) = 0 ∧ z = 0 ∧ q_tv M' t = q_dish (M (t + 1) 4) (M (t + 1) 5) (q_tv M t) a p))) := by
  refine q_CI.of hI (by decide) rfl RX6 rfl [(0, .ref (q_ad G t)), (1, .int (q_I a)), (2, .int (q_I p))] rfl (Nat.le_of_ble_eq_true rfl) (fun E F FI => ?_)
  have huX6 : ∀ w ∈ wsX60, w ∈ wsX6_bring := by decide +kernel
  refine q_MRof (fun hM => ?_)
  have hv4 := hv.1
  have hv5 := hv.2.1
  have hbl := hb.2
  refine q_aload_n F dX6_bring_0 0 rfl ?_
  refine q_getr (T := TX6) (ref := "LeastHungry$Trial") F huX6 rfl ht.1 0 (by decide) (by decide +kernel) rfl rfl dX6_bring_1 ?_
  refine q_iload_n F dX6_bring_4 1 rfl ?_
  refine q_callVP (n := 1) (T := TX1) F (c_X1_inside G hI M (t + 1) ht.2.1 a (by assumption) (by omega)) rfl rfl ht.2.1.1 gX6_bring_X1_inside rfl ⟨by decide, by decide, by decide +kernel⟩ rfl ⟨rfl, rfl, Nat.le_of_ble_eq_true rfl, Nat.le_of_ble_eq_true rfl⟩ rfl (Nat.le_of_ble_eq_true rfl) dX6_bring_5 (fun h5 => ?_)
  refine q_if_ne F 13 dX6_bring_8 (by decide) (by omega) (fun c8 => ?_) (fun c8 => ?_)
  · refine q_aload_n F dX6_bring_13 0 rfl ?_
    refine q_getr (T := TX6) (ref := "LeastHungry$Trial") F huX6 rfl ht.1 0 (by decide) (by decide +kernel) rfl rfl dX6_bring_14 ?_
    refine q_iload_n F dX6_bring_17 1 rfl ?_
    refine q_iload_n F dX6_bring_18 2 rfl ?_
    refine q_callVI (n := 2) (T := TX1) F (c_X1_takers G hI M (t + 1) ht.2.1 a p (by assumption) (by omega)) rfl rfl ht.2.1.1 gX6_bring_X1_takers rfl ⟨by decide, by decide, by decide +kernel⟩ rfl ⟨rfl, rfl, Nat.le_of_ble_eq_true rfl, Nat.le_of_ble_eq_true rfl⟩ rfl (Nat.le_of_ble_eq_true rfl) dX6_bring_19 (fun r19 N19 h19 p19 => ?_)
    have hr19 : 0 ≤ r19 ∧ r19 ≤ 63 := by rw [p19.1]; exact q_set_R _
    have hv1 := q_cv_fr hv p19.2 (by omega)
    refine q_istore_n F dX6_bring_22 [(3, .int (q_I r19)), (0, .ref (q_ad G t)), (1, .int (q_I a)), (2, .int (q_I p))] (Nat.le_of_ble_eq_true rfl) rfl ?_
    refine q_aload_n F dX6_bring_23 1 rfl ?_
    refine q_getr (T := TX6) (ref := "LeastHungry$Trial") F huX6 rfl ht.1 1 (by decide) (by decide +kernel) rfl rfl dX6_bring_24 ?_
    refine q_iload_n F dX6_bring_27 0 rfl ?_
    refine q_callSV (n := 2) F (c_X6_count G hI N19 (t + 6) ht.2.2.1 r19 (by omega) (fun x h0 h1 => by rw [p19.2 (t + 6) (by omega)]; have := (hb.1 x h0 h1).1; have h9 : qt_p (q_tv M t) x = M (t + 6) x := rfl; omega)) rfl gX6_bring_X6_count ⟨by decide, by decide, by decide +kernel⟩ rfl ⟨rfl, rfl, Nat.le_of_ble_eq_true rfl, Nat.le_of_ble_eq_true rfl⟩ rfl (Nat.le_of_ble_eq_true rfl) dX6_bring_28 (fun N28 p28 => ?_)
    have hv2 := q_cv_fr hv1 p28.1 (by omega)
    have u0 : N28 (t + 1) = M (t + 1) := by rw [p28.1 _ (by omega), p19.2 _ (by omega)]
    have u1 : N28 (t + 1 + 1) = M (t + 1 + 1) := by rw [p28.1 _ (by omega), p19.2 _ (by omega)]
    have u2 : N28 (t + 1 + 2) = M (t + 1 + 2) := by rw [p28.1 _ (by omega), p19.2 _ (by omega)]
    have u3 : N28 (t + 1 + 3) = M (t + 1 + 3) := by rw [p28.1 _ (by omega), p19.2 _ (by omega)]
    refine q_aload_n F dX6_bring_31 1 rfl ?_
    refine q_getr (T := TX6) (ref := "LeastHungry$Trial") F huX6 rfl ht.1 2 (by decide) (by decide +kernel) rfl rfl dX6_bring_32 ?_
    refine q_aload_n F dX6_bring_35 1 rfl ?_
    refine q_getr (T := TX6) (ref := "LeastHungry$Trial") F huX6 rfl ht.1 0 (by decide) (by decide +kernel) rfl rfl dX6_bring_36 ?_
    refine q_aload_n F dX6_bring_39 1 rfl ?_
    refine q_getr (T := TX6) (ref := "LeastHungry$Trial") F huX6 rfl ht.1 0 (by decide) (by decide +kernel) rfl rfl dX6_bring_40 ?_
    refine q_iload_n F dX6_bring_43 2 rfl ?_
    refine q_callVP (n := 1) (T := TX1) F (c_X1_hungry G hI N28 (t + 1) ht.2.1 a hv2 (by omega)) rfl rfl ht.2.1.1 gX6_bring_X1_hungry rfl ⟨by decide, by decide, by decide +kernel⟩ rfl ⟨rfl, rfl, Nat.le_of_ble_eq_true rfl, Nat.le_of_ble_eq_true rfl⟩ rfl (Nat.le_of_ble_eq_true rfl) dX6_bring_44 (fun h44 => ?_)
    refine q_callVP (n := 1) (T := TX1) F (c_X1_foundOut G hI N28 (t + 1) ht.2.1 _ hv2 (q_set_R _)) rfl rfl ht.2.1.1 gX6_bring_X1_foundOut rfl ⟨by decide, by decide, by decide +kernel⟩ rfl ⟨rfl, rfl, Nat.le_of_ble_eq_true rfl, Nat.le_of_ble_eq_true rfl⟩ rfl (Nat.le_of_ble_eq_true rfl) dX6_bring_47 (fun h47 => ?_)
    refine q_nm (fun fo efo => ?_)
    have foe : fo = q_FO (M (t + 1) 4) (M (t + 1) 5) (q_tv M t) a := by rw [efo, u0, u1, u2, u3]; rfl
    have hfo : 0 ≤ fo ∧ fo ≤ 63 := by rw [foe]; exact q_set_R _
    refine q_callSV (n := 2) F (c_X6_count G hI N28 (t + 7) ht.2.2.2.1 _ (by omega) (fun x h0 h1 => by rw [p28.1 (t + 7) (by omega), p19.2 (t + 7) (by omega)]; have := (hb.1 x h0 h1).2; have h9 : qt_c (q_tv M t) x = M (t + 7) x := rfl; omega)) rfl gX6_bring_X6_count ⟨by decide, by decide, by decide +kernel⟩ rfl ⟨rfl, rfl, Nat.le_of_ble_eq_true rfl, Nat.le_of_ble_eq_true rfl⟩ rfl (Nat.le_of_ble_eq_true rfl) dX6_bring_50 (fun N50 p50 => ?_)
    have hv3 := q_cv_fr hv2 p50.1 (by omega)
    have t50l : N50 t 4 = M t 4 := by rw [p50.1 t (by omega), p28.1 t (by omega), p19.2 t (by omega)]
    have hbl : -(9 * K) ≤ M t 4 ∧ M t 4 ≤ 9 * K := hb.2
    refine q_aload_n F dX6_bring_53 1 rfl ?_
    refine q_dup F dX6_bring_54 rfl ?_
    refine q_geti (T := TX6) (ref := "LeastHungry$Trial") F huX6 rfl ht.1 4 (by decide) (by decide +kernel) rfl 4 rfl rfl dX6_bring_55 (fun h55 => ?_)
    refine q_iload_n F dX6_bring_58 3 rfl ?_
    refine q_iload_n F dX6_bring_59 0 rfl ?_
    refine q_callSP (n := 1) F (c_J6_bitCount_0f7a4 G hI N50 r19 hr19) rfl gX6_bring_J6_bitCount_0f7a4 ⟨by decide, by decide, by decide +kernel⟩ rfl ⟨rfl, rfl, Nat.le_of_ble_eq_true rfl, Nat.le_of_ble_eq_true rfl⟩ rfl (Nat.le_of_ble_eq_true rfl) dX6_bring_60 (fun h60 => ?_)
    have hcn := q_cnt_R (q_has r19)
    refine q_isub F dX6_bring_63 ?_
    refine q_iadd F dX6_bring_64 ?_
    refine q_puti (T := TX6) (ref := "LeastHungry$Trial") F huX6 rfl ht.1 4 (by decide) (by decide +kernel) rfl 4 rfl tyX6 tyX6_ok nmX6 rfl rfl (by decide +kernel) (by omega) dX6_bring_65 (fun N65 eN65 => ?_)
    refine q_iload_n F dX6_bring_68 0 rfl ?_
    refine q_if_ne F 89 dX6_bring_69 (by decide) (by omega) (fun c69 => ?_) (fun c69 => ?_)
    · refine q_aload_n F dX6_bring_89 1 rfl ?_
      refine q_getr (T := TX6) (ref := "LeastHungry$Trial") F huX6 rfl ht.1 0 (by decide) (by decide +kernel) rfl rfl dX6_bring_90 ?_
      refine q_iload_n F dX6_bring_93 0 rfl ?_
      refine q_callVV (n := 1) (T := TX1) F (c_X1_feed G hI N65 (t + 1) ht.2.1 r19 (by first | exact q_cv_upt hv3 eN65 | exact q_cv_upt (q_cv_upt hv3 eN65) eN86) hr19) rfl rfl ht.2.1.1 gX6_bring_X1_feed rfl ⟨by decide, by decide, by decide +kernel⟩ rfl ⟨rfl, rfl, Nat.le_of_ble_eq_true rfl, Nat.le_of_ble_eq_true rfl⟩ rfl (Nat.le_of_ble_eq_true rfl) dX6_bring_94 (fun N94 p94 => ?_)
      refine q_iconst F dX6_bring_97 ?_
      exact q_iret F FI dX6_bring_98 (by omega) (by
      have fr : ∀ j, j ≠ t → j ≠ t + 1 + 1 → j ≠ t + 1 + 4 → j ≠ t + 6 → j ≠ t + 7 → N94 j = M j := fun j h1 h2 h3 h4 h5 => by rw [p94.1 j (by omega), eN65, q_up_ne (by omega), p50.1 j (by omega), p28.1 j (by omega), p19.2 j (by omega)]
      have tt : ∀ i, N94 t i = N65 t i := fun i => by rw [p94.1 t (by omega)]
      have t50 : ∀ i, N50 t i = M t i := fun i => by rw [p50.1 t (by omega), p28.1 t (by omega), p19.2 t (by omega)]
      have kp : q_keep M N94 t := by
        refine q_keep_tr (q_keep_fr p19.2 (by omega)) (q_keep_tr (q_keep_fr p28.1 (by omega)) (q_keep_tr (q_keep_fr p50.1 (by omega)) (q_keep_tr (M1 := N65) (by rw [eN65]; exact q_keep_up (by omega) (by omega)) ?_)))
        skip
        exact q_keep_fr p94.1 (by omega)
      refine ⟨kp, Or.inr ⟨c8, rfl, q_tv_dish (r := r19) (fo := fo) p19.1 foe ?_ (fr _ (by omega) (by omega) (by omega) (by omega) (by omega)) (fr _ (by omega) (by omega) (by omega) (by omega) (by omega)) (fun x => ?_) (fun x => ?_) ?_ ?_ ?_⟩⟩
      · rw [p94.2, eN65, q_up_ne (by omega), p50.1 _ (by omega), p28.1 _ (by omega), p19.2 _ (by omega)]
      · rw [p94.1 _ (by omega), eN65, q_up_ne (by omega), p50.1 _ (by omega), p28.2 x, p19.2 _ (by omega)]
      · rw [p94.1 _ (by omega), eN65, q_up_ne (by omega), p50.2 x, p28.1 _ (by omega), p19.2 _ (by omega)]
      · rw [tt, eN65, q_up_at, if_pos rfl, t50]
      · rw [tt, eN65, q_up_at, if_neg (by decide), t50]
      · rw [if_neg (fun h => c69 h.1), tt, eN65, q_up_at, if_neg (by decide), t50])
    · refine q_aload_n F dX6_bring_72 1 rfl ?_
      refine q_geti (T := TX6) (ref := "LeastHungry$Trial") F huX6 rfl ht.1 6 (by decide) (by decide +kernel) rfl 6 rfl rfl dX6_bring_73 (fun h73 => ?_)
      refine q_bipush F dX6_bring_76 (by decide) ?_
      refine q_icmp_ne F 89 dX6_bring_78 (by decide) (by omega) (fun c78 => ?_) (fun c78 => ?_)
      · refine q_aload_n F dX6_bring_89 1 rfl ?_
        refine q_getr (T := TX6) (ref := "LeastHungry$Trial") F huX6 rfl ht.1 0 (by decide) (by decide +kernel) rfl rfl dX6_bring_90 ?_
        refine q_iload_n F dX6_bring_93 0 rfl ?_
        refine q_callVV (n := 1) (T := TX1) F (c_X1_feed G hI N65 (t + 1) ht.2.1 r19 (by first | exact q_cv_upt hv3 eN65 | exact q_cv_upt (q_cv_upt hv3 eN65) eN86) hr19) rfl rfl ht.2.1.1 gX6_bring_X1_feed rfl ⟨by decide, by decide, by decide +kernel⟩ rfl ⟨rfl, rfl, Nat.le_of_ble_eq_true rfl, Nat.le_of_ble_eq_true rfl⟩ rfl (Nat.le_of_ble_eq_true rfl) dX6_bring_94 (fun N94 p94 => ?_)
        refine q_iconst F dX6_bring_97 ?_
        exact q_iret F FI dX6_bring_98 (by omega) (by
      have fr : ∀ j, j ≠ t → j ≠ t + 1 + 1 → j ≠ t + 1 + 4 → j ≠ t + 6 → j ≠ t + 7 → N94 j = M j := fun j h1 h2 h3 h4 h5 => by rw [p94.1 j (by omega), eN65, q_up_ne (by omega), p50.1 j (by omega), p28.1 j (by omega), p19.2 j (by omega)]
      have tt : ∀ i, N94 t i = N65 t i := fun i => by rw [p94.1 t (by omega)]
      have t50 : ∀ i, N50 t i = M t i := fun i => by rw [p50.1 t (by omega), p28.1 t (by omega), p19.2 t (by omega)]
      have kp : q_keep M N94 t := by
        refine q_keep_tr (q_keep_fr p19.2 (by omega)) (q_keep_tr (q_keep_fr p28.1 (by omega)) (q_keep_tr (q_keep_fr p50.1 (by omega)) (q_keep_tr (M1 := N65) (by rw [eN65]; exact q_keep_up (by omega) (by omega)) ?_)))
        skip
        exact q_keep_fr p94.1 (by omega)
      refine ⟨kp, Or.inr ⟨c8, rfl, q_tv_dish (r := r19) (fo := fo) p19.1 foe ?_ (fr _ (by omega) (by omega) (by omega) (by omega) (by omega)) (fr _ (by omega) (by omega) (by omega) (by omega) (by omega)) (fun x => ?_) (fun x => ?_) ?_ ?_ ?_⟩⟩
      · rw [p94.2, eN65, q_up_ne (by omega), p50.1 _ (by omega), p28.1 _ (by omega), p19.2 _ (by omega)]
      · rw [p94.1 _ (by omega), eN65, q_up_ne (by omega), p50.1 _ (by omega), p28.2 x, p19.2 _ (by omega)]
      · rw [p94.1 _ (by omega), eN65, q_up_ne (by omega), p50.2 x, p28.1 _ (by omega), p19.2 _ (by omega)]
      · rw [tt, eN65, q_up_at, if_pos rfl, t50]
      · rw [tt, eN65, q_up_at, if_neg (by decide), t50]
      · have h6 : ¬ M t 6 = -6 := by rw [← t50]; intro h; apply c78; rw [eN65, q_up_at, if_neg (by decide), h]
        rw [if_neg (fun h => h6 h.2), tt, eN65, q_up_at, if_neg (by decide), t50])
      · refine q_aload_n F dX6_bring_81 1 rfl ?_
        refine q_aload_n F dX6_bring_82 1 rfl ?_
        refine q_geti (T := TX6) (ref := "LeastHungry$Trial") F huX6 rfl ht.1 5 (by decide) (by decide +kernel) rfl 5 rfl rfl dX6_bring_83 (fun h83 => ?_)
        refine q_puti (T := TX6) (ref := "LeastHungry$Trial") F huX6 rfl ht.1 6 (by decide) (by decide +kernel) rfl 6 rfl tyX6 tyX6_ok nmX6 rfl rfl (by decide +kernel) (by omega) dX6_bring_86 (fun N86 eN86 => ?_)
        refine q_aload_n F dX6_bring_89 1 rfl ?_
        refine q_getr (T := TX6) (ref := "LeastHungry$Trial") F huX6 rfl ht.1 0 (by decide) (by decide +kernel) rfl rfl dX6_bring_90 ?_
        refine q_iload_n F dX6_bring_93 0 rfl ?_
        refine q_callVV (n := 1) (T := TX1) F (c_X1_feed G hI N86 (t + 1) ht.2.1 r19 (by first | exact q_cv_upt hv3 eN65 | exact q_cv_upt (q_cv_upt hv3 eN65) eN86) hr19) rfl rfl ht.2.1.1 gX6_bring_X1_feed rfl ⟨by decide, by decide, by decide +kernel⟩ rfl ⟨rfl, rfl, Nat.le_of_ble_eq_true rfl, Nat.le_of_ble_eq_true rfl⟩ rfl (Nat.le_of_ble_eq_true rfl) dX6_bring_94 (fun N94 p94 => ?_)
        refine q_iconst F dX6_bring_97 ?_
        exact q_iret F FI dX6_bring_98 (by omega) (by
      have fr : ∀ j, j ≠ t → j ≠ t + 1 + 1 → j ≠ t + 1 + 4 → j ≠ t + 6 → j ≠ t + 7 → N94 j = M j := fun j h1 h2 h3 h4 h5 => by rw [p94.1 j (by omega), eN86, q_up_ne (by omega), eN65, q_up_ne (by omega), p50.1 j (by omega), p28.1 j (by omega), p19.2 j (by omega)]
      have tt : ∀ i, N94 t i = N86 t i := fun i => by rw [p94.1 t (by omega)]
      have t50 : ∀ i, N50 t i = M t i := fun i => by rw [p50.1 t (by omega), p28.1 t (by omega), p19.2 t (by omega)]
      have kp : q_keep M N94 t := by
        refine q_keep_tr (q_keep_fr p19.2 (by omega)) (q_keep_tr (q_keep_fr p28.1 (by omega)) (q_keep_tr (q_keep_fr p50.1 (by omega)) (q_keep_tr (M1 := N65) (by rw [eN65]; exact q_keep_up (by omega) (by omega)) ?_)))
        refine q_keep_tr (M1 := N86) (by rw [eN86]; exact q_keep_up (by omega) (by omega)) ?_
        exact q_keep_fr p94.1 (by omega)
      refine ⟨kp, Or.inr ⟨c8, rfl, q_tv_dish (r := r19) (fo := fo) p19.1 foe ?_ (fr _ (by omega) (by omega) (by omega) (by omega) (by omega)) (fr _ (by omega) (by omega) (by omega) (by omega) (by omega)) (fun x => ?_) (fun x => ?_) ?_ ?_ ?_⟩⟩
      · rw [p94.2, eN86, q_up_ne (by omega), eN65, q_up_ne (by omega), p50.1 _ (by omega), p28.1 _ (by omega), p19.2 _ (by omega)]
      · rw [p94.1 _ (by omega), eN86, q_up_ne (by omega), eN65, q_up_ne (by omega), p50.1 _ (by omega), p28.2 x, p19.2 _ (by omega)]
      · rw [p94.1 _ (by omega), eN86, q_up_ne (by omega), eN65, q_up_ne (by omega), p50.2 x, p28.1 _ (by omega), p19.2 _ (by omega)]
      · rw [tt, eN86, q_up_at, if_neg (by decide), eN65, q_up_at, if_pos rfl, t50]
      · rw [tt, eN86, q_up_at, if_neg (by decide), eN65, q_up_at, if_neg (by decide), t50]
      · have h6 : M t 6 = -6 := by rw [← t50, ← c78, eN65, q_up_at, if_neg (by decide)]
        rw [if_pos ⟨c69, h6⟩, tt, eN86, q_up_at, if_pos rfl, eN65, q_up_at, if_neg (by decide), t50])
  · refine q_iconst F dX6_bring_11 ?_
    exact q_iret F FI dX6_bring_12 (by omega) ⟨q_keep_rf, Or.inl ⟨c8, rfl, rfl⟩⟩
