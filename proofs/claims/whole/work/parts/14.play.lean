/-! the night played -/
theorem q_act_46 {hr : (Int → Int) → Int → Int} {th ke : Int} {s : q_T} {sg nx nx' pt : Int} (h : sg = 46) : q_act hr th ke s sg nx pt = q_act hr th ke s sg nx' pt := by
  unfold q_act
  rw [if_pos h, if_pos h]
theorem q_act_sg {hr : (Int → Int) → Int → Int} {th ke : Int} {s : q_T} {M : q_M} {p : Nat} {i pt : Int} (h : ¬ M (p + 1) i = 46 → i + 1 < M p 1) : q_act hr th ke s (M (p + 1) i) (q_sg M p (i + 1)) pt = q_act hr th ke s (M (p + 1) i) (M (p + 1) (i + 1)) pt := by
  by_cases h1 : M (p + 1) i = 46
  · exact q_act_46 h1
  · unfold q_sg
    rw [if_pos (h h1)]
theorem q_okS_sg {M : q_M} {p : Nat} {i : Int} (hs : q_okS (M (p + 1) i) (M (p + 1) (i + 1))) (h : ¬ M (p + 1) i = 46 → i + 1 < M p 1) : q_okS (M (p + 1) i) (q_sg M p (i + 1)) := by
  by_cases h1 : M (p + 1) i = 46
  · exact Or.inl h1
  · unfold q_sg
    rw [if_pos (h h1)]
    exact hs
theorem q_tv_tick {M : q_M} {t : Nat} : q_tv (q_up M t 5 (M t 5 + 1)) t = q_tick (q_tv M t) := by
  apply q_T_ext
  · exact q_up_ne (by omega)
  · exact q_up_ne (by omega)
  · exact q_up_ne (by omega)
  · exact q_up_ne (by omega)
  · exact q_up_ne (by omega)
  · show q_up M t 5 _ t 4 = M t 4
    rw [q_up_at, if_neg (by decide)]
  · show q_up M t 5 _ t 5 = M t 5 + 1
    rw [q_up_at, if_pos rfl]
  · show q_up M t 5 _ t 6 = M t 6
    rw [q_up_at, if_neg (by decide)]
theorem q_tv_78 {M : q_M} {t : Nat} {i v : Int} (hi : i = 7 ∨ i = 8) : q_tv (q_up M t i v) t = q_tv M t := by
  apply q_T_ext
  · exact q_up_ne (by omega)
  · exact q_up_ne (by omega)
  · exact q_up_ne (by omega)
  · exact q_up_ne (by omega)
  · exact q_up_ne (by omega)
  · show q_up M t i v t 4 = M t 4
    rw [q_up_at, if_neg (by omega)]
  · show q_up M t i v t 5 = M t 5
    rw [q_up_at, if_neg (by omega)]
  · show q_up M t i v t 6 = M t 6
    rw [q_up_at, if_neg (by omega)]
def q_pRES (M Mb : q_M) (t p o : Nat) (pt : Int) : Int × Int × q_T := q_run q_hrA (M o 4) (M o 5) (M (p + 1)) (M p 1) pt 61 0 (q_tv Mb t)
def q_pI (M Mb M1 : q_M) (t p o : Nat) (pt i : Int) (m : Nat) : Prop :=
  (0 ≤ i ∧ i ≤ 61 ∧ M p 1 - i ≤ m) ∧ (∀ j, (j < t ∨ t + 8 < j) → M1 j = M j) ∧ (M1 (t + 1) 4 = M o 4 ∧ M1 (t + 1) 5 = M o 5) ∧ q_cv M1 (t + 1) ∧ (q_Tb (q_tv M1 t) i ∧ 0 ≤ M1 t 5 ∧ M1 t 5 ≤ i) ∧
  ((M1 t 7 = -6 ∧ M1 t 8 = -6 ∧ q_flt (M (p + 1)) (M p 1) (m + 1) i = -6 ∧ q_run q_hrA (M o 4) (M o 5) (M (p + 1)) (M p 1) pt (m + 1) i (q_tv M1 t) = q_pRES M Mb t p o pt) ∨ (¬ M1 t 7 = -6 ∧ q_pRES M Mb t p o pt = (M1 t 7, M1 t 8, q_tv M1 t)))
theorem q_pI_A {M Mb M1 : q_M} {t p o : Nat} {pt i : Int} {m : Nat} (h : q_pI M Mb M1 t p o pt i m) (h7 : M1 t 7 = -6) : M1 t 8 = -6 ∧ q_flt (M (p + 1)) (M p 1) (m + 1) i = -6 ∧ q_run q_hrA (M o 4) (M o 5) (M (p + 1)) (M p 1) pt (m + 1) i (q_tv M1 t) = q_pRES M Mb t p o pt := by
  rcases h.2.2.2.2.2 with h | h
  · exact h.2
  · exact absurd h7 h.1
theorem q_pI_act {M Mb M1 N : q_M} {t p o : Nat} {pt i r : Int} {m : Nat} (h : q_pI M Mb M1 t p o pt i m) (h7 : M1 t 7 = -6) (hi : i < M p 1) (hp : 0 ≤ pt ∧ pt ≤ 9) (hpt : p + 1 < t)
    (kp : q_keep M1 N t) (hr : r = (q_act q_hrA (M1 (t + 1) 4) (M1 (t + 1) 5) (q_tv M1 t) (q_sg M1 p i) (q_sg M1 p (i + 1)) pt).1) (hN : q_tv N t = (q_act q_hrA (M1 (t + 1) 4) (M1 (t + 1) 5) (q_tv M1 t) (q_sg M1 p i) (q_sg M1 p (i + 1)) pt).2) :
    r = (q_act q_hrA (M o 4) (M o 5) (q_tv M1 t) (M (p + 1) i) (M (p + 1) (i + 1)) pt).1 ∧ q_tv N t = (q_act q_hrA (M o 4) (M o 5) (q_tv M1 t) (M (p + 1) i) (M (p + 1) (i + 1)) pt).2 ∧ q_cv N (t + 1) ∧ q_Tb (q_tv N t) (i + 1) := by
  have hA := q_pI_A h h7
  have ok := q_flt_ok hA.2.1 h.1.1 hi
  have e1 : M1 (p + 1) = M (p + 1) := h.2.1 _ (by omega)
  have e0 : M1 p = M p := h.2.1 _ (by omega)
  have es : q_sg M1 p i = M1 (p + 1) i := by unfold q_sg; rw [e0, if_pos hi]
  rw [es, q_act_sg (by rw [e1, e0]; exact ok.2.1), e1, h.2.2.1.1, h.2.2.1.2] at hr hN
  refine ⟨hr, hN, ?_⟩
  have vb := q_act_vb (hr := q_hrA) (th := M o 4) (ke := M o 5) (fun h hh => q_hrA_v hh) ok.1 hp (q_Tv_of h.2.2.2.1) h.2.2.2.2.1.1 h.1.1
  rw [← hN] at vb
  refine ⟨q_cv_of ?_ ?_ vb.1, vb.2⟩
  · rw [kp.2.2.1]; exact h.2.2.2.1.1
  · rw [kp.2.2.1]; exact h.2.2.2.1.2.1
theorem q_pI_succ {M Mb M1 N N' : q_M} {t p o : Nat} {pt i i' r : Int} {m : Nat} (h : q_pI M Mb M1 t p o pt i m) (h7 : M1 t 7 = -6) (hi : i < M p 1) (hm : M p 1 ≤ 60) (kp : q_keep M1 N t)
    (ha : r = (q_act q_hrA (M o 4) (M o 5) (q_tv M1 t) (M (p + 1) i) (M (p + 1) (i + 1)) pt).1 ∧ q_tv N t = (q_act q_hrA (M o 4) (M o 5) (q_tv M1 t) (M (p + 1) i) (M (p + 1) (i + 1)) pt).2 ∧ q_cv N (t + 1) ∧ q_Tb (q_tv N t) (i + 1))
    (hr : r = 0) (e : N' = q_up N t 5 (N t 5 + 1)) (hi' : i' = if M (p + 1) i = 46 then i + 1 else i + 2) : q_pI M Mb N' t p o pt i' (m - 1) := by
  have hA := q_pI_A h h7
  have ok := q_flt_ok hA.2.1 h.1.1 hi
  have hle : i + 1 ≤ i' ∧ i' ≤ i + 2 ∧ (¬ M (p + 1) i = 46 → i + 1 < M p 1) ∧ (i' = i + 1 ∨ (i' = i + 2 ∧ i + 1 < M p 1)) := by
    rw [hi']
    by_cases h1 : M (p + 1) i = 46
    · rw [if_pos h1]; exact ⟨by omega, by omega, ok.2.1, Or.inl rfl⟩
    · rw [if_neg h1]; exact ⟨by omega, by omega, ok.2.1, Or.inr ⟨rfl, ok.2.1 h1⟩⟩
  have h1 := h.1
  have hm1 : m - 1 + 1 = m := by omega
  subst e
  refine ⟨by omega, fun j hj => ?_, ?_, q_cv_upt ha.2.2.1 rfl, ?_, Or.inl ⟨?_, ?_, ?_, ?_⟩⟩
  · rw [q_up_ne (by omega), kp.1 j hj, h.2.1 j hj]
  · rw [q_up_ne (by omega), kp.2.2.1]; exact h.2.2.1
  · rw [q_tv_tick, q_up_at, if_pos rfl, kp.2.2.2.1]
    have := h.2.2.2.2.1.2
    exact ⟨q_Tb_mono (s := q_tick (q_tv N t)) ha.2.2.2 (by omega), by omega⟩
  · rw [q_up_at, if_neg (by decide), kp.2.2.2.2.1, h7]
  · rw [q_up_at, if_neg (by decide), kp.2.2.2.2.2, hA.1]
  · rw [hm1, hi']; exact ok.2.2
  · have e2 : q_run q_hrA (M o 4) (M o 5) (M (p + 1)) (M p 1) pt (m + 1) i (q_tv M1 t) = q_run q_hrA (M o 4) (M o 5) (M (p + 1)) (M p 1) pt m (if M (p + 1) i = 46 then i + 1 else i + 2) (q_tick (q_tv N t)) := by
      rw [q_run_u, if_neg (by omega), ← ha.1, if_pos hr, ← ha.2.1]
    rw [← hA.2.2, e2, hm1, hi', q_tv_tick]
theorem q_pI_fail {M Mb M1 N N' : q_M} {t p o : Nat} {pt i i' r : Int} {m : Nat} (h : q_pI M Mb M1 t p o pt i m) (h7 : M1 t 7 = -6) (hi : i < M p 1) (hm : M p 1 ≤ 60) (kp : q_keep M1 N t)
    (ha : r = (q_act q_hrA (M o 4) (M o 5) (q_tv M1 t) (M (p + 1) i) (M (p + 1) (i + 1)) pt).1 ∧ q_tv N t = (q_act q_hrA (M o 4) (M o 5) (q_tv M1 t) (M (p + 1) i) (M (p + 1) (i + 1)) pt).2 ∧ q_cv N (t + 1) ∧ q_Tb (q_tv N t) (i + 1))
    (hr : ¬ r = 0) (e : N' = q_up (q_up N t 7 (N t 5)) t 8 r) (hi' : i' = if M (p + 1) i = 46 then i + 1 else i + 2) : q_pI M Mb N' t p o pt i' (m - 1) := by
  have hA := q_pI_A h h7
  have ok := q_flt_ok hA.2.1 h.1.1 hi
  have hle : i + 1 ≤ i' ∧ i' ≤ i + 2 ∧ (¬ M (p + 1) i = 46 → i + 1 < M p 1) ∧ (i' = i + 1 ∨ (i' = i + 2 ∧ i + 1 < M p 1)) := by
    rw [hi']
    by_cases h1 : M (p + 1) i = 46
    · rw [if_pos h1]; exact ⟨by omega, by omega, ok.2.1, Or.inl rfl⟩
    · rw [if_neg h1]; exact ⟨by omega, by omega, ok.2.1, Or.inr ⟨rfl, ok.2.1 h1⟩⟩
  have h1 := h.1
  have h5 := h.2.2.2.2.1.2
  subst e
  have et : q_tv (q_up (q_up N t 7 (N t 5)) t 8 r) t = q_tv N t := by rw [q_tv_78 (Or.inr rfl), q_tv_78 (Or.inl rfl)]
  have e7 : q_up (q_up N t 7 (N t 5)) t 8 r t 7 = M1 t 5 := by rw [q_up_at, if_neg (by decide), q_up_at, if_pos rfl, kp.2.2.2.1]
  have e8 : q_up (q_up N t 7 (N t 5)) t 8 r t 8 = r := by rw [q_up_at, if_pos rfl]
  refine ⟨by omega, fun j hj => ?_, ?_, q_cv_upt (q_cv_upt ha.2.2.1 rfl) rfl, ?_, Or.inr ⟨?_, ?_⟩⟩
  · rw [q_up_ne (by omega), q_up_ne (by omega), kp.1 j hj, h.2.1 j hj]
  · rw [q_up_ne (by omega), q_up_ne (by omega), kp.2.2.1]; exact h.2.2.1
  · rw [et, q_up_at, if_neg (by decide), q_up_at, if_neg (by decide), kp.2.2.2.1]
    exact ⟨q_Tb_mono ha.2.2.2 (by omega), by omega⟩
  · rw [e7]; omega
  · rw [e7, e8, et, ← hA.2.2, q_run_u, if_neg (by omega), ← ha.1, if_neg hr, ha.2.1]
    rfl
theorem q_pI_exit {M Mb M1 : q_M} {t p o : Nat} {pt i : Int} {m : Nat} (h : q_pI M Mb M1 t p o pt i m) (hx : M p 1 ≤ i ∨ ¬ M1 t 7 = -6) : q_pRES M Mb t p o pt = (M1 t 7, M1 t 8, q_tv M1 t) := by
  rcases h.2.2.2.2.2 with hA | hB
  · rcases hx with hx | hx
    · rw [← hA.2.2.2, q_run_u, if_pos hx, hA.1, hA.2.1]
    · exact absurd hA.1 hx
  · exact hB.2
def q_NI (th ke : Int) (pad : Int → Int) (n pt : Int) (h f a : Int → Int) : Int × Int × q_T := q_run (q_hrT th) th ke pad n pt 61 0 (q_T0 h f a)
theorem q_play_of {M Mb M1 : q_M} {t p o : Nat} {pt : Int} (hs : q_sim (M o 4) (q_tv Mb t) (q_T0 (M (o + 1)) (M (o + 2)) (M (o + 3)))) (hres : q_pRES M Mb t p o pt = (M1 t 7, M1 t 8, q_tv M1 t)) :
    M1 t 7 = (q_NI (M o 4) (M o 5) (M (p + 1)) (M p 1) pt (M (o + 1)) (M (o + 2)) (M (o + 3))).1 ∧ M1 t 8 = (q_NI (M o 4) (M o 5) (M (p + 1)) (M p 1) pt (M (o + 1)) (M (o + 2)) (M (o + 3))).2.1 ∧ q_sim (M o 4) (q_tv M1 t) (q_NI (M o 4) (M o 5) (M (p + 1)) (M p 1) pt (M (o + 1)) (M (o + 2)) (M (o + 3))).2.2 := by
  have h := q_run_sim (ke := M o 5) (pad := M (p + 1)) (n := M p 1) (pt := pt) q_hrA_ok q_hrT_ok 61 0 _ _ hs
  unfold q_pRES at hres
  rw [hres] at h
  exact h
set_option maxHeartbeats 4000000 in
set_option maxRecDepth 100000 in
theorem c_X6_act (G : q_G) (hI : q_inj G) (M : q_M) (t : Nat) (ht : q_tr G t) (sg : Int) (nx : Int) (pt : Int) (hv : q_cv M (t + 1)) (K : Int) (hb : q_Tb (q_tv M t) K) (hK : 0 ≤ K ∧ K ≤ 1000) (hs : q_okS sg nx) (hp : (0 ≤ pt ∧ pt ≤ 9) ∧ (0 ≤ sg ∧ sg ≤ 126) ∧ (0 ≤ nx ∧ nx ≤ 126)) : q_CI G yX6_act wsX6_act ({ frames := 5, cells := 0, slots := 0, locals := 117 } : Room) [.ref (q_ad G t), .int (q_I sg), .int (q_I nx), .int (q_I pt)] M (fun z M' => q_keep M M' t ∧ z = (q_act q_hrA (M (t + 1) 4) (M (t + 1) 5) (q_tv M t) sg nx pt).1 ∧ q_tv M' t = (q_act q_hrA (M (t + 1) 4) (M (t + 1) 5) (q_tv M t) sg nx pt).2) := by
  refine q_CI.of hI (by decide) rfl RX6 rfl [(0, .ref (q_ad G t)), (1, .int (q_I sg)), (2, .int (q_I nx)), (3, .int (q_I pt))] rfl (Nat.le_of_ble_eq_true rfl) (fun E F FI => ?_)
  have huX6 : ∀ w ∈ wsX60, w ∈ wsX6_act := by decide +kernel
  refine q_MRof (fun hM => ?_)
  have hv4 := hv.1
  have hv5 := hv.2.1
  have hs2 := hs
  unfold q_okS at hs2
  refine q_iload_n F dX6_act_0 1 rfl ?_
  refine q_bipush F dX6_act_1 (by decide) ?_
  refine q_icmp_ne F 15 dX6_act_3 (by decide) (by omega) (fun c3 => ?_) (fun c3 => ?_)
  · refine q_iload_n F dX6_act_15 1 rfl ?_
    refine q_callSP (n := 1) F (c_X3_isHouseSign G hI M sg (by omega)) rfl gX6_act_X3_isHouseSign ⟨by decide, by decide, by decide +kernel⟩ rfl ⟨rfl, rfl, Nat.le_of_ble_eq_true rfl, Nat.le_of_ble_eq_true rfl⟩ rfl (Nat.le_of_ble_eq_true rfl) dX6_act_16 (fun h16 => ?_)
    refine q_ifb_eq F 41 dX6_act_19 (by decide) (fun c19 => ?_) (fun c19 => ?_)
    · have nh : ¬ (97 ≤ sg ∧ sg < 100) := by intro h; simp [q_house, h] at c19
      refine q_iload_n F dX6_act_41 1 rfl ?_
      refine q_bipush F dX6_act_42 (by decide) ?_
      refine q_isub F dX6_act_44 ?_
      refine q_nm (fun v45 e45 => ?_)
      refine q_istore F dX6_act_45 [(4, .int (q_I v45)), (0, .ref (q_ad G t)), (1, .int (q_I sg)), (2, .int (q_I nx)), (3, .int (q_I pt))] (Nat.le_of_ble_eq_true rfl) rfl ?_
      refine q_iload_n F dX6_act_47 3 rfl ?_
      refine q_callSP (n := 1) F (c_X3_isHouseSign G hI M nx (by omega)) rfl gX6_act_X3_isHouseSign ⟨by decide, by decide, by decide +kernel⟩ rfl ⟨rfl, rfl, Nat.le_of_ble_eq_true rfl, Nat.le_of_ble_eq_true rfl⟩ rfl (Nat.le_of_ble_eq_true rfl) dX6_act_48 (fun h48 => ?_)
      refine q_ifb_eq F 67 dX6_act_51 (by decide) (fun c51 => ?_) (fun c51 => ?_)
      · have nxn : ¬ (97 ≤ nx ∧ nx < 100) := by intro h; simp [q_house, h] at c51
        refine q_aload_n F dX6_act_67 1 rfl ?_
        refine q_iload F dX6_act_68 0 rfl ?_
        refine q_iload_n F dX6_act_70 3 rfl ?_
        refine q_bipush F dX6_act_71 (by decide) ?_
        refine q_isub F dX6_act_73 ?_
        refine q_callVI (n := 2) (T := TX6) F (c_X6_pretend G hI M t ht v45 _ (by assumption) (by omega)) rfl rfl ht.1 gX6_act_X6_pretend rfl ⟨by decide, by decide, by decide +kernel⟩ rfl ⟨rfl, rfl, Nat.le_of_ble_eq_true rfl, Nat.le_of_ble_eq_true rfl⟩ rfl (Nat.le_of_ble_eq_true rfl) dX6_act_74 (fun r74 N74 h74 p74 => ?_)
        exact q_iret F FI dX6_act_77 (by omega) (by
      obtain ⟨q1, q2⟩ := p74
      unfold q_act
      rw [if_neg c3, if_neg nh, if_neg nxn, ← e45]
      by_cases hz : q_has (M (t + 1) 4) v45 = true
      · rw [if_pos hz] at q1 ⊢
        rw [if_pos q1] at q2
        exact ⟨by rw [q2]; exact q_keep_up (by omega) (by omega), q1, by rw [q2]; exact q_tv_fe⟩
      · rw [if_neg hz] at q1 ⊢
        rw [if_neg (by omega)] at q2
        exact ⟨by rw [q2]; exact q_keep_rf, q1, by rw [q2]⟩)
      · have nxh : 97 ≤ nx ∧ nx < 100 := by simpa [q_house] using c51
        refine q_aload_n F dX6_act_54 1 rfl ?_
        refine q_iload F dX6_act_55 0 rfl ?_
        refine q_iload_n F dX6_act_57 3 rfl ?_
        refine q_bipush F dX6_act_58 (by decide) ?_
        refine q_isub F dX6_act_60 ?_
        refine q_callVI (n := 2) (T := TX6) F (c_X6_go G hI M t ht v45 _ (by assumption) (by omega)) rfl rfl ht.1 gX6_act_X6_go rfl ⟨by decide, by decide, by decide +kernel⟩ rfl ⟨rfl, rfl, Nat.le_of_ble_eq_true rfl, Nat.le_of_ble_eq_true rfl⟩ rfl (Nat.le_of_ble_eq_true rfl) dX6_act_61 (fun r61 N61 h61 p61 => ?_)
        refine q_goto F 77 dX6_act_64 (by decide) ?_
        exact q_iret F FI dX6_act_77 (by omega) (by
      obtain ⟨q1, q2⟩ := p61
      unfold q_act
      rw [if_neg c3, if_neg nh, if_pos nxh, ← e45, ← q1]
      by_cases hz : r61 = 0
      · rw [if_pos hz] at q2 ⊢
        exact ⟨by rw [q2]; exact q_keep_go, hz, by rw [q2]; exact q_tv_go⟩
      · rw [if_neg hz] at q2 ⊢
        exact ⟨by rw [q2]; exact q_keep_rf, rfl, by rw [q2]⟩)
    · have c19h : 97 ≤ sg ∧ sg < 100 := by simpa [q_house] using c19
      refine q_aload_n F dX6_act_22 0 rfl ?_
      refine q_iload_n F dX6_act_23 1 rfl ?_
      refine q_bipush F dX6_act_24 (by decide) ?_
      refine q_isub F dX6_act_26 ?_
      refine q_iconst F dX6_act_27 ?_
      refine q_iload_n F dX6_act_28 2 rfl ?_
      refine q_bipush F dX6_act_29 (by decide) ?_
      refine q_isub F dX6_act_31 ?_
      refine q_iload_n F dX6_act_32 3 rfl ?_
      refine q_isub F dX6_act_33 ?_
      refine q_mmax F (by omega) (by decide +kernel) (by decide +kernel) (by decide +kernel) (by decide +kernel) ⟨Nat.le_of_ble_eq_true rfl, Nat.le_of_ble_eq_true rfl⟩ dX6_act_34 ?_
      refine q_callVI (n := 2) (T := TX6) F (c_X6_bring G hI M t ht _ _ (by assumption) K (by assumption) (by omega) (by omega)) rfl rfl ht.1 gX6_act_X6_bring rfl ⟨by decide, by decide, by decide +kernel⟩ rfl ⟨rfl, rfl, Nat.le_of_ble_eq_true rfl, Nat.le_of_ble_eq_true rfl⟩ rfl (Nat.le_of_ble_eq_true rfl) dX6_act_37 (fun r37 N37 h37 p37 => ?_)
      exact q_iret F FI dX6_act_40 (by omega) (by
      refine ⟨p37.1, ?_⟩
      unfold q_act
      rw [if_neg c3, if_pos c19h]
      rcases p37.2 with ⟨h1, h2, h3⟩ | ⟨h1, h2, h3⟩
      · rw [if_pos (c := q_set (q_ins (qt_a (q_tv M t)) (M (t + 1) 4) (sg - 97)) = 0) h1]
        exact ⟨h2, by rw [h3]⟩
      · rw [if_neg (c := q_set (q_ins (qt_a (q_tv M t)) (M (t + 1) 4) (sg - 97)) = 0) h1]
        exact ⟨h2, h3⟩)
  · refine q_aload_n F dX6_act_6 0 rfl ?_
    refine q_getr (T := TX6) (ref := "LeastHungry$Trial") F huX6 rfl ht.1 0 (by decide) (by decide +kernel) rfl rfl dX6_act_7 ?_
    refine q_callVV (n := 0) (T := TX1) F (c_X1_passHour G hI M (t + 1) ht.2.1 (by assumption)) rfl rfl ht.2.1.1 gX6_act_X1_passHour rfl ⟨by decide, by decide, by decide +kernel⟩ rfl ⟨rfl, rfl, Nat.le_of_ble_eq_true rfl, Nat.le_of_ble_eq_true rfl⟩ rfl (Nat.le_of_ble_eq_true rfl) dX6_act_10 (fun N10 p10 => ?_)
    refine q_iconst F dX6_act_13 ?_
    exact q_iret F FI dX6_act_14 (by omega) ⟨q_keep_fr p10.1 (by omega), by unfold q_act; rw [if_pos c3], by unfold q_act; rw [if_pos c3]; exact q_tv_ho p10.1 p10.2⟩

set_option maxHeartbeats 4000000 in
set_option maxRecDepth 100000 in
theorem c_X6_begin (G : q_G) (hI : q_inj G) (M : q_M) (t : Nat) (ht : q_tr G t) (o : Nat) (ho : q_co G o) (hvo : q_cv M o) (hd : o + 4 < t) : q_CV G yX6_begin wsX6_begin ({ frames := 3, cells := 0, slots := 0, locals := 68 } : Room) [.ref (q_ad G t), .ref (q_ad G o)] M (fun M' => (∀ j, (j < t ∨ t + 8 < j) → M' j = M j) ∧ (M' (t + 1) 4 = M o 4 ∧ M' (t + 1) 5 = M o 5) ∧ q_cv M' (t + 1) ∧ q_sim (M o 4) (q_tv M' t) (q_T0 (M (o + 1)) (M (o + 2)) (M (o + 3))) ∧ q_Tb (q_tv M' t) 0 ∧ M' t 5 = 0 ∧ M' t 7 = -6 ∧ M' t 8 = -6) := by
  refine q_CV.of hI (by decide) rfl RX6 rfl [(0, .ref (q_ad G t)), (1, .ref (q_ad G o))] rfl (Nat.le_of_ble_eq_true rfl) (fun E F FV => ?_)
  have huX6 : ∀ w ∈ wsX60, w ∈ wsX6_begin := by decide +kernel
  refine q_MRof (fun hM => ?_)
  refine q_aload_n F dX6_begin_0 0 rfl ?_
  refine q_getr (T := TX6) (ref := "LeastHungry$Trial") F huX6 rfl ht.1 0 (by decide) (by decide +kernel) rfl rfl dX6_begin_1 ?_
  refine q_aload_n F dX6_begin_4 1 rfl ?_
  refine q_callVV (n := 1) (T := TX1) F (c_X1_become G hI M (t + 1) ht.2.1 o ho (by omega)) rfl rfl ht.2.1.1 gX6_begin_X1_become rfl ⟨by decide, by decide, by decide +kernel⟩ rfl ⟨rfl, rfl, Nat.le_of_ble_eq_true rfl, Nat.le_of_ble_eq_true rfl⟩ rfl (Nat.le_of_ble_eq_true rfl) dX6_begin_5 (fun N5 p5 => ?_)
  refine q_aload_n F dX6_begin_8 0 rfl ?_
  refine q_getr (T := TX6) (ref := "LeastHungry$Trial") F huX6 rfl ht.1 1 (by decide) (by decide +kernel) rfl rfl dX6_begin_9 ?_
  refine q_iconst F dX6_begin_12 ?_
  refine q_callSV (n := 2) F (c_J7_fill_53178 G hI N5 (t + 6) 6 ht.2.2.1 0 (by omega)) rfl gX6_begin_J7_fill_53178 ⟨by decide, by decide, by decide +kernel⟩ rfl ⟨rfl, rfl, Nat.le_of_ble_eq_true rfl, Nat.le_of_ble_eq_true rfl⟩ rfl (Nat.le_of_ble_eq_true rfl) dX6_begin_13 (fun N13 p13 => ?_)
  refine q_aload_n F dX6_begin_16 0 rfl ?_
  refine q_getr (T := TX6) (ref := "LeastHungry$Trial") F huX6 rfl ht.1 2 (by decide) (by decide +kernel) rfl rfl dX6_begin_17 ?_
  refine q_iconst F dX6_begin_20 ?_
  refine q_callSV (n := 2) F (c_J7_fill_53178 G hI N13 (t + 7) 6 ht.2.2.2.1 0 (by omega)) rfl gX6_begin_J7_fill_53178 ⟨by decide, by decide, by decide +kernel⟩ rfl ⟨rfl, rfl, Nat.le_of_ble_eq_true rfl, Nat.le_of_ble_eq_true rfl⟩ rfl (Nat.le_of_ble_eq_true rfl) dX6_begin_21 (fun N21 p21 => ?_)
  refine q_aload_n F dX6_begin_24 0 rfl ?_
  refine q_iconst F dX6_begin_25 ?_
  refine q_puti (T := TX6) (ref := "LeastHungry$Trial") F huX6 rfl ht.1 4 (by decide) (by decide +kernel) rfl 4 rfl tyX6 tyX6_ok nmX6 rfl rfl (by decide +kernel) (by omega) dX6_begin_26 (fun N26 eN26 => ?_)
  refine q_aload_n F dX6_begin_29 0 rfl ?_
  refine q_iconst F dX6_begin_30 ?_
  refine q_puti (T := TX6) (ref := "LeastHungry$Trial") F huX6 rfl ht.1 5 (by decide) (by decide +kernel) rfl 5 rfl tyX6 tyX6_ok nmX6 rfl rfl (by decide +kernel) (by omega) dX6_begin_31 (fun N31 eN31 => ?_)
  refine q_aload_n F dX6_begin_34 0 rfl ?_
  refine q_bipush F dX6_begin_35 (by decide) ?_
  refine q_puti (T := TX6) (ref := "LeastHungry$Trial") F huX6 rfl ht.1 6 (by decide) (by decide +kernel) rfl 6 rfl tyX6 tyX6_ok nmX6 rfl rfl (by decide +kernel) (by omega) dX6_begin_37 (fun N37 eN37 => ?_)
  refine q_aload_n F dX6_begin_40 0 rfl ?_
  refine q_bipush F dX6_begin_41 (by decide) ?_
  refine q_puti (T := TX6) (ref := "LeastHungry$Trial") F huX6 rfl ht.1 7 (by decide) (by decide +kernel) rfl 7 rfl tyX6 tyX6_ok nmX6 rfl rfl (by decide +kernel) (by omega) dX6_begin_43 (fun N43 eN43 => ?_)
  refine q_aload_n F dX6_begin_46 0 rfl ?_
  refine q_bipush F dX6_begin_47 (by decide) ?_
  refine q_puti (T := TX6) (ref := "LeastHungry$Trial") F huX6 rfl ht.1 8 (by decide) (by decide +kernel) rfl 8 rfl tyX6 tyX6_ok nmX6 rfl rfl (by decide +kernel) (by omega) dX6_begin_49 (fun N49 eN49 => ?_)
  exact q_vret F FV dX6_begin_52 (by
      have t4 : ∀ i : Int, N49 t i = if i = 8 then -6 else if i = 7 then -6 else if i = 6 then -6 else if i = 5 then 0 else if i = 4 then 0 else N21 t i := fun i => by
        rw [eN49, q_up_at, eN43, q_up_at, eN37, q_up_at, eN31, q_up_at, eN26, q_up_at]
      have fr : ∀ j, j ≠ t → N49 j = N21 j := fun j hj => by rw [eN49, q_up_ne hj, eN43, q_up_ne hj, eN37, q_up_ne hj, eN31, q_up_ne hj, eN26, q_up_ne hj]
      have f6 : ∀ j, j ≠ t → j ≠ t + 6 → j ≠ t + 7 → N49 j = N5 j := fun j h1 h2 h3 => by rw [fr j h1, p21.1 j h3, p13.1 j h2]
      obtain ⟨b1, b2, b3, b4⟩ := p5
      have c4 : N49 (t + 1) 4 = M o 4 := by rw [f6 _ (by omega) (by omega) (by omega), b2]
      have c5 : N49 (t + 1) 5 = M o 5 := by rw [f6 _ (by omega) (by omega) (by omega), b3]
      have r1 : ∀ x, 0 ≤ x → x < 6 → N49 (t + 1 + 1) x = M (o + 1) x ∧ N49 (t + 1 + 2) x = M (o + 2) x ∧ N49 (t + 1 + 3) x = M (o + 3) x := fun x h0 h1 => by
        rw [f6 _ (by omega) (by omega) (by omega), f6 _ (by omega) (by omega) (by omega), f6 _ (by omega) (by omega) (by omega)]
        exact b4 x h0 h1
      have z6 : ∀ x, 0 ≤ x → x < 6 → N49 (t + 6) x = 0 := fun x h0 h1 => by rw [fr _ (by omega), p21.1 _ (by omega)]; exact p13.2 x h0 (by omega)
      have z7 : ∀ x, 0 ≤ x → x < 6 → N49 (t + 7) x = 0 := fun x h0 h1 => by rw [fr _ (by omega)]; exact p21.2 x h0 (by omega)
      have e4 : N49 t 4 = 0 := by rw [t4]; rfl
      have e5 : N49 t 5 = 0 := by rw [t4]; rfl
      have e6 : N49 t 6 = -6 := by rw [t4]; rfl
      refine ⟨fun j hj => by rw [f6 j (by omega) (by omega) (by omega)]; exact b1 j (by omega), ⟨c4, c5⟩, ⟨by rw [c4]; exact hvo.1, by rw [c5]; exact hvo.2.1, fun x h0 h1 => by rw [(r1 x h0 h1).1]; exact hvo.2.2.1 x h0 h1, fun x h0 h1 => by rw [(r1 x h0 h1).2.1]; exact hvo.2.2.2.1 x h0 h1, fun x h0 h1 => by rw [(r1 x h0 h1).2.2]; exact hvo.2.2.2.2 x h0 h1⟩,
        ⟨fun x hx => r1 x (q_has_in hx).1 (q_has_in hx).2, fun x h0 h1 => ⟨z6 x h0 h1, z7 x h0 h1⟩, e4, e5, e6⟩, ⟨fun x h0 h1 => ?_, ?_⟩, e5, by rw [t4]; rfl, by rw [t4]; rfl⟩
      · show (0 ≤ N49 (t + 6) x ∧ N49 (t + 6) x ≤ 0) ∧ (0 ≤ N49 (t + 7) x ∧ N49 (t + 7) x ≤ 0)
        rw [z6 x h0 h1, z7 x h0 h1]
        omega
      · show -(9 * 0) ≤ N49 t 4 ∧ N49 t 4 ≤ 9 * 0
        rw [e4]
        omega)

set_option maxHeartbeats 4000000 in
set_option maxRecDepth 100000 in
theorem c_X6_play (G : q_G) (hI : q_inj G) (M : q_M) (t : Nat) (ht : q_tr G t) (p : Nat) (hp : q_pd G p) (o : Nat) (ho : q_co G o) (pt : Int) (hvo : q_cv M o) (hpv : q_pv M p) (hd : o + 4 < t ∧ p + 1 < t) (hpt : 0 ≤ pt ∧ pt ≤ 9) : q_CI G yX6_play wsX6_play ({ frames := 6, cells := 0, slots := 0, locals := 141 } : Room) [.ref (q_ad G t), .ref (q_ad G p), .ref (q_ad G o), .int (q_I pt)] M (fun z M' => ∃ b : Bool, z = q_b b ∧ (∀ j, (j < t ∨ t + 8 < j) → M' j = M j) ∧ q_cv M' (t + 1) ∧ (M' (t + 1) 4 = M o 4 ∧ M' (t + 1) 5 = M o 5) ∧ (¬ q_flt (M (p + 1)) (M p 1) 61 0 = -6 → b = false) ∧ (q_flt (M (p + 1)) (M p 1) 61 0 = -6 → b = decide ((q_NI (M o 4) (M o 5) (M (p + 1)) (M p 1) pt (M (o + 1)) (M (o + 2)) (M (o + 3))).1 = -6) ∧ M' t 7 = (q_NI (M o 4) (M o 5) (M (p + 1)) (M p 1) pt (M (o + 1)) (M (o + 2)) (M (o + 3))).1 ∧ M' t 8 = (q_NI (M o 4) (M o 5) (M (p + 1)) (M p 1) pt (M (o + 1)) (M (o + 2)) (M (o + 3))).2.1 ∧ q_sim (M o 4) (q_tv M' t) (q_NI (M o 4) (M o 5) (M (p + 1)) (M p 1) pt (M (o + 1)) (M (o + 2)) (M (o + 3))).2.2)) := by
  refine q_CI.of hI (by decide) rfl RX6 rfl [(0, .ref (q_ad G t)), (1, .ref (q_ad G p)), (2, .ref (q_ad G o)), (3, .int (q_I pt))] rfl (Nat.le_of_ble_eq_true rfl) (fun E F FI => ?_)
  have huX3 : ∀ w ∈ wsX30, w ∈ wsX6_play := by decide +kernel
  have huX6 : ∀ w ∈ wsX60, w ∈ wsX6_play := by decide +kernel
  refine q_MRof (fun hM => ?_)
  have hpv1 := hpv.1
  refine q_aload_n F dX6_play_0 0 rfl ?_
  refine q_aload_n F dX6_play_1 2 rfl ?_
  refine q_callVV (n := 1) (T := TX6) F (c_X6_begin G hI M t ht o ho (by assumption) (by omega)) rfl rfl ht.1 gX6_play_X6_begin rfl ⟨by decide, by decide, by decide +kernel⟩ rfl ⟨rfl, rfl, Nat.le_of_ble_eq_true rfl, Nat.le_of_ble_eq_true rfl⟩ rfl (Nat.le_of_ble_eq_true rfl) dX6_play_2 (fun N2 p2 => ?_)
  have f0 : N2 p = M p := p2.1 _ (by omega)
  have f1 : N2 (p + 1) = M (p + 1) := p2.1 _ (by omega)
  have hpv2 : q_pv N2 p := by unfold q_pv; rw [f0, f1]; exact hpv
  refine q_aload_n F dX6_play_5 1 rfl ?_
  refine q_callVP (n := 0) (T := TX3) F (c_X3_firstFault G hI N2 p hp hpv2) rfl rfl hp.1 gX6_play_X3_firstFault rfl ⟨by decide, by decide, by decide +kernel⟩ rfl ⟨rfl, rfl, Nat.le_of_ble_eq_true rfl, Nat.le_of_ble_eq_true rfl⟩ rfl (Nat.le_of_ble_eq_true rfl) dX6_play_6 (fun h6 => ?_)
  rw [f0, f1] at h6 ⊢
  refine q_bipush F dX6_play_9 (by decide) ?_
  refine q_icmp_eq F 16 dX6_play_11 (by decide) (by omega) (fun c11 => ?_) (fun c11 => ?_)
  · refine q_iconst F dX6_play_16 ?_
    refine q_istore F dX6_play_17 [(4, .int (q_I 0)), (0, .ref (q_ad G t)), (1, .ref (q_ad G p)), (2, .ref (q_ad G o)), (3, .int (q_I pt))] (Nat.le_of_ble_eq_true rfl) rfl ?_
    have lp19_1 : ∀ (k19_1 : Nat) (i : Int) (m : Nat) (M1 : q_M), (q_pI M N2 M1 t p o pt i m) → m = k19_1 → q_Y G E 7 M1 [(0, .ref (q_ad G t)), (1, .ref (q_ad G p)), (2, .ref (q_ad G o)), (3, .int (q_I pt)), (4, .int (q_I i))] 19 [] := by
      intro k19_1
      induction k19_1 using Nat.strongRecOn with
      | _ k19_1 ih19_1 =>
        intro i m M1 hi19 hk19
        refine q_MRof (fun hM19 => ?_)
        have g0 : M1 p = M p := hi19.2.1 _ (by omega)
        have g1 : M1 (p + 1) = M (p + 1) := hi19.2.1 _ (by omega)
        have hpv3 : q_pv M1 p := by unfold q_pv; rw [g0, g1]; exact hpv
        have hi1 := hi19.1
        have hp60 : M1 p 1 = M p 1 := by rw [g0]
        have hac := hi19.2.2.2.2.1.2
        refine q_iload F dX6_play_19 4 rfl ?_
        refine q_aload_n F dX6_play_21 1 rfl ?_
        refine q_geti (T := TX3) (ref := "LeastHungry$Pad") F huX3 rfl hp.1 1 (by decide) (by decide +kernel) rfl 1 rfl rfl dX6_play_22 (fun h22 => ?_)
        refine q_icmp_ge F 117 dX6_play_25 (by decide) (by omega) (fun c25 => ?_) (fun c25 => ?_)
        · refine q_aload_n F dX6_play_117 0 rfl ?_
          refine q_geti (T := TX6) (ref := "LeastHungry$Trial") F huX6 rfl ht.1 7 (by decide) (by decide +kernel) rfl 7 rfl rfl dX6_play_118 (fun h118 => ?_)
          refine q_bipush F dX6_play_121 (by decide) ?_
          refine q_icmp_ne F 130 dX6_play_123 (by decide) (by omega) (fun c123 => ?_) (fun c123 => ?_)
          · refine q_iconst F dX6_play_130 ?_
            exact q_zret F FI dX6_play_131 (by first | exact q_b01 _ | omega) (by
      have hres := q_pI_exit hi19 (Or.inl (by omega))
      have hpl := q_play_of p2.2.2.2.1 hres
      refine ⟨false, rfl, hi19.2.1, hi19.2.2.2.1, hi19.2.2.1, fun h => absurd c11 h, fun _ => ⟨?_, hpl⟩⟩
      rw [← hpl.1]
      simp [c123])
          · refine q_iconst F dX6_play_126 ?_
            refine q_goto F 131 dX6_play_127 (by decide) ?_
            exact q_zret F FI dX6_play_131 (by first | exact q_b01 _ | omega) (by
      have hres := q_pI_exit hi19 (Or.inl (by omega))
      have hpl := q_play_of p2.2.2.2.1 hres
      refine ⟨true, rfl, hi19.2.1, hi19.2.2.2.1, hi19.2.2.1, fun h => absurd c11 h, fun _ => ⟨?_, hpl⟩⟩
      rw [← hpl.1]
      simp [c123])
        · have c25m : i < M p 1 := by omega
          refine q_aload_n F dX6_play_28 0 rfl ?_
          refine q_geti (T := TX6) (ref := "LeastHungry$Trial") F huX6 rfl ht.1 7 (by decide) (by decide +kernel) rfl 7 rfl rfl dX6_play_29 (fun h29 => ?_)
          refine q_bipush F dX6_play_32 (by decide) ?_
          refine q_icmp_ne F 117 dX6_play_34 (by decide) (by omega) (fun c34 => ?_) (fun c34 => ?_)
          · refine q_aload_n F dX6_play_117 0 rfl ?_
            refine q_geti (T := TX6) (ref := "LeastHungry$Trial") F huX6 rfl ht.1 7 (by decide) (by decide +kernel) rfl 7 rfl rfl dX6_play_118 (fun h118 => ?_)
            refine q_bipush F dX6_play_121 (by decide) ?_
            refine q_icmp_ne F 130 dX6_play_123 (by decide) (by omega) (fun c123 => ?_) (fun c123 => ?_)
            · refine q_iconst F dX6_play_130 ?_
              exact q_zret F FI dX6_play_131 (by first | exact q_b01 _ | omega) (by
      have hres := q_pI_exit hi19 (Or.inr c34)
      have hpl := q_play_of p2.2.2.2.1 hres
      refine ⟨false, rfl, hi19.2.1, hi19.2.2.2.1, hi19.2.2.1, fun h => absurd c11 h, fun _ => ⟨?_, hpl⟩⟩
      rw [← hpl.1]
      simp [c123])
            · refine q_iconst F dX6_play_126 ?_
              refine q_goto F 131 dX6_play_127 (by decide) ?_
              exact q_zret F FI dX6_play_131 (by first | exact q_b01 _ | omega) (by
      have hres := q_pI_exit hi19 (Or.inr c34)
      have hpl := q_play_of p2.2.2.2.1 hres
      refine ⟨true, rfl, hi19.2.1, hi19.2.2.2.1, hi19.2.2.1, fun h => absurd c11 h, fun _ => ⟨?_, hpl⟩⟩
      rw [← hpl.1]
      simp [c123])
          · refine q_aload_n F dX6_play_37 1 rfl ?_
            refine q_iload F dX6_play_38 4 rfl ?_
            refine q_callVP (n := 1) (T := TX3) F (c_X3_signAt G hI M1 p hp i (by assumption) (by omega)) rfl rfl hp.1 gX6_play_X3_signAt rfl ⟨by decide, by decide, by decide +kernel⟩ rfl ⟨rfl, rfl, Nat.le_of_ble_eq_true rfl, Nat.le_of_ble_eq_true rfl⟩ rfl (Nat.le_of_ble_eq_true rfl) dX6_play_40 (fun h40 => ?_)
            refine q_nm (fun v43 e43 => ?_)
            refine q_istore F dX6_play_43 [(5, .int (q_I v43)), (0, .ref (q_ad G t)), (1, .ref (q_ad G p)), (2, .ref (q_ad G o)), (3, .int (q_I pt)), (4, .int (q_I i))] (Nat.le_of_ble_eq_true rfl) rfl ?_
            have hA := q_pI_A hi19 c34
            have okf := q_flt_ok hA.2.1 hi19.1.1 c25m
            have esg : q_sg M1 p i = M1 (p + 1) i := by unfold q_sg; rw [g0, if_pos c25m]
            have hok : q_okS v43 (q_sg M1 p (i + 1)) := by rw [e43, esg]; exact q_okS_sg (by rw [g1]; exact okf.1) (by rw [g1, g0]; exact okf.2.1)
            refine q_aload_n F dX6_play_45 1 rfl ?_
            refine q_iload F dX6_play_46 0 rfl ?_
            refine q_aload_n F dX6_play_48 2 rfl ?_
            refine q_iload F dX6_play_49 5 rfl ?_
            refine q_iconst F dX6_play_51 ?_
            refine q_iadd F dX6_play_52 ?_
            refine q_callVP (n := 1) (T := TX3) F (c_X3_signAt G hI M1 p hp _ hpv3 (by omega)) rfl rfl hp.1 gX6_play_X3_signAt rfl ⟨by decide, by decide, by decide +kernel⟩ rfl ⟨rfl, rfl, Nat.le_of_ble_eq_true rfl, Nat.le_of_ble_eq_true rfl⟩ rfl (Nat.le_of_ble_eq_true rfl) dX6_play_53 (fun h53 => ?_)
            refine q_iload_n F dX6_play_56 4 rfl ?_
            refine q_callVI (n := 3) (T := TX6) F (c_X6_act G hI M1 t ht v43 _ pt hi19.2.2.2.1 i hi19.2.2.2.2.1.1 (by omega) hok (by have := q_sg_R hpv3 i hi19.1.1; have := q_sg_R hpv3 (i + 1) (by have := hi19.1.1; omega); rw [e43]; exact ⟨hpt, by assumption, by assumption⟩)) rfl rfl ht.1 gX6_play_X6_act rfl ⟨by decide, by decide, by decide +kernel⟩ rfl ⟨rfl, rfl, Nat.le_of_ble_eq_true rfl, Nat.le_of_ble_eq_true rfl⟩ rfl (Nat.le_of_ble_eq_true rfl) dX6_play_57 (fun r57 N57 h57 p57 => ?_)
            have ac57 : N57 t 5 = M1 t 5 := p57.1.2.2.2.1
            refine q_istore F dX6_play_60 [(6, .int (q_I r57)), (5, .int (q_I v43)), (0, .ref (q_ad G t)), (1, .ref (q_ad G p)), (2, .ref (q_ad G o)), (3, .int (q_I pt)), (4, .int (q_I i))] (Nat.le_of_ble_eq_true rfl) rfl ?_
            refine q_iload F dX6_play_62 6 rfl ?_
            refine q_iload F dX6_play_64 1 rfl ?_
            refine q_bipush F dX6_play_66 (by decide) ?_
            refine q_icmp_ne F 75 dX6_play_68 (by decide) (by omega) (fun c68 => ?_) (fun c68 => ?_)
            · refine q_iconst F dX6_play_75 ?_
              refine q_iadd F dX6_play_76 ?_
              refine q_nm (fun v77 e77 => ?_)
              refine q_istore F dX6_play_77 [(4, .int (q_I v77)), (6, .int (q_I r57)), (5, .int (q_I v43)), (0, .ref (q_ad G t)), (1, .ref (q_ad G p)), (2, .ref (q_ad G o)), (3, .int (q_I pt))] (Nat.le_of_ble_eq_true rfl) rfl ?_
              refine q_iload F dX6_play_79 1 rfl ?_
              refine q_if_ne F 97 dX6_play_81 (by decide) (by omega) (fun c81 => ?_) (fun c81 => ?_)
              · refine q_aload_n F dX6_play_97 3 rfl ?_
                refine q_aload_n F dX6_play_98 3 rfl ?_
                refine q_geti (T := TX6) (ref := "LeastHungry$Trial") F huX6 rfl ht.1 5 (by decide) (by decide +kernel) rfl 5 rfl rfl dX6_play_99 (fun h99 => ?_)
                refine q_puti (T := TX6) (ref := "LeastHungry$Trial") F huX6 rfl ht.1 7 (by decide) (by decide +kernel) rfl 7 rfl tyX6 tyX6_ok nmX6 rfl rfl (by decide +kernel) (by omega) dX6_play_102 (fun N102 eN102 => ?_)
                refine q_aload_n F dX6_play_105 3 rfl ?_
                refine q_iload F dX6_play_106 1 rfl ?_
                refine q_puti (T := TX6) (ref := "LeastHungry$Trial") F huX6 rfl ht.1 8 (by decide) (by decide +kernel) rfl 8 rfl tyX6 tyX6_ok nmX6 rfl rfl (by decide +kernel) (by omega) dX6_play_108 (fun N108 eN108 => ?_)
                obtain ⟨v111, e111⟩ : ∃ z_ : Int, z_ = v77 + 1 := ⟨_, rfl⟩
                refine q_iinc F dX6_play_111 0 rfl e111 [(4, .int (q_I v111)), (6, .int (q_I r57)), (5, .int (q_I v43)), (0, .ref (q_ad G t)), (1, .ref (q_ad G p)), (2, .ref (q_ad G o)), (3, .int (q_I pt))] (Nat.le_of_ble_eq_true rfl) rfl ?_
                refine q_goto F 19 dX6_play_114 (by decide) ?_
                refine q_drop [3, 4, 5, 6, 0] rfl ?_
                have hact := q_pI_act (r := r57) hi19 c34 c25m hpt hd.2 p57.1 (by rw [← e43]; exact p57.2.1) (by rw [← e43]; exact p57.2.2)
                exact ih19_1 _ (by omega) v111 (m - 1) N108 (q_pI_fail hi19 c34 c25m (by omega) p57.1 hact c81 (by rw [eN108, eN102]) (by rw [← g1, ← esg, ← e43, if_neg c68]; omega)) rfl
              · refine q_aload_n F dX6_play_84 3 rfl ?_
                refine q_dup F dX6_play_85 rfl ?_
                refine q_geti (T := TX6) (ref := "LeastHungry$Trial") F huX6 rfl ht.1 5 (by decide) (by decide +kernel) rfl 5 rfl rfl dX6_play_86 (fun h86 => ?_)
                refine q_iconst F dX6_play_89 ?_
                refine q_iadd F dX6_play_90 ?_
                refine q_puti (T := TX6) (ref := "LeastHungry$Trial") F huX6 rfl ht.1 5 (by decide) (by decide +kernel) rfl 5 rfl tyX6 tyX6_ok nmX6 rfl rfl (by decide +kernel) (by omega) dX6_play_91 (fun N91 eN91 => ?_)
                refine q_goto F 111 dX6_play_94 (by decide) ?_
                obtain ⟨v111, e111⟩ : ∃ z_ : Int, z_ = v77 + 1 := ⟨_, rfl⟩
                refine q_iinc F dX6_play_111 0 rfl e111 [(4, .int (q_I v111)), (6, .int (q_I r57)), (5, .int (q_I v43)), (0, .ref (q_ad G t)), (1, .ref (q_ad G p)), (2, .ref (q_ad G o)), (3, .int (q_I pt))] (Nat.le_of_ble_eq_true rfl) rfl ?_
                refine q_goto F 19 dX6_play_114 (by decide) ?_
                refine q_drop [3, 4, 5, 6, 0] rfl ?_
                have hact := q_pI_act (r := r57) hi19 c34 c25m hpt hd.2 p57.1 (by rw [← e43]; exact p57.2.1) (by rw [← e43]; exact p57.2.2)
                exact ih19_1 _ (by omega) v111 (m - 1) N91 (q_pI_succ hi19 c34 c25m (by omega) p57.1 hact c81 eN91 (by rw [← g1, ← esg, ← e43, if_neg c68]; omega)) rfl
            · refine q_iconst F dX6_play_71 ?_
              refine q_goto F 76 dX6_play_72 (by decide) ?_
              refine q_iadd F dX6_play_76 ?_
              refine q_nm (fun v77 e77 => ?_)
              refine q_istore F dX6_play_77 [(4, .int (q_I v77)), (6, .int (q_I r57)), (5, .int (q_I v43)), (0, .ref (q_ad G t)), (1, .ref (q_ad G p)), (2, .ref (q_ad G o)), (3, .int (q_I pt))] (Nat.le_of_ble_eq_true rfl) rfl ?_
              refine q_iload F dX6_play_79 1 rfl ?_
              refine q_if_ne F 97 dX6_play_81 (by decide) (by omega) (fun c81 => ?_) (fun c81 => ?_)
              · refine q_aload_n F dX6_play_97 3 rfl ?_
                refine q_aload_n F dX6_play_98 3 rfl ?_
                refine q_geti (T := TX6) (ref := "LeastHungry$Trial") F huX6 rfl ht.1 5 (by decide) (by decide +kernel) rfl 5 rfl rfl dX6_play_99 (fun h99 => ?_)
                refine q_puti (T := TX6) (ref := "LeastHungry$Trial") F huX6 rfl ht.1 7 (by decide) (by decide +kernel) rfl 7 rfl tyX6 tyX6_ok nmX6 rfl rfl (by decide +kernel) (by omega) dX6_play_102 (fun N102 eN102 => ?_)
                refine q_aload_n F dX6_play_105 3 rfl ?_
                refine q_iload F dX6_play_106 1 rfl ?_
                refine q_puti (T := TX6) (ref := "LeastHungry$Trial") F huX6 rfl ht.1 8 (by decide) (by decide +kernel) rfl 8 rfl tyX6 tyX6_ok nmX6 rfl rfl (by decide +kernel) (by omega) dX6_play_108 (fun N108 eN108 => ?_)
                obtain ⟨v111, e111⟩ : ∃ z_ : Int, z_ = v77 + 1 := ⟨_, rfl⟩
                refine q_iinc F dX6_play_111 0 rfl e111 [(4, .int (q_I v111)), (6, .int (q_I r57)), (5, .int (q_I v43)), (0, .ref (q_ad G t)), (1, .ref (q_ad G p)), (2, .ref (q_ad G o)), (3, .int (q_I pt))] (Nat.le_of_ble_eq_true rfl) rfl ?_
                refine q_goto F 19 dX6_play_114 (by decide) ?_
                refine q_drop [3, 4, 5, 6, 0] rfl ?_
                have hact := q_pI_act (r := r57) hi19 c34 c25m hpt hd.2 p57.1 (by rw [← e43]; exact p57.2.1) (by rw [← e43]; exact p57.2.2)
                exact ih19_1 _ (by omega) v111 (m - 1) N108 (q_pI_fail hi19 c34 c25m (by omega) p57.1 hact c81 (by rw [eN108, eN102]) (by rw [← g1, ← esg, ← e43, if_pos c68]; omega)) rfl
              · refine q_aload_n F dX6_play_84 3 rfl ?_
                refine q_dup F dX6_play_85 rfl ?_
                refine q_geti (T := TX6) (ref := "LeastHungry$Trial") F huX6 rfl ht.1 5 (by decide) (by decide +kernel) rfl 5 rfl rfl dX6_play_86 (fun h86 => ?_)
                refine q_iconst F dX6_play_89 ?_
                refine q_iadd F dX6_play_90 ?_
                refine q_puti (T := TX6) (ref := "LeastHungry$Trial") F huX6 rfl ht.1 5 (by decide) (by decide +kernel) rfl 5 rfl tyX6 tyX6_ok nmX6 rfl rfl (by decide +kernel) (by omega) dX6_play_91 (fun N91 eN91 => ?_)
                refine q_goto F 111 dX6_play_94 (by decide) ?_
                obtain ⟨v111, e111⟩ : ∃ z_ : Int, z_ = v77 + 1 := ⟨_, rfl⟩
                refine q_iinc F dX6_play_111 0 rfl e111 [(4, .int (q_I v111)), (6, .int (q_I r57)), (5, .int (q_I v43)), (0, .ref (q_ad G t)), (1, .ref (q_ad G p)), (2, .ref (q_ad G o)), (3, .int (q_I pt))] (Nat.le_of_ble_eq_true rfl) rfl ?_
                refine q_goto F 19 dX6_play_114 (by decide) ?_
                refine q_drop [3, 4, 5, 6, 0] rfl ?_
                have hact := q_pI_act (r := r57) hi19 c34 c25m hpt hd.2 p57.1 (by rw [← e43]; exact p57.2.1) (by rw [← e43]; exact p57.2.2)
                exact ih19_1 _ (by omega) v111 (m - 1) N91 (q_pI_succ hi19 c34 c25m (by omega) p57.1 hact c81 eN91 (by rw [← g1, ← esg, ← e43, if_pos c68]; omega)) rfl
    refine q_drop [1, 2, 3, 4, 0] rfl ?_
    exact lp19_1 _ 0 (60) N2 ⟨by omega, p2.1, p2.2.1, p2.2.2.1, ⟨p2.2.2.2.2.1, by rw [p2.2.2.2.2.2.1]; omega⟩, Or.inl ⟨p2.2.2.2.2.2.2.1, p2.2.2.2.2.2.2.2, c11, rfl⟩⟩ rfl
  · refine q_iconst F dX6_play_14 ?_
    exact q_zret F FI dX6_play_15 (by first | exact q_b01 _ | omega) ⟨false, rfl, fun j hj => p2.1 j hj, p2.2.2.1, p2.2.1, fun _ => rfl, fun h => absurd h c11⟩
