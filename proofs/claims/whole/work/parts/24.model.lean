/-! the reference's faults and nights -/
def q_fI (pad : Int → Int) (n FL : Int) (m : Nat) (k st : Int) : Prop := (st = 0 ∧ FL = q_flt pad n m k) ∨ ((st = 1 ∨ st = 2) ∧ (q_house (pad (k - 1)) = true ↔ st = 1) ∧ FL = if k < n ∧ q_foll (pad (k - 1)) (pad k) = true then q_flt pad n m (k + 1) else k)
theorem q_fI_dot {pad : Int → Int} {n FL k st : Int} {m : Nat} (h : q_fI pad n FL (m + 1) k st) (hs : st = 0) (hk : k < n) (hp : pad k = 46) : q_fI pad n FL m (k + 1) 0 := by
  rcases h with h | h
  · rw [q_flt_u, if_neg (by omega), if_pos hp] at h
    exact Or.inl ⟨rfl, h.2⟩
  · omega
theorem q_fI_ho {pad : Int → Int} {n FL k st : Int} {m : Nat} (h : q_fI pad n FL (m + 1) k st) (hs : st = 0) (hk : k < n) (hp : 97 ≤ pad k ∧ pad k ≤ 99) : q_fI pad n FL m (k + 1) 1 := by
  have hh : q_house (pad k) = true := by
    unfold q_house
    simp
    omega
  rcases h with h | h
  · rw [q_flt_u, if_neg (by omega), if_neg (by omega), if_neg (by simp [hh])] at h
    refine Or.inr ⟨Or.inl rfl, ?_, ?_⟩
    · rw [show k + 1 - 1 = k by omega]
      simp [hh]
    · rw [show k + 1 - 1 = k by omega, show k + 1 + 1 = k + 2 by omega]
      exact h.2
  · omega
theorem q_fI_gu {pad : Int → Int} {n FL k st : Int} {m : Nat} (h : q_fI pad n FL (m + 1) k st) (hs : st = 0) (hk : k < n) (hp : 65 ≤ pad k ∧ pad k ≤ 70) : q_fI pad n FL m (k + 1) 2 := by
  have hh : q_house (pad k) = false := by
    unfold q_house
    simp
    omega
  have hg : q_guest (pad k) = true := by
    unfold q_guest
    simp
    omega
  rcases h with h | h
  · rw [q_flt_u, if_neg (by omega), if_neg (by omega), if_neg (by simp [hg])] at h
    refine Or.inr ⟨Or.inr rfl, ?_, ?_⟩
    · rw [show k + 1 - 1 = k by omega]
      simp [hh]
    · rw [show k + 1 - 1 = k by omega, show k + 1 + 1 = k + 2 by omega]
      exact h.2
  · omega
theorem q_fI_no {pad : Int → Int} {n FL k st : Int} {m : Nat} (h : q_fI pad n FL (m + 1) k st) (hs : st = 0) (hk : k < n) (h1 : ¬ pad k = 46) (h2 : ¬ (97 ≤ pad k ∧ pad k ≤ 99)) (h3 : ¬ (65 ≤ pad k ∧ pad k ≤ 70)) : k = FL := by
  have hh : q_house (pad k) = false := by
    unfold q_house
    simp
    omega
  have hg : q_guest (pad k) = false := by
    unfold q_guest
    simp
    omega
  rcases h with h | h
  · rw [q_flt_u, if_neg (by omega), if_neg h1, if_pos ⟨hh, hg⟩] at h
    exact h.2.symm
  · omega
theorem q_fI_1 {pad : Int → Int} {n FL k st : Int} {m : Nat} (h : q_fI pad n FL m k st) (hs : st = 1) (hk : k < n) : (49 ≤ pad k ∧ pad k ≤ 57 → q_fI pad n FL m (k + 1) 0) ∧ (¬ (49 ≤ pad k ∧ pad k ≤ 57) → k = FL) := by
  rcases h with h | h
  · omega
  · obtain ⟨-, h1, h2⟩ := h
    have hh := h1.mpr hs
    unfold q_foll at h2
    rw [if_pos hh] at h2
    refine ⟨fun hp => Or.inl ⟨rfl, ?_⟩, fun hp => ?_⟩
    · rw [if_pos ⟨hk, by simp [hp]⟩] at h2
      exact h2
    · rw [if_neg (fun q => hp (of_decide_eq_true q.2))] at h2
      exact h2.symm
theorem q_fI_2 {pad : Int → Int} {n FL k st : Int} {m : Nat} (h : q_fI pad n FL m k st) (hs0 : ¬ st = 0) (hs : ¬ st = 1) (hk : k < n) : (((97 ≤ pad k ∧ pad k ≤ 99) ∨ (48 ≤ pad k ∧ pad k ≤ 57)) → q_fI pad n FL m (k + 1) 0) ∧ (¬ ((97 ≤ pad k ∧ pad k ≤ 99) ∨ (48 ≤ pad k ∧ pad k ≤ 57)) → k = FL) := by
  rcases h with h | h
  · omega
  · obtain ⟨-, h1, h2⟩ := h
    have hh : q_house (pad (k - 1)) = false := by
      cases hq : q_house (pad (k - 1))
      · rfl
      · exact absurd (h1.mp hq) hs
    have hf : q_foll (pad (k - 1)) (pad k) = (q_house (pad k) || decide (48 ≤ pad k ∧ pad k ≤ 57)) := by
      unfold q_foll
      rw [if_neg (by simp [hh])]
    have e : (q_house (pad k) || decide (48 ≤ pad k ∧ pad k ≤ 57)) = decide ((97 ≤ pad k ∧ pad k ≤ 99) ∨ (48 ≤ pad k ∧ pad k ≤ 57)) := by
      unfold q_house
      rw [← Bool.decide_or]
      exact decide_eq_decide.mpr (by omega)
    rw [hf, e] at h2
    refine ⟨fun hp => Or.inl ⟨rfl, ?_⟩, fun hp => ?_⟩
    · rw [if_pos ⟨hk, by simp [hp]⟩] at h2
      exact h2
    · rw [if_neg (fun q => hp (of_decide_eq_true q.2))] at h2
      exact h2.symm
theorem q_fI_e0 {pad : Int → Int} {n FL k st : Int} {m : Nat} (h : q_fI pad n FL m k st) (hs : st = 0) (hk : n ≤ k) : FL = -6 := by
  rcases h with h | h
  · obtain ⟨-, h⟩ := h
    cases m with
    | zero => exact h
    | succ m =>
      rw [q_flt_u, if_pos hk] at h
      exact h
  · omega
theorem q_fI_e1 {pad : Int → Int} {n FL k st : Int} {m : Nat} (h : q_fI pad n FL m k st) (hs : ¬ st = 0) (hk : n ≤ k) : FL = k := by
  rcases h with h | h
  · omega
  · have h2 := h.2.2
    rw [if_neg (by omega)] at h2
    exact h2
def q_an (M M' : q_M) : Prop := (∀ j, (j < 7 ∨ 11 < j) → M' j = M j) ∧ ∀ x, 0 ≤ x → x < 6 → (M' 7 x = M 1 x ∧ M' 8 x = M 2 x ∧ M' 9 x = M 3 x) ∧ M' 10 x = 0 ∧ M' 11 x = 0
theorem q_an_kz {M M' : q_M} (h : q_an M M') : q_kz M M' :=
  ⟨fun j hj => h.1 j (by omega), by rw [h.1 0 (by omega)], by rw [h.1 0 (by omega)], by rw [h.1 0 (by omega)], by rw [h.1 0 (by omega)]⟩
theorem q_an_zv {M M' : q_M} (h : q_an M M') (z : q_Z M) : q_zv M' := by
  refine ⟨q_z0_kz z.1 (q_an_kz h), fun x h0 h1 => ?_, fun x h0 h1 => ?_, fun x h0 h1 => ?_⟩
  · rw [(h.2 x h0 h1).1.1]; exact z.2.1.1 x h0 h1
  · rw [(h.2 x h0 h1).1.2.1]; exact z.2.1.2.1 x h0 h1
  · rw [(h.2 x h0 h1).1.2.2]; exact z.2.1.2.2 x h0 h1
theorem q_an_ag {M M' : q_M} (h : q_an M M') : q_agR (M' 7) (M' 8) (M' 9) (M 1) (M 2) (M 3) := fun x h0 h1 => (h.2 x h0 h1).1
/-- a model's dish is a dish; the first that nobody touches is told elsewhere -/
def q_su (s : q_T) (u : Int) : q_T := (qt_h s, qt_f s, qt_a s, qt_p s, qt_c s, qt_l s, qt_k s, u)
def q_gI (M Mb M1 : q_M) (own k : Int) (m : Nat) : Prop :=
  (0 ≤ k ∧ k ≤ M 0 8 ∧ M 0 8 - k ≤ m) ∧ q_kz M M1 ∧ q_zv M1 ∧ (q_Tb (q_v9 M1) k ∧ 0 ≤ M1 0 17 ∧ M1 0 17 ≤ k) ∧ (M1 0 18 = -6 ∨ 0 ≤ M1 0 18) ∧
  q_flt (M 6) (M 0 8) (m + 1) k = -6 ∧ q_run (q_hrT (M 0 0)) (M 0 0) (M 0 4) (M 6) (M 0 8) own (m + 1) k (q_v9 M1) = q_run (q_hrT (M 0 0)) (M 0 0) (M 0 4) (M 6) (M 0 8) own 61 0 (q_v9 Mb)
theorem q_v9_ne {M : q_M} {i v : Int} (h : i ≠ 15 ∧ i ≠ 17 ∧ i ≠ 18) : q_v9 (q_up M 0 i v) = q_v9 M := by
  unfold q_v9
  rw [q_up_ne (by omega), q_up_ne (by omega), q_up_ne (by omega), q_up_ne (by omega), q_up_ne (by omega), q_up_at, if_neg (by omega), q_up_at, if_neg (by omega), q_up_at, if_neg (by omega)]
theorem q_v9_tick {M : q_M} : q_v9 (q_up M 0 17 (M 0 17 + 1)) = q_tick (q_v9 M) := by
  unfold q_v9 q_tick qt_h qt_f qt_a qt_p qt_c qt_l qt_k qt_u
  rw [q_up_ne (by omega), q_up_ne (by omega), q_up_ne (by omega), q_up_ne (by omega), q_up_ne (by omega), q_up_at, if_neg (by omega), q_up_at, if_pos rfl, q_up_at, if_neg (by omega)]
theorem q_gI_s {M Mb M1 N N' : q_M} {own k k' : Int} {m : Nat} (h : q_gI M Mb M1 own k m) (hk : k < M 0 8) (hm : M 0 8 ≤ 60) (ho : 0 ≤ own ∧ own ≤ 9) (kp : q_kz M1 N)
    (h0 : (q_act (q_hrT (M 0 0)) (M 0 0) (M 0 4) (q_v9 M1) (M 6 k) (M 6 (k + 1)) own).1 = 0) (hN : q_v9 N = (q_act (q_hrT (M 0 0)) (M 0 0) (M 0 4) (q_v9 M1) (M 6 k) (M 6 (k + 1)) own).2) (hu : N 0 18 = -6 ∨ 0 ≤ N 0 18) (h17 : N 0 17 = M1 0 17)
    (e : N' = q_up N 0 17 (N 0 17 + 1)) (hk' : k' = if M 6 k = 46 then k + 1 else k + 2) : q_gI M Mb N' own k' (m - 1) := by
  obtain ⟨⟨k0, kn, km⟩, kz, zv, ⟨tb, a0, a1⟩, -, fl, rn⟩ := h
  have ok := q_flt_ok fl k0 hk
  have ok2 := ok.2.1
  have hle : k + 1 ≤ k' ∧ k' ≤ k + 2 ∧ (k' = k + 1 ∨ k' = k + 2) ∧ k' ≤ M 0 8 := by
    rw [hk']
    by_cases h46 : M 6 k = 46
    · rw [if_pos h46]; omega
    · rw [if_neg h46]; have := ok2 h46; omega
  have hm1 : m - 1 + 1 = m := by omega
  have vb := q_act_vb (hr := q_hrT (M 0 0)) (th := M 0 0) (ke := M 0 4) (fun h hh => q_hrT_v hh) ok.1 ho (K := k) (s := q_v9 M1) zv.2 tb k0
  rw [← hN] at vb
  subst e
  have kN : q_kz M1 (q_up N 0 17 (N 0 17 + 1)) := q_kz_tr kp (q_kz_u0 (by omega))
  refine ⟨⟨by omega, by omega, by omega⟩, q_kz_tr kz kN, ⟨q_z0_kz zv.1 kN, ?_⟩, ⟨?_, ?_⟩, ?_, ?_, ?_⟩
  · have := vb.1
    rw [q_up_ne (by omega), q_up_ne (by omega), q_up_ne (by omega)]
    exact this
  · rw [q_v9_tick]
    exact q_Tb_mono (s := q_tick (q_v9 N)) vb.2 (by omega)
  · rw [q_up_at, if_pos rfl, h17]
    omega
  · rw [q_up_at, if_neg (by decide)]
    exact hu
  · rw [hm1, hk']
    exact ok.2.2
  · rw [← rn, hm1, q_v9_tick, hN, hk']
    rw [q_run_u (q_hrT (M 0 0)) (M 0 0) (M 0 4) (M 6) (M 0 8) own m k (q_v9 M1), if_neg (show ¬ M 0 8 ≤ k by omega), if_pos h0]
theorem q_gI_fail {M Mb M1 : q_M} {own k r : Int} {m : Nat} {s : q_T} (h : q_gI M Mb M1 own k m) (hk : k < M 0 8) (hr : ¬ r = 0)
    (h0 : q_act (q_hrT (M 0 0)) (M 0 0) (M 0 4) (q_v9 M1) (M 6 k) (M 6 (k + 1)) own = (r, s)) : q_run (q_hrT (M 0 0)) (M 0 0) (M 0 4) (M 6) (M 0 8) own 61 0 (q_v9 Mb) = (M1 0 17, r, s) := by
  obtain ⟨-, -, -, -, -, -, rn⟩ := h
  rw [← rn, q_run_u, if_neg (by omega), h0, if_neg hr]
  rfl
theorem q_gI_end {M Mb M1 : q_M} {own k : Int} {m : Nat} (h : q_gI M Mb M1 own k m) (hk : M 0 8 ≤ k) : q_run (q_hrT (M 0 0)) (M 0 0) (M 0 4) (M 6) (M 0 8) own 61 0 (q_v9 Mb) = (-6, -6, q_v9 M1) := by
  obtain ⟨-, -, -, -, -, -, rn⟩ := h
  rw [← rn, q_run_u, if_pos hk]
theorem q_gI_ok {M Mb M1 : q_M} {own k : Int} {m : Nat} (h : q_gI M Mb M1 own k m) (hk : k < M 0 8) : q_okS (M 6 k) (M 6 (k + 1)) ∧ (¬ M 6 k = 46 → k + 1 < M 0 8) := by
  obtain ⟨⟨k0, -, -⟩, -, -, -, -, fl, -⟩ := h
  have ok := q_flt_ok fl k0 hk
  exact ⟨ok.1, ok.2.1⟩
theorem q_sel_0 {m : Int → Int} {P : Int → Bool} : q_set (q_sel m P 0) = 0 := by
  have h : q_cnt (q_sel m P ((0 : Nat) : Int)) ≤ ((0 : Nat) : Int) := q_sel_cnt 0
  have e : q_set (q_sel m P 0) = q_set (fun _ => false) := q_set_congr (fun x x0 x1 => by
    unfold q_sel
    have := q_cnt_R (fun y => P y && q_ahd m y x)
    rw [← q_rk_ahd] at this
    have h : ¬ q_rk m P x < 0 := by omega
    simp [h])
  rw [e]
  decide
theorem q_TK_0 {th ke pl p : Int} {s : q_T} : q_cnt (q_has (q_TK th ke s pl p)) = 0 ↔ q_TK th ke s pl p = 0 := q_cnt_0s (q_set_R _)
theorem q_NI_of {M Mb : q_M} {own : Int} (hs : q_sim (M 0 0) (q_v9 Mb) (q_T0 (M 1) (M 2) (M 3))) :
    (q_run (q_hrT (M 0 0)) (M 0 0) (M 0 4) (M 6) (M 0 8) own 61 0 (q_v9 Mb)).1 = (q_NI (M 0 0) (M 0 4) (M 6) (M 0 8) own (M 1) (M 2) (M 3)).1 ∧ (q_run (q_hrT (M 0 0)) (M 0 0) (M 0 4) (M 6) (M 0 8) own 61 0 (q_v9 Mb)).2.1 = (q_NI (M 0 0) (M 0 4) (M 6) (M 0 8) own (M 1) (M 2) (M 3)).2.1 ∧ q_sim (M 0 0) (q_run (q_hrT (M 0 0)) (M 0 0) (M 0 4) (M 6) (M 0 8) own 61 0 (q_v9 Mb)).2.2 (q_NI (M 0 0) (M 0 4) (M 6) (M 0 8) own (M 1) (M 2) (M 3)).2.2 :=
  q_run_sim (ke := M 0 4) (pad := M 6) (n := M 0 8) (pt := own) q_hrT_ok q_hrT_ok 61 0 _ _ hs
theorem q_t9_R {h f : Int → Int} {ru g : Int} (hh : 0 ≤ h g ∧ h g ≤ 20) (hf : 0 ≤ f g ∧ f g ≤ 9) : 0 ≤ q_t9 h f ru g ∧ q_t9 h f ru g ≤ 20 := by
  unfold q_t9 q_shn
  split
  · omega
  · split <;> omega
theorem q_c9_no {h f a : Int → Int} {th ke ru pl g : Int} (hP : q_c9 h f a th ke ru pl g = true) (hc : (decide (ru = 0) && (decide (0 < h g) && q_fo h f ke g)) = true) : False := by
  unfold q_c9 at hP
  cases h1 : decide (ru = 0) <;> cases h2 : q_fo h f ke g <;> simp [h1, h2] at hP hc
theorem q_c9_yes {h f a : Int → Int} {th ke ru pl g : Int} (h1 : q_ins a th pl g = true) (h2 : 0 < h g) (hc : (decide (ru = 0) && (decide (0 < h g) && q_fo h f ke g)) = false) : q_c9 h f a th ke ru pl g = true := by
  unfold q_c9 q_hun
  rw [decide_eq_true h2] at hc ⊢
  rw [h1]
  cases h3 : decide (ru = 0) <;> cases h4 : q_fo h f ke g <;> simp [h3, h4] at hc ⊢
theorem q_c9_rk {m : Int → Int} {P : Int → Bool} {k g : Int} (hP : P g = true) (hc : q_sel m P k g = false) : k ≤ q_rk m P g := by
  unfold q_sel at hc
  rw [hP] at hc
  simp only [Bool.true_and, decide_eq_false_iff_not] at hc
  omega
set_option maxHeartbeats 4000000 in
set_option maxRecDepth 100000 in
theorem c_X9_faultOf (G : q_G) (hI : q_inj G) (M : q_M) (hm : q_mo G) (hS : 0 ≤ M 0 8 ∧ M 0 8 ≤ 60) : q_CI G yX9_faultOf wsX9_faultOf ({ frames := 1, cells := 0, slots := 0, locals := 22 } : Room) [.ref (q_ad G 0)] M (fun z M' => z = q_flt (M 6) (M 0 8) 61 0 ∧ M' = M) := by
  refine q_CI.of hI (by decide) rfl RX9 rfl [(0, .ref (q_ad G 0))] rfl (Nat.le_of_ble_eq_true rfl) (fun E F FI => ?_)
  have huX9 : ∀ w ∈ wsX90, w ∈ wsX9_faultOf := by decide +kernel
  refine q_MRof (fun hM => ?_)
  refine q_iconst F dX9_faultOf_0 ?_
  refine q_istore_n F dX9_faultOf_1 [(1, .int (q_I 0)), (0, .ref (q_ad G 0))] (Nat.le_of_ble_eq_true rfl) rfl ?_
  refine q_iconst F dX9_faultOf_2 ?_
  refine q_istore_n F dX9_faultOf_3 [(2, .int (q_I 0)), (1, .int (q_I 0)), (0, .ref (q_ad G 0))] (Nat.le_of_ble_eq_true rfl) rfl ?_
  have lp4_1 : ∀ (k4_1 : Nat) (st : Int) (k : Int) (m : Nat), ((0 ≤ k ∧ k ≤ M 0 8) ∧ 61 - k ≤ (m : Int) ∧ q_fI (M 6) (M 0 8) (q_flt (M 6) (M 0 8) 61 0) m k st) → (M 0 8 - k).toNat = k4_1 → q_Y G E 7 M [(0, .ref (q_ad G 0)), (1, .int (q_I st)), (2, .int (q_I k))] 4 [] := by
    intro k4_1
    induction k4_1 using Nat.strongRecOn with
    | _ k4_1 ih4_1 =>
      intro st k m  hi4 hk4
      have hst : st = 0 ∨ st = 1 ∨ st = 2 := by
        rcases hi4.2.2 with h | h <;> omega
      have hm1 : q_fI (M 6) (M 0 8) (q_flt (M 6) (M 0 8) 61 0) (m - 1 + 1) k st := by
        rw [show m - 1 + 1 = m by omega]
        exact hi4.2.2
      refine q_iload_n F dX9_faultOf_4 2 rfl ?_
      refine q_aload_n F dX9_faultOf_5 0 rfl ?_
      refine q_geti (T := TX9) (ref := "LeastHungryModel") F huX9 rfl hm.1 8 (by decide) (by decide +kernel) rfl 8 rfl rfl dX9_faultOf_6 (fun h6 => ?_)
      refine q_icmp_ge F 147 dX9_faultOf_9 (by decide) (by omega) (fun c9 => ?_) (fun c9 => ?_)
      · refine q_iload_n F dX9_faultOf_147 1 rfl ?_
        refine q_if_ne F 156 dX9_faultOf_148 (by decide) (by omega) (fun c148 => ?_) (fun c148 => ?_)
        · refine q_aload_n F dX9_faultOf_156 0 rfl ?_
          refine q_geti (T := TX9) (ref := "LeastHungryModel") F huX9 rfl hm.1 8 (by decide) (by decide +kernel) rfl 8 rfl rfl dX9_faultOf_157 (fun h157 => ?_)
          exact q_iret F FI dX9_faultOf_160 (by omega) ⟨by rw [q_fI_e1 hi4.2.2 c148 (by omega)]; omega, rfl⟩
        · refine q_bipush F dX9_faultOf_151 (by decide) ?_
          refine q_goto F 160 dX9_faultOf_153 (by decide) ?_
          exact q_iret F FI dX9_faultOf_160 (by omega) ⟨by rw [q_fI_e0 hi4.2.2 c148 (by omega)], rfl⟩
      · refine q_aload_n F dX9_faultOf_12 0 rfl ?_
        refine q_getr (T := TX9) (ref := "LeastHungryModel") F huX9 rfl hm.1 9 (by decide) (by decide +kernel) rfl rfl dX9_faultOf_13 ?_
        refine q_iload_n F dX9_faultOf_16 2 rfl ?_
        refine q_iald F hm.2.2.2.2.2.2.1 (Nat.le_of_ble_eq_true rfl) (by omega) dX9_faultOf_17 (fun h17 => ?_)
        refine q_nm (fun v18 e18 => ?_)
        refine q_istore_n F dX9_faultOf_18 [(3, .int (q_I v18)), (0, .ref (q_ad G 0)), (1, .int (q_I st)), (2, .int (q_I k))] (Nat.le_of_ble_eq_true rfl) rfl ?_
        refine q_iload_n F dX9_faultOf_19 0 rfl ?_
        refine q_bipush F dX9_faultOf_20 (by decide) ?_
        refine q_bipush F dX9_faultOf_22 (by decide) ?_
        refine q_callSP (n := 3) F (c_X9_in G hI M v18 97 99 (by omega)) rfl gX9_faultOf_X9_in ⟨by decide, by decide, by decide +kernel⟩ rfl ⟨rfl, rfl, Nat.le_of_ble_eq_true rfl, Nat.le_of_ble_eq_true rfl⟩ rfl (Nat.le_of_ble_eq_true rfl) dX9_faultOf_24 (fun h24 => ?_)
        refine q_nm (fun v27 e27 => ?_)
        refine q_istore F dX9_faultOf_27 [(4, .int (q_I v27)), (3, .int (q_I v18)), (0, .ref (q_ad G 0)), (1, .int (q_I st)), (2, .int (q_I k))] (Nat.le_of_ble_eq_true rfl) rfl ?_
        have f27 : (v27 = 1 ∧ 97 ≤ v18 ∧ v18 ≤ 99) ∨ (v27 = 0 ∧ ¬ (97 ≤ v18 ∧ v18 ≤ 99)) := by
          rw [e27]
          by_cases hq : 97 ≤ v18 ∧ v18 ≤ 99
          · exact Or.inl ⟨q_b_t hq, hq⟩
          · exact Or.inr ⟨q_b_f hq, hq⟩
        refine q_iload_n F dX9_faultOf_29 1 rfl ?_
        refine q_bipush F dX9_faultOf_30 (by decide) ?_
        refine q_bipush F dX9_faultOf_32 (by decide) ?_
        refine q_callSP (n := 3) F (c_X9_in G hI M v18 65 70 (by omega)) rfl gX9_faultOf_X9_in ⟨by decide, by decide, by decide +kernel⟩ rfl ⟨rfl, rfl, Nat.le_of_ble_eq_true rfl, Nat.le_of_ble_eq_true rfl⟩ rfl (Nat.le_of_ble_eq_true rfl) dX9_faultOf_34 (fun h34 => ?_)
        refine q_nm (fun v37 e37 => ?_)
        refine q_istore F dX9_faultOf_37 [(5, .int (q_I v37)), (4, .int (q_I v27)), (3, .int (q_I v18)), (0, .ref (q_ad G 0)), (1, .int (q_I st)), (2, .int (q_I k))] (Nat.le_of_ble_eq_true rfl) rfl ?_
        have f37 : (v37 = 1 ∧ 65 ≤ v18 ∧ v18 ≤ 70) ∨ (v37 = 0 ∧ ¬ (65 ≤ v18 ∧ v18 ≤ 70)) := by
          rw [e37]
          by_cases hq : 65 ≤ v18 ∧ v18 ≤ 70
          · exact Or.inl ⟨q_b_t hq, hq⟩
          · exact Or.inr ⟨q_b_f hq, hq⟩
        refine q_iload_n F dX9_faultOf_39 4 rfl ?_
        refine q_if_ne F 67 dX9_faultOf_40 (by decide) (by omega) (fun c40 => ?_) (fun c40 => ?_)
        · refine q_iload_n F dX9_faultOf_67 4 rfl ?_
          refine q_iconst F dX9_faultOf_68 ?_
          refine q_icmp_ne F 83 dX9_faultOf_69 (by decide) (by omega) (fun c69 => ?_) (fun c69 => ?_)
          · refine q_iload F dX9_faultOf_83 1 rfl ?_
            refine q_if_ne F 99 dX9_faultOf_85 (by decide) (by omega) (fun c85 => ?_) (fun c85 => ?_)
            · refine q_iconst F dX9_faultOf_99 ?_
              refine q_goto F 104 dX9_faultOf_100 (by decide) ?_
              refine q_istore F dX9_faultOf_104 [(6, .int (q_I 1)), (5, .int (q_I v37)), (4, .int (q_I v27)), (3, .int (q_I v18)), (0, .ref (q_ad G 0)), (1, .int (q_I st)), (2, .int (q_I k))] (Nat.le_of_ble_eq_true rfl) rfl ?_
              refine q_iload F dX9_faultOf_106 0 rfl ?_
              refine q_if_ne F 113 dX9_faultOf_108 (by decide) (by omega) (fun _ => ?_) (fun c108 => absurd c108 (by decide))
              refine q_iload_n F dX9_faultOf_113 5 rfl ?_
              refine q_if_eq F 121 dX9_faultOf_114 (by decide) (by omega) (fun c114 => ?_) (fun c114 => ?_)
              · exfalso; omega
              refine q_iconst F dX9_faultOf_117 ?_
              refine q_goto F 140 dX9_faultOf_118 (by decide) ?_
              refine q_istore_n F dX9_faultOf_140 [(1, .int (q_I 0)), (6, .int (q_I 1)), (5, .int (q_I v37)), (4, .int (q_I v27)), (3, .int (q_I v18)), (0, .ref (q_ad G 0)), (2, .int (q_I k))] (Nat.le_of_ble_eq_true rfl) rfl ?_
              obtain ⟨v141, e141⟩ : ∃ z_ : Int, z_ = k + 1 := ⟨_, rfl⟩
              refine q_iinc F dX9_faultOf_141 6 rfl e141 [(2, .int (q_I v141)), (1, .int (q_I 0)), (6, .int (q_I 1)), (5, .int (q_I v37)), (4, .int (q_I v27)), (3, .int (q_I v18)), (0, .ref (q_ad G 0))] (Nat.le_of_ble_eq_true rfl) rfl ?_
              refine q_goto F 4 dX9_faultOf_144 (by decide) ?_
              refine q_drop [6, 1, 0] rfl ?_
              exact ih4_1 _ (by omega) 0 v141 (m) ⟨⟨by omega, by omega⟩, by omega, by rw [e141]; exact (q_fI_2 hi4.2.2 c40 c69 c9).1 (by omega)⟩ rfl
            · refine q_iload_n F dX9_faultOf_88 2 rfl ?_
              refine q_bipush F dX9_faultOf_89 (by decide) ?_
              refine q_bipush F dX9_faultOf_91 (by decide) ?_
              refine q_callSP (n := 3) F (c_X9_in G hI M v18 48 57 (by omega)) rfl gX9_faultOf_X9_in ⟨by decide, by decide, by decide +kernel⟩ rfl ⟨rfl, rfl, Nat.le_of_ble_eq_true rfl, Nat.le_of_ble_eq_true rfl⟩ rfl (Nat.le_of_ble_eq_true rfl) dX9_faultOf_93 (fun h93 => ?_)
              refine q_ifb_eq F 103 dX9_faultOf_96 (by decide) (fun c96 => ?_) (fun c96 => ?_)
              · have d96 := q_df c96
                refine q_iconst F dX9_faultOf_103 ?_
                refine q_istore F dX9_faultOf_104 [(6, .int (q_I 0)), (5, .int (q_I v37)), (4, .int (q_I v27)), (3, .int (q_I v18)), (0, .ref (q_ad G 0)), (1, .int (q_I st)), (2, .int (q_I k))] (Nat.le_of_ble_eq_true rfl) rfl ?_
                refine q_iload F dX9_faultOf_106 0 rfl ?_
                refine q_if_ne F 113 dX9_faultOf_108 (by decide) (by omega) (fun c108 => absurd c108 (by decide)) (fun _ => ?_)
                refine q_iload_n F dX9_faultOf_111 6 rfl ?_
                exact q_iret F FI dX9_faultOf_112 (by omega) ⟨by exact (q_fI_2 hi4.2.2 c40 c69 c9).2 (by omega), rfl⟩
              · have d96 := q_dt c96
                refine q_iconst F dX9_faultOf_99 ?_
                refine q_goto F 104 dX9_faultOf_100 (by decide) ?_
                refine q_istore F dX9_faultOf_104 [(6, .int (q_I 1)), (5, .int (q_I v37)), (4, .int (q_I v27)), (3, .int (q_I v18)), (0, .ref (q_ad G 0)), (1, .int (q_I st)), (2, .int (q_I k))] (Nat.le_of_ble_eq_true rfl) rfl ?_
                refine q_iload F dX9_faultOf_106 0 rfl ?_
                refine q_if_ne F 113 dX9_faultOf_108 (by decide) (by omega) (fun _ => ?_) (fun c108 => absurd c108 (by decide))
                refine q_iload_n F dX9_faultOf_113 5 rfl ?_
                refine q_if_eq F 121 dX9_faultOf_114 (by decide) (by omega) (fun c114 => ?_) (fun c114 => ?_)
                · exfalso; omega
                refine q_iconst F dX9_faultOf_117 ?_
                refine q_goto F 140 dX9_faultOf_118 (by decide) ?_
                refine q_istore_n F dX9_faultOf_140 [(1, .int (q_I 0)), (6, .int (q_I 1)), (5, .int (q_I v37)), (4, .int (q_I v27)), (3, .int (q_I v18)), (0, .ref (q_ad G 0)), (2, .int (q_I k))] (Nat.le_of_ble_eq_true rfl) rfl ?_
                obtain ⟨v141, e141⟩ : ∃ z_ : Int, z_ = k + 1 := ⟨_, rfl⟩
                refine q_iinc F dX9_faultOf_141 6 rfl e141 [(2, .int (q_I v141)), (1, .int (q_I 0)), (6, .int (q_I 1)), (5, .int (q_I v37)), (4, .int (q_I v27)), (3, .int (q_I v18)), (0, .ref (q_ad G 0))] (Nat.le_of_ble_eq_true rfl) rfl ?_
                refine q_goto F 4 dX9_faultOf_144 (by decide) ?_
                refine q_drop [6, 1, 0] rfl ?_
                exact ih4_1 _ (by omega) 0 v141 (m) ⟨⟨by omega, by omega⟩, by omega, by rw [e141]; exact (q_fI_2 hi4.2.2 c40 c69 c9).1 (by omega)⟩ rfl
          · refine q_iload_n F dX9_faultOf_72 2 rfl ?_
            refine q_bipush F dX9_faultOf_73 (by decide) ?_
            refine q_bipush F dX9_faultOf_75 (by decide) ?_
            refine q_callSP (n := 3) F (c_X9_in G hI M v18 49 57 (by omega)) rfl gX9_faultOf_X9_in ⟨by decide, by decide, by decide +kernel⟩ rfl ⟨rfl, rfl, Nat.le_of_ble_eq_true rfl, Nat.le_of_ble_eq_true rfl⟩ rfl (Nat.le_of_ble_eq_true rfl) dX9_faultOf_77 (fun h77 => ?_)
            refine q_goto F 104 dX9_faultOf_80 (by decide) ?_
            refine q_nm (fun v104 e104 => ?_)
            refine q_istore F dX9_faultOf_104 [(6, .int (q_I v104)), (5, .int (q_I v37)), (4, .int (q_I v27)), (3, .int (q_I v18)), (0, .ref (q_ad G 0)), (1, .int (q_I st)), (2, .int (q_I k))] (Nat.le_of_ble_eq_true rfl) rfl ?_
            refine q_iload F dX9_faultOf_106 0 rfl ?_
            refine q_if_ne F 113 dX9_faultOf_108 (by decide) (by omega) (fun c108 => ?_) (fun c108 => ?_)
            · have d104 : 49 ≤ v18 ∧ v18 ≤ 57 := by
                by_cases hq : 49 ≤ v18 ∧ v18 ≤ 57
                · exact hq
                · rw [e104, q_b_f hq] at c108
                  omega
              refine q_iload_n F dX9_faultOf_113 5 rfl ?_
              refine q_if_eq F 121 dX9_faultOf_114 (by decide) (by omega) (fun c114 => ?_) (fun c114 => ?_)
              · exfalso; omega
              refine q_iconst F dX9_faultOf_117 ?_
              refine q_goto F 140 dX9_faultOf_118 (by decide) ?_
              refine q_istore_n F dX9_faultOf_140 [(1, .int (q_I 0)), (6, .int (q_I v104)), (5, .int (q_I v37)), (4, .int (q_I v27)), (3, .int (q_I v18)), (0, .ref (q_ad G 0)), (2, .int (q_I k))] (Nat.le_of_ble_eq_true rfl) rfl ?_
              obtain ⟨v141, e141⟩ : ∃ z_ : Int, z_ = k + 1 := ⟨_, rfl⟩
              refine q_iinc F dX9_faultOf_141 6 rfl e141 [(2, .int (q_I v141)), (1, .int (q_I 0)), (6, .int (q_I v104)), (5, .int (q_I v37)), (4, .int (q_I v27)), (3, .int (q_I v18)), (0, .ref (q_ad G 0))] (Nat.le_of_ble_eq_true rfl) rfl ?_
              refine q_goto F 4 dX9_faultOf_144 (by decide) ?_
              refine q_drop [6, 1, 0] rfl ?_
              exact ih4_1 _ (by omega) 0 v141 (m) ⟨⟨by omega, by omega⟩, by omega, by rw [e141]; exact (q_fI_1 hi4.2.2 c69 c9).1 (by omega)⟩ rfl
            · have d104 : ¬ (49 ≤ v18 ∧ v18 ≤ 57) := fun hq => by
                rw [e104, q_b_t hq] at c108
                omega
              refine q_iload_n F dX9_faultOf_111 6 rfl ?_
              exact q_iret F FI dX9_faultOf_112 (by omega) ⟨by exact (q_fI_1 hi4.2.2 c69 c9).2 (by omega), rfl⟩
        · refine q_iload F dX9_faultOf_43 1 rfl ?_
          refine q_if_ne F 59 dX9_faultOf_45 (by decide) (by omega) (fun c45 => ?_) (fun c45 => ?_)
          · refine q_iconst F dX9_faultOf_59 ?_
            refine q_goto F 104 dX9_faultOf_60 (by decide) ?_
            refine q_istore F dX9_faultOf_104 [(6, .int (q_I 1)), (5, .int (q_I v37)), (4, .int (q_I v27)), (3, .int (q_I v18)), (0, .ref (q_ad G 0)), (1, .int (q_I st)), (2, .int (q_I k))] (Nat.le_of_ble_eq_true rfl) rfl ?_
            refine q_iload F dX9_faultOf_106 0 rfl ?_
            refine q_if_ne F 113 dX9_faultOf_108 (by decide) (by omega) (fun _ => ?_) (fun c108 => absurd c108 (by decide))
            refine q_iload_n F dX9_faultOf_113 5 rfl ?_
            refine q_if_eq F 121 dX9_faultOf_114 (by decide) (by omega) (fun c114 => ?_) (fun c114 => ?_)
            rotate_left
            · exfalso; omega
            refine q_iload F dX9_faultOf_121 2 rfl ?_
            refine q_if_eq F 130 dX9_faultOf_123 (by decide) (by omega) (fun c123 => ?_) (fun c123 => ?_)
            · exfalso; omega
            refine q_iconst F dX9_faultOf_126 ?_
            refine q_goto F 140 dX9_faultOf_127 (by decide) ?_
            refine q_istore_n F dX9_faultOf_140 [(1, .int (q_I 1)), (6, .int (q_I 1)), (5, .int (q_I v37)), (4, .int (q_I v27)), (3, .int (q_I v18)), (0, .ref (q_ad G 0)), (2, .int (q_I k))] (Nat.le_of_ble_eq_true rfl) rfl ?_
            obtain ⟨v141, e141⟩ : ∃ z_ : Int, z_ = k + 1 := ⟨_, rfl⟩
            refine q_iinc F dX9_faultOf_141 6 rfl e141 [(2, .int (q_I v141)), (1, .int (q_I 1)), (6, .int (q_I 1)), (5, .int (q_I v37)), (4, .int (q_I v27)), (3, .int (q_I v18)), (0, .ref (q_ad G 0))] (Nat.le_of_ble_eq_true rfl) rfl ?_
            refine q_goto F 4 dX9_faultOf_144 (by decide) ?_
            refine q_drop [6, 1, 0] rfl ?_
            exact ih4_1 _ (by omega) 1 v141 (m - 1) ⟨⟨by omega, by omega⟩, by omega, by rw [e141]; exact q_fI_ho hm1 c40 c9 (by omega)⟩ rfl
          · refine q_iload F dX9_faultOf_48 0 rfl ?_
            refine q_if_ne F 59 dX9_faultOf_50 (by decide) (by omega) (fun c50 => ?_) (fun c50 => ?_)
            · refine q_iconst F dX9_faultOf_59 ?_
              refine q_goto F 104 dX9_faultOf_60 (by decide) ?_
              refine q_istore F dX9_faultOf_104 [(6, .int (q_I 1)), (5, .int (q_I v37)), (4, .int (q_I v27)), (3, .int (q_I v18)), (0, .ref (q_ad G 0)), (1, .int (q_I st)), (2, .int (q_I k))] (Nat.le_of_ble_eq_true rfl) rfl ?_
              refine q_iload F dX9_faultOf_106 0 rfl ?_
              refine q_if_ne F 113 dX9_faultOf_108 (by decide) (by omega) (fun _ => ?_) (fun c108 => absurd c108 (by decide))
              refine q_iload_n F dX9_faultOf_113 5 rfl ?_
              refine q_if_eq F 121 dX9_faultOf_114 (by decide) (by omega) (fun c114 => ?_) (fun c114 => ?_)
              rotate_left
              · exfalso; omega
              refine q_iload F dX9_faultOf_121 2 rfl ?_
              refine q_if_eq F 130 dX9_faultOf_123 (by decide) (by omega) (fun c123 => ?_) (fun c123 => ?_)
              rotate_left
              · exfalso; omega
              refine q_iload F dX9_faultOf_130 1 rfl ?_
              refine q_if_eq F 139 dX9_faultOf_132 (by decide) (by omega) (fun c132 => ?_) (fun c132 => ?_)
              · exfalso; omega
              refine q_iconst F dX9_faultOf_135 ?_
              refine q_goto F 140 dX9_faultOf_136 (by decide) ?_
              refine q_istore_n F dX9_faultOf_140 [(1, .int (q_I 2)), (6, .int (q_I 1)), (5, .int (q_I v37)), (4, .int (q_I v27)), (3, .int (q_I v18)), (0, .ref (q_ad G 0)), (2, .int (q_I k))] (Nat.le_of_ble_eq_true rfl) rfl ?_
              obtain ⟨v141, e141⟩ : ∃ z_ : Int, z_ = k + 1 := ⟨_, rfl⟩
              refine q_iinc F dX9_faultOf_141 6 rfl e141 [(2, .int (q_I v141)), (1, .int (q_I 2)), (6, .int (q_I 1)), (5, .int (q_I v37)), (4, .int (q_I v27)), (3, .int (q_I v18)), (0, .ref (q_ad G 0))] (Nat.le_of_ble_eq_true rfl) rfl ?_
              refine q_goto F 4 dX9_faultOf_144 (by decide) ?_
              refine q_drop [6, 1, 0] rfl ?_
              exact ih4_1 _ (by omega) 2 v141 (m - 1) ⟨⟨by omega, by omega⟩, by omega, by rw [e141]; exact q_fI_gu hm1 c40 c9 (by omega)⟩ rfl
            · refine q_iload_n F dX9_faultOf_53 2 rfl ?_
              refine q_bipush F dX9_faultOf_54 (by decide) ?_
              refine q_icmp_ne F 63 dX9_faultOf_56 (by decide) (by omega) (fun c56 => ?_) (fun c56 => ?_)
              · refine q_iconst F dX9_faultOf_63 ?_
                refine q_goto F 104 dX9_faultOf_64 (by decide) ?_
                refine q_istore F dX9_faultOf_104 [(6, .int (q_I 0)), (5, .int (q_I v37)), (4, .int (q_I v27)), (3, .int (q_I v18)), (0, .ref (q_ad G 0)), (1, .int (q_I st)), (2, .int (q_I k))] (Nat.le_of_ble_eq_true rfl) rfl ?_
                refine q_iload F dX9_faultOf_106 0 rfl ?_
                refine q_if_ne F 113 dX9_faultOf_108 (by decide) (by omega) (fun c108 => absurd c108 (by decide)) (fun _ => ?_)
                refine q_iload_n F dX9_faultOf_111 6 rfl ?_
                exact q_iret F FI dX9_faultOf_112 (by omega) ⟨by exact q_fI_no hm1 c40 c9 (by omega) (by omega) (by omega), rfl⟩
              · refine q_iconst F dX9_faultOf_59 ?_
                refine q_goto F 104 dX9_faultOf_60 (by decide) ?_
                refine q_istore F dX9_faultOf_104 [(6, .int (q_I 1)), (5, .int (q_I v37)), (4, .int (q_I v27)), (3, .int (q_I v18)), (0, .ref (q_ad G 0)), (1, .int (q_I st)), (2, .int (q_I k))] (Nat.le_of_ble_eq_true rfl) rfl ?_
                refine q_iload F dX9_faultOf_106 0 rfl ?_
                refine q_if_ne F 113 dX9_faultOf_108 (by decide) (by omega) (fun _ => ?_) (fun c108 => absurd c108 (by decide))
                refine q_iload_n F dX9_faultOf_113 5 rfl ?_
                refine q_if_eq F 121 dX9_faultOf_114 (by decide) (by omega) (fun c114 => ?_) (fun c114 => ?_)
                rotate_left
                · exfalso; omega
                refine q_iload F dX9_faultOf_121 2 rfl ?_
                refine q_if_eq F 130 dX9_faultOf_123 (by decide) (by omega) (fun c123 => ?_) (fun c123 => ?_)
                rotate_left
                · exfalso; omega
                refine q_iload F dX9_faultOf_130 1 rfl ?_
                refine q_if_eq F 139 dX9_faultOf_132 (by decide) (by omega) (fun c132 => ?_) (fun c132 => ?_)
                rotate_left
                · exfalso; omega
                refine q_iconst F dX9_faultOf_139 ?_
                refine q_istore_n F dX9_faultOf_140 [(1, .int (q_I 0)), (6, .int (q_I 1)), (5, .int (q_I v37)), (4, .int (q_I v27)), (3, .int (q_I v18)), (0, .ref (q_ad G 0)), (2, .int (q_I k))] (Nat.le_of_ble_eq_true rfl) rfl ?_
                obtain ⟨v141, e141⟩ : ∃ z_ : Int, z_ = k + 1 := ⟨_, rfl⟩
                refine q_iinc F dX9_faultOf_141 6 rfl e141 [(2, .int (q_I v141)), (1, .int (q_I 0)), (6, .int (q_I 1)), (5, .int (q_I v37)), (4, .int (q_I v27)), (3, .int (q_I v18)), (0, .ref (q_ad G 0))] (Nat.le_of_ble_eq_true rfl) rfl ?_
                refine q_goto F 4 dX9_faultOf_144 (by decide) ?_
                refine q_drop [6, 1, 0] rfl ?_
                exact ih4_1 _ (by omega) 0 v141 (m - 1) ⟨⟨by omega, by omega⟩, by omega, by rw [e141]; exact q_fI_dot hm1 c40 c9 (by omega)⟩ rfl
  refine q_drop [2, 1, 0] rfl ?_
  exact lp4_1 _ 0 0 (61) ⟨by omega, by omega, Or.inl ⟨rfl, rfl⟩⟩ rfl

set_option maxHeartbeats 4000000 in
set_option maxRecDepth 100000 in
theorem c_X9_fault (G : q_G) (hI : q_inj G) (M : q_M) (hm : q_mo G) (hS : 0 ≤ M 0 8 ∧ M 0 8 ≤ 60) : q_CI G yX9_fault wsX9_fault ({ frames := 2, cells := 0, slots := 0, locals := 48 } : Room) [.ref (q_ad G 0)] M (fun z M' => z = q_flt (M 6) (M 0 8) 61 0 ∧ M' = M) := by
  refine q_CI.of hI (by decide) rfl RX9 rfl [(0, .ref (q_ad G 0))] rfl (Nat.le_of_ble_eq_true rfl) (fun E F FI => ?_)
  refine q_MRof (fun hM => ?_)
  refine q_aload_n F dX9_fault_0 0 rfl ?_
  refine q_callVP (n := 0) (T := TX9) F (c_X9_faultOf G hI M hm (by omega)) rfl rfl hm.1 gX9_fault_X9_faultOf rfl ⟨by decide, by decide, by decide +kernel⟩ rfl ⟨rfl, rfl, Nat.le_of_ble_eq_true rfl, Nat.le_of_ble_eq_true rfl⟩ rfl (Nat.le_of_ble_eq_true rfl) dX9_fault_1 (fun h1 => ?_)
  exact q_iret F FI dX9_fault_4 (by omega) ⟨rfl, rfl⟩

set_option maxHeartbeats 4000000 in
set_option maxRecDepth 100000 in
theorem c_X9_asNow (G : q_G) (hI : q_inj G) (M : q_M) (hm : q_mo G) : q_CV G yX9_asNow wsX9_asNow ({ frames := 0, cells := 0, slots := 0, locals := 0 } : Room) [.ref (q_ad G 0)] M (fun M' => q_an M M') := by
  refine q_CV.of hI (by decide) rfl RX9 rfl [(0, .ref (q_ad G 0))] rfl (Nat.le_of_ble_eq_true rfl) (fun E F FV => ?_)
  have huX9 : ∀ w ∈ wsX90, w ∈ wsX9_asNow := by decide +kernel
  refine q_MRof (fun hM => ?_)
  refine q_iconst F dX9_asNow_0 ?_
  refine q_istore_n F dX9_asNow_1 [(1, .int (q_I 0)), (0, .ref (q_ad G 0))] (Nat.le_of_ble_eq_true rfl) rfl ?_
  have lp2_1 : ∀ (k2_1 : Nat) (k : Int) (M1 : q_M), ((0 ≤ k ∧ k ≤ 6) ∧ (∀ j, (j < 7 ∨ 11 < j) → M1 j = M j) ∧ (∀ x, 0 ≤ x → x < k → (M1 7 x = M 1 x ∧ M1 8 x = M 2 x ∧ M1 9 x = M 3 x) ∧ M1 10 x = 0 ∧ M1 11 x = 0)) → (6 - k).toNat = k2_1 → q_Y G E 2 M1 [(0, .ref (q_ad G 0)), (1, .int (q_I k))] 2 [] := by
    intro k2_1
    induction k2_1 using Nat.strongRecOn with
    | _ k2_1 ih2_1 =>
      intro k  M1 hi2 hk2
      refine q_MRof (fun hM2 => ?_)
      refine q_iload_n F dX9_asNow_2 1 rfl ?_
      refine q_bipush F dX9_asNow_3 (by decide) ?_
      refine q_icmp_ge F 64 dX9_asNow_5 (by decide) (by omega) (fun c5 => ?_) (fun c5 => ?_)
      · exact q_vret F FV dX9_asNow_64 ⟨hi2.2.1, fun x h0 h1 => hi2.2.2 x h0 (by omega)⟩
      · refine q_aload_n F dX9_asNow_8 0 rfl ?_
        refine q_getr (T := TX9) (ref := "LeastHungryModel") F huX9 rfl hm.1 10 (by decide) (by decide +kernel) rfl rfl dX9_asNow_9 ?_
        refine q_iload_n F dX9_asNow_12 1 rfl ?_
        refine q_aload_n F dX9_asNow_13 0 rfl ?_
        refine q_getr (T := TX9) (ref := "LeastHungryModel") F huX9 rfl hm.1 1 (by decide) (by decide +kernel) rfl rfl dX9_asNow_14 ?_
        refine q_iload_n F dX9_asNow_17 1 rfl ?_
        refine q_iald F hm.2.1 (Nat.le_of_ble_eq_true rfl) (by omega) dX9_asNow_18 (fun h18 => ?_)
        refine q_iast F hm.2.2.2.2.2.2.2.1 (Nat.le_of_ble_eq_true rfl) (by omega) (by omega) dX9_asNow_19 (fun N19 eN19 => ?_)
        refine q_aload_n F dX9_asNow_20 0 rfl ?_
        refine q_getr (T := TX9) (ref := "LeastHungryModel") F huX9 rfl hm.1 11 (by decide) (by decide +kernel) rfl rfl dX9_asNow_21 ?_
        refine q_iload_n F dX9_asNow_24 1 rfl ?_
        refine q_aload_n F dX9_asNow_25 0 rfl ?_
        refine q_getr (T := TX9) (ref := "LeastHungryModel") F huX9 rfl hm.1 2 (by decide) (by decide +kernel) rfl rfl dX9_asNow_26 ?_
        refine q_iload_n F dX9_asNow_29 1 rfl ?_
        refine q_iald F hm.2.2.1 (Nat.le_of_ble_eq_true rfl) (by omega) dX9_asNow_30 (fun h30 => ?_)
        refine q_iast F hm.2.2.2.2.2.2.2.2.1 (Nat.le_of_ble_eq_true rfl) (by omega) (by omega) dX9_asNow_31 (fun N31 eN31 => ?_)
        refine q_aload_n F dX9_asNow_32 0 rfl ?_
        refine q_getr (T := TX9) (ref := "LeastHungryModel") F huX9 rfl hm.1 12 (by decide) (by decide +kernel) rfl rfl dX9_asNow_33 ?_
        refine q_iload_n F dX9_asNow_36 1 rfl ?_
        refine q_aload_n F dX9_asNow_37 0 rfl ?_
        refine q_getr (T := TX9) (ref := "LeastHungryModel") F huX9 rfl hm.1 3 (by decide) (by decide +kernel) rfl rfl dX9_asNow_38 ?_
        refine q_iload_n F dX9_asNow_41 1 rfl ?_
        refine q_iald F hm.2.2.2.1 (Nat.le_of_ble_eq_true rfl) (by omega) dX9_asNow_42 (fun h42 => ?_)
        refine q_iast F hm.2.2.2.2.2.2.2.2.2.1 (Nat.le_of_ble_eq_true rfl) (by omega) (by omega) dX9_asNow_43 (fun N43 eN43 => ?_)
        refine q_aload_n F dX9_asNow_44 0 rfl ?_
        refine q_getr (T := TX9) (ref := "LeastHungryModel") F huX9 rfl hm.1 13 (by decide) (by decide +kernel) rfl rfl dX9_asNow_45 ?_
        refine q_iload_n F dX9_asNow_48 1 rfl ?_
        refine q_iconst F dX9_asNow_49 ?_
        refine q_iast F hm.2.2.2.2.2.2.2.2.2.2.1 (Nat.le_of_ble_eq_true rfl) (by omega) (by omega) dX9_asNow_50 (fun N50 eN50 => ?_)
        refine q_aload_n F dX9_asNow_51 0 rfl ?_
        refine q_getr (T := TX9) (ref := "LeastHungryModel") F huX9 rfl hm.1 14 (by decide) (by decide +kernel) rfl rfl dX9_asNow_52 ?_
        refine q_iload_n F dX9_asNow_55 1 rfl ?_
        refine q_iconst F dX9_asNow_56 ?_
        refine q_iast F hm.2.2.2.2.2.2.2.2.2.2.2.1 (Nat.le_of_ble_eq_true rfl) (by omega) (by omega) dX9_asNow_57 (fun N57 eN57 => ?_)
        obtain ⟨v58, e58⟩ : ∃ z_ : Int, z_ = k + 1 := ⟨_, rfl⟩
        refine q_iinc F dX9_asNow_58 1 rfl e58 [(1, .int (q_I v58)), (0, .ref (q_ad G 0))] (Nat.le_of_ble_eq_true rfl) rfl ?_
        refine q_goto F 2 dX9_asNow_61 (by decide) ?_
        refine q_drop [1, 0] rfl ?_
        obtain ⟨i1, i2, i3⟩ := hi2
        have f1 : ∀ j, (j < 7 ∨ 11 < j) → N57 j = M1 j := fun j hj => by rw [eN57, q_up_ne (by omega), eN50, q_up_ne (by omega), eN43, q_up_ne (by omega), eN31, q_up_ne (by omega), eN19, q_up_ne (by omega)]
        have g1 : N19 2 = M 2 := by rw [eN19, q_up_ne (by omega), i2 2 (by omega)]
        have g2 : N31 3 = M 3 := by rw [eN31, q_up_ne (by omega), eN19, q_up_ne (by omega), i2 3 (by omega)]
        have g0 : M1 1 = M 1 := i2 1 (by omega)
        exact ih2_1 _ (by omega) v58 N57 ⟨by omega, fun j hj => (f1 j hj).trans (i2 j hj), fun x h0 h1 => by
              have e7 : N57 7 = q_row (M1 7) k (M 1 k) := by rw [eN57, q_up_ne (by omega), eN50, q_up_ne (by omega), eN43, q_up_ne (by omega), eN31, q_up_ne (by omega), eN19, q_up_row, g0]
              have e8 : N57 8 = q_row (M1 8) k (M 2 k) := by rw [eN57, q_up_ne (by omega), eN50, q_up_ne (by omega), eN43, q_up_ne (by omega), eN31, q_up_row, g1, eN19, q_up_ne (by omega)]
              have e9 : N57 9 = q_row (M1 9) k (M 3 k) := by rw [eN57, q_up_ne (by omega), eN50, q_up_ne (by omega), eN43, q_up_row, g2, eN31, q_up_ne (by omega), eN19, q_up_ne (by omega)]
              have e10 : N57 10 = q_row (M1 10) k 0 := by rw [eN57, q_up_ne (by omega), eN50, q_up_row, eN43, q_up_ne (by omega), eN31, q_up_ne (by omega), eN19, q_up_ne (by omega)]
              have e11 : N57 11 = q_row (M1 11) k 0 := by rw [eN57, q_up_row, eN50, q_up_ne (by omega), eN43, q_up_ne (by omega), eN31, q_up_ne (by omega), eN19, q_up_ne (by omega)]
              rw [e7, e8, e9, e10, e11]
              unfold q_row
              by_cases hx : x = k
              · subst hx
                simp
              · rw [if_neg hx, if_neg hx, if_neg hx, if_neg hx, if_neg hx]
                exact i3 x h0 (by omega)⟩ rfl
  refine q_drop [1, 0] rfl ?_
  exact lp2_1 _ 0 M ⟨by omega, fun _ _ => rfl, fun x h0 h1 => by omega⟩ rfl

set_option maxHeartbeats 4000000 in
set_option maxRecDepth 100000 in
theorem c_X9_counts (G : q_G) (hI : q_inj G) (M : q_M) (hm : q_mo G) (g : Int) (hv : q_zv M) (hg : 0 ≤ g ∧ g < 6) : q_CI G yX9_counts wsX9_counts ({ frames := 0, cells := 0, slots := 0, locals := 0 } : Room) [.ref (q_ad G 0), .int (q_I g)] M (fun z M' => z = min (M 8 g) (M 7 g) ∧ M' = M) := by
  refine q_CI.of hI (by decide) rfl RX9 rfl [(0, .ref (q_ad G 0)), (1, .int (q_I g))] rfl (Nat.le_of_ble_eq_true rfl) (fun E F FI => ?_)
  have huX9 : ∀ w ∈ wsX90, w ∈ wsX9_counts := by decide +kernel
  refine q_MRof (fun hM => ?_)
  obtain ⟨⟨xt, xk⟩, xh, xf, xa⟩ := id hv
  have hvh := xh g hg.1 hg.2
  have hvf := xf g hg.1 hg.2
  refine q_aload_n F dX9_counts_0 0 rfl ?_
  refine q_getr (T := TX9) (ref := "LeastHungryModel") F huX9 rfl hm.1 11 (by decide) (by decide +kernel) rfl rfl dX9_counts_1 ?_
  refine q_iload_n F dX9_counts_4 1 rfl ?_
  refine q_iald F hm.2.2.2.2.2.2.2.2.1 (Nat.le_of_ble_eq_true rfl) (by omega) dX9_counts_5 (fun h5 => ?_)
  refine q_aload_n F dX9_counts_6 0 rfl ?_
  refine q_getr (T := TX9) (ref := "LeastHungryModel") F huX9 rfl hm.1 10 (by decide) (by decide +kernel) rfl rfl dX9_counts_7 ?_
  refine q_iload_n F dX9_counts_10 1 rfl ?_
  refine q_iald F hm.2.2.2.2.2.2.2.1 (Nat.le_of_ble_eq_true rfl) (by omega) dX9_counts_11 (fun h11 => ?_)
  refine q_icmp_ge F 24 dX9_counts_12 (by decide) (by omega) (fun c12 => ?_) (fun c12 => ?_)
  · refine q_aload_n F dX9_counts_24 0 rfl ?_
    refine q_getr (T := TX9) (ref := "LeastHungryModel") F huX9 rfl hm.1 10 (by decide) (by decide +kernel) rfl rfl dX9_counts_25 ?_
    refine q_iload_n F dX9_counts_28 1 rfl ?_
    refine q_iald F hm.2.2.2.2.2.2.2.1 (Nat.le_of_ble_eq_true rfl) (by omega) dX9_counts_29 (fun h29 => ?_)
    exact q_iret F FI dX9_counts_30 (by omega) ⟨by omega, rfl⟩
  · refine q_aload_n F dX9_counts_15 0 rfl ?_
    refine q_getr (T := TX9) (ref := "LeastHungryModel") F huX9 rfl hm.1 11 (by decide) (by decide +kernel) rfl rfl dX9_counts_16 ?_
    refine q_iload_n F dX9_counts_19 1 rfl ?_
    refine q_iald F hm.2.2.2.2.2.2.2.2.1 (Nat.le_of_ble_eq_true rfl) (by omega) dX9_counts_20 (fun h20 => ?_)
    refine q_goto F 30 dX9_counts_21 (by decide) ?_
    exact q_iret F FI dX9_counts_30 (by omega) ⟨by omega, rfl⟩

set_option maxHeartbeats 4000000 in
set_option maxRecDepth 100000 in
theorem c_X9_isIn (G : q_G) (hI : q_inj G) (M : q_M) (hm : q_mo G) (g : Int) (a : Int) (hv : q_zv M) (hg : 0 ≤ g ∧ g < 6) (ha : -2147483648 ≤ a ∧ a ≤ 2147483647) : q_CI G yX9_isIn wsX9_isIn ({ frames := 1, cells := 0, slots := 0, locals := 21 } : Room) [.ref (q_ad G 0), .int (q_I g), .int (q_I a)] M (fun z M' => z = q_b (q_ins (M 9) (M 0 0) a g) ∧ M' = M) := by
  refine q_CI.of hI (by decide) rfl RX9 rfl [(0, .ref (q_ad G 0)), (1, .int (q_I g)), (2, .int (q_I a))] rfl (Nat.le_of_ble_eq_true rfl) (fun E F FI => ?_)
  have huX9 : ∀ w ∈ wsX90, w ∈ wsX9_isIn := by decide +kernel
  refine q_MRof (fun hM => ?_)
  obtain ⟨⟨xt, xk⟩, xh, xf, xa⟩ := id hv
  have hva := xa g hg.1 hg.2
  refine q_aload_n F dX9_isIn_0 0 rfl ?_
  refine q_geti (T := TX9) (ref := "LeastHungryModel") F huX9 rfl hm.1 0 (by decide) (by decide +kernel) rfl 0 rfl rfl dX9_isIn_1 (fun h1 => ?_)
  refine q_iload_n F dX9_isIn_4 1 rfl ?_
  refine q_callSP (n := 2) F (c_X9_has G hI M _ g (by omega)) rfl gX9_isIn_X9_has ⟨by decide, by decide, by decide +kernel⟩ rfl ⟨rfl, rfl, Nat.le_of_ble_eq_true rfl, Nat.le_of_ble_eq_true rfl⟩ rfl (Nat.le_of_ble_eq_true rfl) dX9_isIn_5 (fun h5 => ?_)
  refine q_ifb_eq F 25 dX9_isIn_8 (by decide) (fun c8 => ?_) (fun c8 => ?_)
  · refine q_iconst F dX9_isIn_25 ?_
    exact q_zret F FI dX9_isIn_26 (by first | exact q_b01 _ | omega) ⟨by simp [q_ins, c8, q_b], rfl⟩
  · refine q_aload_n F dX9_isIn_11 0 rfl ?_
    refine q_getr (T := TX9) (ref := "LeastHungryModel") F huX9 rfl hm.1 12 (by decide) (by decide +kernel) rfl rfl dX9_isIn_12 ?_
    refine q_iload_n F dX9_isIn_15 1 rfl ?_
    refine q_iald F hm.2.2.2.2.2.2.2.2.2.1 (Nat.le_of_ble_eq_true rfl) (by omega) dX9_isIn_16 (fun h16 => ?_)
    refine q_iload_n F dX9_isIn_17 2 rfl ?_
    refine q_icmp_ne F 25 dX9_isIn_18 (by decide) (by omega) (fun c18 => ?_) (fun c18 => ?_)
    · refine q_iconst F dX9_isIn_25 ?_
      exact q_zret F FI dX9_isIn_26 (by first | exact q_b01 _ | omega) ⟨by simp [q_ins, c8, c18, q_b], rfl⟩
    · refine q_iconst F dX9_isIn_21 ?_
      refine q_goto F 26 dX9_isIn_22 (by decide) ?_
      exact q_zret F FI dX9_isIn_26 (by first | exact q_b01 _ | omega) ⟨by simp [q_ins, c8, c18, q_b], rfl⟩

set_option maxHeartbeats 4000000 in
set_option maxRecDepth 100000 in
theorem c_X9_inHouse (G : q_G) (hI : q_inj G) (M : q_M) (hm : q_mo G) (a : Int) (hv : q_zv M) (ha : -2147483648 ≤ a ∧ a ≤ 2147483647) : q_CI G yX9_inHouse wsX9_inHouse ({ frames := 2, cells := 0, slots := 0, locals := 43 } : Room) [.ref (q_ad G 0), .int (q_I a)] M (fun z M' => z = q_set (q_ins (M 9) (M 0 0) a) ∧ M' = M) := by
  refine q_CI.of hI (by decide) rfl RX9 rfl [(0, .ref (q_ad G 0)), (1, .int (q_I a))] rfl (Nat.le_of_ble_eq_true rfl) (fun E F FI => ?_)
  refine q_MRof (fun hM => ?_)
  obtain ⟨⟨xt, xk⟩, xh, xf, xa⟩ := id hv
  refine q_iconst F dX9_inHouse_0 ?_
  refine q_istore_n F dX9_inHouse_1 [(2, .int (q_I 0)), (0, .ref (q_ad G 0)), (1, .int (q_I a))] (Nat.le_of_ble_eq_true rfl) rfl ?_
  refine q_iconst F dX9_inHouse_2 ?_
  refine q_istore_n F dX9_inHouse_3 [(3, .int (q_I 0)), (2, .int (q_I 0)), (0, .ref (q_ad G 0)), (1, .int (q_I a))] (Nat.le_of_ble_eq_true rfl) rfl ?_
  have lp4_1 : ∀ (k4_1 : Nat) (s : Int) (k : Int), ((0 ≤ k ∧ k ≤ 6) ∧ s = q_set (q_lt (q_ins (M 9) (M 0 0) a) k)) → (6 - k).toNat = k4_1 → q_Y G E 4 M [(0, .ref (q_ad G 0)), (1, .int (q_I a)), (2, .int (q_I s)), (3, .int (q_I k))] 4 [] := by
    intro k4_1
    induction k4_1 using Nat.strongRecOn with
    | _ k4_1 ih4_1 =>
      intro s k   hi4 hk4
      have hsR : 0 ≤ s ∧ s ≤ 63 := by
        rw [hi4.2]
        exact q_set_R _
      refine q_iload_n F dX9_inHouse_4 3 rfl ?_
      refine q_bipush F dX9_inHouse_5 (by decide) ?_
      refine q_icmp_ge F 35 dX9_inHouse_7 (by decide) (by omega) (fun c7 => ?_) (fun c7 => ?_)
      · refine q_iload_n F dX9_inHouse_35 2 rfl ?_
        exact q_iret F FI dX9_inHouse_36 (by omega) (by rw [hi4.2, show k = 6 by omega, q_set_6]; exact ⟨rfl, rfl⟩)
      · refine q_iload_n F dX9_inHouse_10 2 rfl ?_
        refine q_aload_n F dX9_inHouse_11 0 rfl ?_
        refine q_iload_n F dX9_inHouse_12 3 rfl ?_
        refine q_iload_n F dX9_inHouse_13 1 rfl ?_
        refine q_callVP (n := 2) (T := TX9) F (c_X9_isIn G hI M hm k a (by assumption) (by omega) (by omega)) rfl rfl hm.1 gX9_inHouse_X9_isIn rfl ⟨by decide, by decide, by decide +kernel⟩ rfl ⟨rfl, rfl, Nat.le_of_ble_eq_true rfl, Nat.le_of_ble_eq_true rfl⟩ rfl (Nat.le_of_ble_eq_true rfl) dX9_inHouse_14 (fun h14 => ?_)
        refine q_ifb_eq F 26 dX9_inHouse_17 (by decide) (fun c17 => ?_) (fun c17 => ?_)
        · refine q_iconst F dX9_inHouse_26 ?_
          refine q_ior F dX9_inHouse_27 (fun z27 e27 h27 => ?_)
          refine q_istore_n F dX9_inHouse_28 [(2, .int (q_I z27)), (0, .ref (q_ad G 0)), (1, .int (q_I a)), (3, .int (q_I k))] (Nat.le_of_ble_eq_true rfl) rfl ?_
          obtain ⟨v29, e29⟩ : ∃ z_ : Int, z_ = k + 1 := ⟨_, rfl⟩
          refine q_iinc F dX9_inHouse_29 3 rfl e29 [(3, .int (q_I v29)), (2, .int (q_I z27)), (0, .ref (q_ad G 0)), (1, .int (q_I a))] (Nat.le_of_ble_eq_true rfl) rfl ?_
          refine q_goto F 4 dX9_inHouse_32 (by decide) ?_
          refine q_drop [2, 3, 1, 0] rfl ?_
          exact ih4_1 _ (by omega) z27 v29 ⟨by omega, by rw [e29, q_set_step _ (by omega) (by omega), if_neg (by simp [c17]), e27, q_or_0 hsR.1 hsR.2]; exact hi4.2⟩ rfl
        · refine q_iconst F dX9_inHouse_20 ?_
          refine q_iload_n F dX9_inHouse_21 3 rfl ?_
          refine q_ishl F dX9_inHouse_22 (fun z22 e22 h22 => ?_)
          refine q_goto F 27 dX9_inHouse_23 (by decide) ?_
          refine q_ior F dX9_inHouse_27 (fun z27 e27 h27 => ?_)
          refine q_istore_n F dX9_inHouse_28 [(2, .int (q_I z27)), (0, .ref (q_ad G 0)), (1, .int (q_I a)), (3, .int (q_I k))] (Nat.le_of_ble_eq_true rfl) rfl ?_
          obtain ⟨v29, e29⟩ : ∃ z_ : Int, z_ = k + 1 := ⟨_, rfl⟩
          refine q_iinc F dX9_inHouse_29 3 rfl e29 [(3, .int (q_I v29)), (2, .int (q_I z27)), (0, .ref (q_ad G 0)), (1, .int (q_I a))] (Nat.le_of_ble_eq_true rfl) rfl ?_
          refine q_goto F 4 dX9_inHouse_32 (by decide) ?_
          refine q_drop [2, 3, 1, 0] rfl ?_
          exact ih4_1 _ (by omega) z27 v29 ⟨by omega, by rw [e29, q_set_step _ (by omega) (by omega), if_pos c17, e27, e22, ← hi4.2]⟩ rfl
  refine q_drop [2, 3, 1, 0] rfl ?_
  exact lp4_1 _ 0 0 ⟨by omega, (q_set_0 _).symm⟩ rfl

set_option maxHeartbeats 4000000 in
set_option maxRecDepth 100000 in
theorem c_X9_turn (G : q_G) (hI : q_inj G) (M : q_M) (hm : q_mo G) (g : Int) (ru : Int) (hv : q_zv M) (hg : 0 ≤ g ∧ g < 6) (hr : -2147483648 ≤ ru ∧ ru ≤ 2147483647) : q_CI G yX9_turn wsX9_turn ({ frames := 1, cells := 0, slots := 0, locals := 21 } : Room) [.ref (q_ad G 0), .int (q_I g), .int (q_I ru)] M (fun z M' => z = q_t9 (M 7) (M 8) ru g ∧ M' = M) := by
  refine q_CI.of hI (by decide) rfl RX9 rfl [(0, .ref (q_ad G 0)), (1, .int (q_I g)), (2, .int (q_I ru))] rfl (Nat.le_of_ble_eq_true rfl) (fun E F FI => ?_)
  have huX9 : ∀ w ∈ wsX90, w ∈ wsX9_turn := by decide +kernel
  refine q_MRof (fun hM => ?_)
  obtain ⟨⟨xt, xk⟩, xh, xf, xa⟩ := id hv
  have hvh := xh g hg.1 hg.2
  have hvf := xf g hg.1 hg.2
  refine q_iload_n F dX9_turn_0 2 rfl ?_
  refine q_if_ne F 19 dX9_turn_1 (by decide) (by omega) (fun c1 => ?_) (fun c1 => ?_)
  · refine q_iload_n F dX9_turn_19 2 rfl ?_
    refine q_iconst F dX9_turn_20 ?_
    refine q_icmp_ne F 28 dX9_turn_21 (by decide) (by omega) (fun c21 => ?_) (fun c21 => ?_)
    · refine q_bipush F dX9_turn_28 (by decide) ?_
      refine q_aload_n F dX9_turn_30 0 rfl ?_
      refine q_getr (T := TX9) (ref := "LeastHungryModel") F huX9 rfl hm.1 10 (by decide) (by decide +kernel) rfl rfl dX9_turn_31 ?_
      refine q_iload_n F dX9_turn_34 1 rfl ?_
      refine q_iald F hm.2.2.2.2.2.2.2.1 (Nat.le_of_ble_eq_true rfl) (by omega) dX9_turn_35 (fun h35 => ?_)
      refine q_isub F dX9_turn_36 ?_
      exact q_iret F FI dX9_turn_37 (by omega) ⟨by unfold q_t9; rw [if_neg c1, if_neg c21], rfl⟩
    · refine q_iconst F dX9_turn_24 ?_
      refine q_goto F 37 dX9_turn_25 (by decide) ?_
      exact q_iret F FI dX9_turn_37 (by omega) ⟨by unfold q_t9; rw [if_neg c1, if_pos c21], rfl⟩
  · refine q_aload_n F dX9_turn_4 0 rfl ?_
    refine q_getr (T := TX9) (ref := "LeastHungryModel") F huX9 rfl hm.1 10 (by decide) (by decide +kernel) rfl rfl dX9_turn_5 ?_
    refine q_iload_n F dX9_turn_8 1 rfl ?_
    refine q_iald F hm.2.2.2.2.2.2.2.1 (Nat.le_of_ble_eq_true rfl) (by omega) dX9_turn_9 (fun h9 => ?_)
    refine q_aload_n F dX9_turn_10 0 rfl ?_
    refine q_iload_n F dX9_turn_11 1 rfl ?_
    refine q_callVP (n := 1) (T := TX9) F (c_X9_counts G hI M hm g (by assumption) (by omega)) rfl rfl hm.1 gX9_turn_X9_counts rfl ⟨by decide, by decide, by decide +kernel⟩ rfl ⟨rfl, rfl, Nat.le_of_ble_eq_true rfl, Nat.le_of_ble_eq_true rfl⟩ rfl (Nat.le_of_ble_eq_true rfl) dX9_turn_12 (fun h12 => ?_)
    refine q_isub F dX9_turn_15 ?_
    refine q_goto F 37 dX9_turn_16 (by decide) ?_
    exact q_iret F FI dX9_turn_37 (by omega) ⟨by unfold q_t9 q_shn; rw [if_pos c1]; omega, rfl⟩

set_option maxHeartbeats 4000000 in
set_option maxRecDepth 100000 in
theorem c_X9_isCaught (G : q_G) (hI : q_inj G) (M : q_M) (hm : q_mo G) (g : Int) (ru : Int) (hv : q_zv M) (hg : 0 ≤ g ∧ g < 6) (hr : -2147483648 ≤ ru ∧ ru ≤ 2147483647) : q_CI G yX9_isCaught wsX9_isCaught ({ frames := 1, cells := 0, slots := 0, locals := 21 } : Room) [.ref (q_ad G 0), .int (q_I g), .int (q_I ru)] M (fun z M' => z = q_b (decide (ru = 0) && (decide (0 < M 7 g) && q_fo (M 7) (M 8) (M 0 4) g)) ∧ M' = M) := by
  refine q_CI.of hI (by decide) rfl RX9 rfl [(0, .ref (q_ad G 0)), (1, .int (q_I g)), (2, .int (q_I ru))] rfl (Nat.le_of_ble_eq_true rfl) (fun E F FI => ?_)
  have huX9 : ∀ w ∈ wsX90, w ∈ wsX9_isCaught := by decide +kernel
  refine q_MRof (fun hM => ?_)
  obtain ⟨⟨xt, xk⟩, xh, xf, xa⟩ := id hv
  have hvh := xh g hg.1 hg.2
  have hvf := xf g hg.1 hg.2
  refine q_iload_n F dX9_isCaught_0 2 rfl ?_
  refine q_if_ne F 29 dX9_isCaught_1 (by decide) (by omega) (fun c1 => ?_) (fun c1 => ?_)
  · refine q_iconst F dX9_isCaught_29 ?_
    exact q_zret F FI dX9_isCaught_30 (by first | exact q_b01 _ | omega) ⟨by simp [c1, q_b], rfl⟩
  · refine q_aload_n F dX9_isCaught_4 0 rfl ?_
    refine q_getr (T := TX9) (ref := "LeastHungryModel") F huX9 rfl hm.1 10 (by decide) (by decide +kernel) rfl rfl dX9_isCaught_5 ?_
    refine q_iload_n F dX9_isCaught_8 1 rfl ?_
    refine q_iald F hm.2.2.2.2.2.2.2.1 (Nat.le_of_ble_eq_true rfl) (by omega) dX9_isCaught_9 (fun h9 => ?_)
    refine q_if_le F 29 dX9_isCaught_10 (by decide) (by omega) (fun c10 => ?_) (fun c10 => ?_)
    · refine q_iconst F dX9_isCaught_29 ?_
      exact q_zret F FI dX9_isCaught_30 (by first | exact q_b01 _ | omega) ⟨by simp [c1, q_b]; intro hq; omega, rfl⟩
    · refine q_aload_n F dX9_isCaught_13 0 rfl ?_
      refine q_iload_n F dX9_isCaught_14 1 rfl ?_
      refine q_callVP (n := 1) (T := TX9) F (c_X9_counts G hI M hm g (by assumption) (by omega)) rfl rfl hm.1 gX9_isCaught_X9_counts rfl ⟨by decide, by decide, by decide +kernel⟩ rfl ⟨rfl, rfl, Nat.le_of_ble_eq_true rfl, Nat.le_of_ble_eq_true rfl⟩ rfl (Nat.le_of_ble_eq_true rfl) dX9_isCaught_15 (fun h15 => ?_)
      refine q_aload_n F dX9_isCaught_18 0 rfl ?_
      refine q_geti (T := TX9) (ref := "LeastHungryModel") F huX9 rfl hm.1 4 (by decide) (by decide +kernel) rfl 4 rfl rfl dX9_isCaught_19 (fun h19 => ?_)
      refine q_icmp_le F 29 dX9_isCaught_22 (by decide) (by omega) (fun c22 => ?_) (fun c22 => ?_)
      · refine q_iconst F dX9_isCaught_29 ?_
        exact q_zret F FI dX9_isCaught_30 (by first | exact q_b01 _ | omega) ⟨by unfold q_fo q_shn; rw [decide_eq_false (show ¬ (M 0 4 < M 7 g - max 0 (M 7 g - M 8 g)) by omega)]; simp [q_b], rfl⟩
      · refine q_iconst F dX9_isCaught_25 ?_
        refine q_goto F 30 dX9_isCaught_26 (by decide) ?_
        exact q_zret F FI dX9_isCaught_30 (by first | exact q_b01 _ | omega) ⟨by unfold q_fo q_shn; rw [decide_eq_true (show M 0 4 < M 7 g - max 0 (M 7 g - M 8 g) by omega), decide_eq_true c1, decide_eq_true (show 0 < M 7 g by omega)]; rfl, rfl⟩

set_option maxHeartbeats 4000000 in
set_option maxRecDepth 100000 in
theorem c_X9_servedBy (G : q_G) (hI : q_inj G) (M : q_M) (hm : q_mo G) (a : Int) (p : Int) (ru : Int) (hv : q_zv M) (ha : (-2147483648 ≤ a ∧ a ≤ 2147483647) ∧ (0 ≤ p ∧ p ≤ 2147483647) ∧ (-2147483648 ≤ ru ∧ ru ≤ 2147483647)) : q_CI G yX9_servedBy wsX9_servedBy ({ frames := 2, cells := 0, slots := 0, locals := 43 } : Room) [.ref (q_ad G 0), .int (q_I a), .int (q_I p), .int (q_I ru)] M (fun z M' => z = q_set (q_ru (M 7) (M 8) (M 9) (M 0 0) (M 0 4) ru a p) ∧ M' = M) := by
  refine q_CI.of hI (by decide) rfl RX9 rfl [(0, .ref (q_ad G 0)), (1, .int (q_I a)), (2, .int (q_I p)), (3, .int (q_I ru))] rfl (Nat.le_of_ble_eq_true rfl) (fun E F FI => ?_)
  have huX9 : ∀ w ∈ wsX90, w ∈ wsX9_servedBy := by decide +kernel
  refine q_MRof (fun hM => ?_)
  obtain ⟨⟨xt, xk⟩, xh, xf, xa⟩ := id hv
  refine q_iconst F dX9_servedBy_0 ?_
  refine q_istore F dX9_servedBy_1 [(4, .int (q_I 0)), (0, .ref (q_ad G 0)), (1, .int (q_I a)), (2, .int (q_I p)), (3, .int (q_I ru))] (Nat.le_of_ble_eq_true rfl) rfl ?_
  refine q_iconst F dX9_servedBy_3 ?_
  refine q_istore F dX9_servedBy_4 [(5, .int (q_I 0)), (4, .int (q_I 0)), (0, .ref (q_ad G 0)), (1, .int (q_I a)), (2, .int (q_I p)), (3, .int (q_I ru))] (Nat.le_of_ble_eq_true rfl) rfl ?_
  have lp6_1 : ∀ (k6_1 : Nat) (s : Int) (k : Int), ((0 ≤ k ∧ k ≤ p) ∧ s = q_set (q_sel (q_t9 (M 7) (M 8) ru) (q_c9 (M 7) (M 8) (M 9) (M 0 0) (M 0 4) ru a) k)) → (p - k).toNat = k6_1 → q_Y G E 9 M [(0, .ref (q_ad G 0)), (1, .int (q_I a)), (2, .int (q_I p)), (3, .int (q_I ru)), (4, .int (q_I s)), (5, .int (q_I k))] 6 [] := by
    intro k6_1
    induction k6_1 using Nat.strongRecOn with
    | _ k6_1 ih6_1 =>
      intro s k   hi6 hk6
      have hsR : 0 ≤ s ∧ s ≤ 63 := by
        rw [hi6.2]
        exact q_set_R _
      refine q_iload F dX9_servedBy_6 5 rfl ?_
      refine q_iload_n F dX9_servedBy_8 2 rfl ?_
      refine q_icmp_ge F 139 dX9_servedBy_9 (by decide) (by omega) (fun c9 => ?_) (fun c9 => ?_)
      · refine q_iload F dX9_servedBy_139 4 rfl ?_
        exact q_iret F FI dX9_servedBy_141 (by omega) ⟨by rw [hi6.2, show k = p by omega, q_ru9], rfl⟩
      · refine q_bipush F dX9_servedBy_12 (by decide) ?_
        refine q_istore F dX9_servedBy_14 [(6, .int (q_I (-6))), (0, .ref (q_ad G 0)), (1, .int (q_I a)), (2, .int (q_I p)), (3, .int (q_I ru)), (4, .int (q_I s)), (5, .int (q_I k))] (Nat.le_of_ble_eq_true rfl) rfl ?_
        refine q_iconst F dX9_servedBy_16 ?_
        refine q_istore F dX9_servedBy_17 [(7, .int (q_I 0)), (6, .int (q_I (-6))), (0, .ref (q_ad G 0)), (1, .int (q_I a)), (2, .int (q_I p)), (3, .int (q_I ru)), (4, .int (q_I s)), (5, .int (q_I k))] (Nat.le_of_ble_eq_true rfl) rfl ?_
        have lp19_2 : ∀ (k19_2 : Nat) (nx : Int) (g : Int), ((0 ≤ g ∧ g ≤ 6) ∧ q_nx (q_t9 (M 7) (M 8) ru) (q_c9 (M 7) (M 8) (M 9) (M 0 0) (M 0 4) ru a) k g nx) → (6 - g).toNat = k19_2 → q_Y G E 9 M [(0, .ref (q_ad G 0)), (1, .int (q_I a)), (2, .int (q_I p)), (3, .int (q_I ru)), (4, .int (q_I s)), (5, .int (q_I k)), (6, .int (q_I nx)), (7, .int (q_I g))] 19 [] := by
          intro k19_2
          induction k19_2 using Nat.strongRecOn with
          | _ k19_2 ih19_2 =>
            intro nx g   hi19 hk19
            have hnx := q_nx_R hi19.2 hi19.1.2
            have hvh : 0 ≤ g → g < 6 → _ := xh g
            have hvf : 0 ≤ g → g < 6 → _ := xf g
            have hvh2 : 0 ≤ nx → nx < 6 → _ := xh nx
            have hvf2 : 0 ≤ nx → nx < 6 → _ := xf nx
            refine q_iload F dX9_servedBy_19 7 rfl ?_
            refine q_bipush F dX9_servedBy_21 (by decide) ?_
            refine q_icmp_ge F 115 dX9_servedBy_23 (by decide) (by omega) (fun c23 => ?_) (fun c23 => ?_)
            · refine q_iload F dX9_servedBy_115 4 rfl ?_
              refine q_iload F dX9_servedBy_117 6 rfl ?_
              refine q_if_ge F 126 dX9_servedBy_119 (by decide) (by omega) (fun c119 => ?_) (fun c119 => ?_)
              · refine q_iconst F dX9_servedBy_126 ?_
                refine q_iload F dX9_servedBy_127 6 rfl ?_
                refine q_ishl F dX9_servedBy_129 (fun z129 e129 h129 => ?_)
                refine q_ior F dX9_servedBy_130 (fun z130 e130 h130 => ?_)
                refine q_istore F dX9_servedBy_131 [(4, .int (q_I z130)), (0, .ref (q_ad G 0)), (1, .int (q_I a)), (2, .int (q_I p)), (3, .int (q_I ru)), (5, .int (q_I k)), (6, .int (q_I nx)), (7, .int (q_I g))] (Nat.le_of_ble_eq_true rfl) rfl ?_
                obtain ⟨v133, e133⟩ : ∃ z_ : Int, z_ = k + 1 := ⟨_, rfl⟩
                refine q_iinc F dX9_servedBy_133 5 rfl e133 [(5, .int (q_I v133)), (4, .int (q_I z130)), (0, .ref (q_ad G 0)), (1, .int (q_I a)), (2, .int (q_I p)), (3, .int (q_I ru)), (6, .int (q_I nx)), (7, .int (q_I g))] (Nat.le_of_ble_eq_true rfl) rfl ?_
                refine q_goto F 6 dX9_servedBy_136 (by decide) ?_
                refine q_drop [2, 3, 4, 5, 1, 0] rfl ?_
                exact ih6_1 _ (by omega) z130 v133 ⟨by omega, by
                      have hE := q_nx_end hi6.1.1 (show q_nx (q_t9 (M 7) (M 8) ru) (q_c9 (M 7) (M 8) (M 9) (M 0 0) (M 0 4) ru a) k 6 nx by rw [← show g = 6 by omega]; exact hi19.2)
                      rw [← hi6.2] at hE
                      rw [e133, ← hE, e130, if_neg (by omega), e129]⟩ rfl
              · refine q_iconst F dX9_servedBy_122 ?_
                refine q_goto F 130 dX9_servedBy_123 (by decide) ?_
                refine q_ior F dX9_servedBy_130 (fun z130 e130 h130 => ?_)
                refine q_istore F dX9_servedBy_131 [(4, .int (q_I z130)), (0, .ref (q_ad G 0)), (1, .int (q_I a)), (2, .int (q_I p)), (3, .int (q_I ru)), (5, .int (q_I k)), (6, .int (q_I nx)), (7, .int (q_I g))] (Nat.le_of_ble_eq_true rfl) rfl ?_
                obtain ⟨v133, e133⟩ : ∃ z_ : Int, z_ = k + 1 := ⟨_, rfl⟩
                refine q_iinc F dX9_servedBy_133 5 rfl e133 [(5, .int (q_I v133)), (4, .int (q_I z130)), (0, .ref (q_ad G 0)), (1, .int (q_I a)), (2, .int (q_I p)), (3, .int (q_I ru)), (6, .int (q_I nx)), (7, .int (q_I g))] (Nat.le_of_ble_eq_true rfl) rfl ?_
                refine q_goto F 6 dX9_servedBy_136 (by decide) ?_
                refine q_drop [2, 3, 4, 5, 1, 0] rfl ?_
                exact ih6_1 _ (by omega) z130 v133 ⟨by omega, by
                      have hE := q_nx_end hi6.1.1 (show q_nx (q_t9 (M 7) (M 8) ru) (q_c9 (M 7) (M 8) (M 9) (M 0 0) (M 0 4) ru a) k 6 nx by rw [← show g = 6 by omega]; exact hi19.2)
                      rw [← hi6.2] at hE
                      rw [e133, ← hE, e130, if_pos c119, q_or_0 hsR.1 hsR.2]⟩ rfl
            · refine q_aload_n F dX9_servedBy_26 0 rfl ?_
              refine q_iload F dX9_servedBy_27 7 rfl ?_
              refine q_iload_n F dX9_servedBy_29 1 rfl ?_
              refine q_callVP (n := 2) (T := TX9) F (c_X9_isIn G hI M hm g a (by assumption) (by omega) (by omega)) rfl rfl hm.1 gX9_servedBy_X9_isIn rfl ⟨by decide, by decide, by decide +kernel⟩ rfl ⟨rfl, rfl, Nat.le_of_ble_eq_true rfl, Nat.le_of_ble_eq_true rfl⟩ rfl (Nat.le_of_ble_eq_true rfl) dX9_servedBy_30 (fun h30 => ?_)
              refine q_ifb_eq F 70 dX9_servedBy_33 (by decide) (fun c33 => ?_) (fun c33 => ?_)
              · refine q_iconst F dX9_servedBy_70 ?_
                refine q_istore F dX9_servedBy_71 [(8, .int (q_I 0)), (0, .ref (q_ad G 0)), (1, .int (q_I a)), (2, .int (q_I p)), (3, .int (q_I ru)), (4, .int (q_I s)), (5, .int (q_I k)), (6, .int (q_I nx)), (7, .int (q_I g))] (Nat.le_of_ble_eq_true rfl) rfl ?_
                refine q_iload F dX9_servedBy_73 0 rfl ?_
                refine q_if_eq F 105 dX9_servedBy_75 (by decide) (by omega) (fun _ => ?_) (fun c75 => absurd c75 (by decide))
                refine q_iload F dX9_servedBy_105 7 rfl ?_
                refine q_istore F dX9_servedBy_107 [(6, .int (q_I nx)), (8, .int (q_I 0)), (0, .ref (q_ad G 0)), (1, .int (q_I a)), (2, .int (q_I p)), (3, .int (q_I ru)), (4, .int (q_I s)), (5, .int (q_I k)), (7, .int (q_I g))] (Nat.le_of_ble_eq_true rfl) rfl ?_
                obtain ⟨v109, e109⟩ : ∃ z_ : Int, z_ = g + 1 := ⟨_, rfl⟩
                refine q_iinc F dX9_servedBy_109 8 rfl e109 [(7, .int (q_I v109)), (6, .int (q_I nx)), (8, .int (q_I 0)), (0, .ref (q_ad G 0)), (1, .int (q_I a)), (2, .int (q_I p)), (3, .int (q_I ru)), (4, .int (q_I s)), (5, .int (q_I k))] (Nat.le_of_ble_eq_true rfl) rfl ?_
                refine q_goto F 19 dX9_servedBy_112 (by decide) ?_
                refine q_drop [3, 4, 5, 6, 7, 8, 1, 0] rfl ?_
                exact ih19_2 _ (by omega) nx v109 ⟨by omega, by rw [e109]; exact q_nx_no hi19.2 (fun h => by have := h.1; unfold q_c9 q_hun at this; simp [c33] at this)⟩ rfl
              · refine q_aload_n F dX9_servedBy_36 0 rfl ?_
                refine q_getr (T := TX9) (ref := "LeastHungryModel") F huX9 rfl hm.1 10 (by decide) (by decide +kernel) rfl rfl dX9_servedBy_37 ?_
                refine q_iload F dX9_servedBy_40 7 rfl ?_
                refine q_iald F hm.2.2.2.2.2.2.2.1 (Nat.le_of_ble_eq_true rfl) (by omega) dX9_servedBy_42 (fun h42 => ?_)
                refine q_if_le F 70 dX9_servedBy_43 (by decide) (by omega) (fun c43 => ?_) (fun c43 => ?_)
                · refine q_iconst F dX9_servedBy_70 ?_
                  refine q_istore F dX9_servedBy_71 [(8, .int (q_I 0)), (0, .ref (q_ad G 0)), (1, .int (q_I a)), (2, .int (q_I p)), (3, .int (q_I ru)), (4, .int (q_I s)), (5, .int (q_I k)), (6, .int (q_I nx)), (7, .int (q_I g))] (Nat.le_of_ble_eq_true rfl) rfl ?_
                  refine q_iload F dX9_servedBy_73 0 rfl ?_
                  refine q_if_eq F 105 dX9_servedBy_75 (by decide) (by omega) (fun _ => ?_) (fun c75 => absurd c75 (by decide))
                  refine q_iload F dX9_servedBy_105 7 rfl ?_
                  refine q_istore F dX9_servedBy_107 [(6, .int (q_I nx)), (8, .int (q_I 0)), (0, .ref (q_ad G 0)), (1, .int (q_I a)), (2, .int (q_I p)), (3, .int (q_I ru)), (4, .int (q_I s)), (5, .int (q_I k)), (7, .int (q_I g))] (Nat.le_of_ble_eq_true rfl) rfl ?_
                  obtain ⟨v109, e109⟩ : ∃ z_ : Int, z_ = g + 1 := ⟨_, rfl⟩
                  refine q_iinc F dX9_servedBy_109 8 rfl e109 [(7, .int (q_I v109)), (6, .int (q_I nx)), (8, .int (q_I 0)), (0, .ref (q_ad G 0)), (1, .int (q_I a)), (2, .int (q_I p)), (3, .int (q_I ru)), (4, .int (q_I s)), (5, .int (q_I k))] (Nat.le_of_ble_eq_true rfl) rfl ?_
                  refine q_goto F 19 dX9_servedBy_112 (by decide) ?_
                  refine q_drop [3, 4, 5, 6, 7, 8, 1, 0] rfl ?_
                  exact ih19_2 _ (by omega) nx v109 ⟨by omega, by rw [e109]; exact q_nx_no hi19.2 (fun h => by have := h.1; unfold q_c9 q_hun at this; simp at this; omega)⟩ rfl
                · refine q_iload F dX9_servedBy_46 4 rfl ?_
                  refine q_iload F dX9_servedBy_48 7 rfl ?_
                  refine q_callSP (n := 2) F (c_X9_has G hI M s g (by omega)) rfl gX9_servedBy_X9_has ⟨by decide, by decide, by decide +kernel⟩ rfl ⟨rfl, rfl, Nat.le_of_ble_eq_true rfl, Nat.le_of_ble_eq_true rfl⟩ rfl (Nat.le_of_ble_eq_true rfl) dX9_servedBy_50 (fun h50 => ?_)
                  refine q_ifb_ne F 70 dX9_servedBy_53 (by decide) (fun c53 => ?_) (fun c53 => ?_)
                  · refine q_iconst F dX9_servedBy_70 ?_
                    refine q_istore F dX9_servedBy_71 [(8, .int (q_I 0)), (0, .ref (q_ad G 0)), (1, .int (q_I a)), (2, .int (q_I p)), (3, .int (q_I ru)), (4, .int (q_I s)), (5, .int (q_I k)), (6, .int (q_I nx)), (7, .int (q_I g))] (Nat.le_of_ble_eq_true rfl) rfl ?_
                    refine q_iload F dX9_servedBy_73 0 rfl ?_
                    refine q_if_eq F 105 dX9_servedBy_75 (by decide) (by omega) (fun _ => ?_) (fun c75 => absurd c75 (by decide))
                    refine q_iload F dX9_servedBy_105 7 rfl ?_
                    refine q_istore F dX9_servedBy_107 [(6, .int (q_I nx)), (8, .int (q_I 0)), (0, .ref (q_ad G 0)), (1, .int (q_I a)), (2, .int (q_I p)), (3, .int (q_I ru)), (4, .int (q_I s)), (5, .int (q_I k)), (7, .int (q_I g))] (Nat.le_of_ble_eq_true rfl) rfl ?_
                    obtain ⟨v109, e109⟩ : ∃ z_ : Int, z_ = g + 1 := ⟨_, rfl⟩
                    refine q_iinc F dX9_servedBy_109 8 rfl e109 [(7, .int (q_I v109)), (6, .int (q_I nx)), (8, .int (q_I 0)), (0, .ref (q_ad G 0)), (1, .int (q_I a)), (2, .int (q_I p)), (3, .int (q_I ru)), (4, .int (q_I s)), (5, .int (q_I k))] (Nat.le_of_ble_eq_true rfl) rfl ?_
                    refine q_goto F 19 dX9_servedBy_112 (by decide) ?_
                    refine q_drop [3, 4, 5, 6, 7, 8, 1, 0] rfl ?_
                    exact ih19_2 _ (by omega) nx v109 ⟨by omega, by rw [e109]; exact q_nx_no hi19.2 (fun h => by rw [hi6.2, q_has_set hi19.1.1 (by omega)] at c53; unfold q_sel at c53; simp only [Bool.and_eq_true, decide_eq_true_eq] at c53; omega)⟩ rfl
                  · refine q_aload_n F dX9_servedBy_56 0 rfl ?_
                    refine q_iload F dX9_servedBy_57 7 rfl ?_
                    refine q_iload_n F dX9_servedBy_59 3 rfl ?_
                    refine q_callVP (n := 2) (T := TX9) F (c_X9_isCaught G hI M hm g ru (by assumption) (by omega) (by omega)) rfl rfl hm.1 gX9_servedBy_X9_isCaught rfl ⟨by decide, by decide, by decide +kernel⟩ rfl ⟨rfl, rfl, Nat.le_of_ble_eq_true rfl, Nat.le_of_ble_eq_true rfl⟩ rfl (Nat.le_of_ble_eq_true rfl) dX9_servedBy_60 (fun h60 => ?_)
                    refine q_ifb_ne F 70 dX9_servedBy_63 (by decide) (fun c63 => ?_) (fun c63 => ?_)
                    · refine q_iconst F dX9_servedBy_70 ?_
                      refine q_istore F dX9_servedBy_71 [(8, .int (q_I 0)), (0, .ref (q_ad G 0)), (1, .int (q_I a)), (2, .int (q_I p)), (3, .int (q_I ru)), (4, .int (q_I s)), (5, .int (q_I k)), (6, .int (q_I nx)), (7, .int (q_I g))] (Nat.le_of_ble_eq_true rfl) rfl ?_
                      refine q_iload F dX9_servedBy_73 0 rfl ?_
                      refine q_if_eq F 105 dX9_servedBy_75 (by decide) (by omega) (fun _ => ?_) (fun c75 => absurd c75 (by decide))
                      refine q_iload F dX9_servedBy_105 7 rfl ?_
                      refine q_istore F dX9_servedBy_107 [(6, .int (q_I nx)), (8, .int (q_I 0)), (0, .ref (q_ad G 0)), (1, .int (q_I a)), (2, .int (q_I p)), (3, .int (q_I ru)), (4, .int (q_I s)), (5, .int (q_I k)), (7, .int (q_I g))] (Nat.le_of_ble_eq_true rfl) rfl ?_
                      obtain ⟨v109, e109⟩ : ∃ z_ : Int, z_ = g + 1 := ⟨_, rfl⟩
                      refine q_iinc F dX9_servedBy_109 8 rfl e109 [(7, .int (q_I v109)), (6, .int (q_I nx)), (8, .int (q_I 0)), (0, .ref (q_ad G 0)), (1, .int (q_I a)), (2, .int (q_I p)), (3, .int (q_I ru)), (4, .int (q_I s)), (5, .int (q_I k))] (Nat.le_of_ble_eq_true rfl) rfl ?_
                      refine q_goto F 19 dX9_servedBy_112 (by decide) ?_
                      refine q_drop [3, 4, 5, 6, 7, 8, 1, 0] rfl ?_
                      exact ih19_2 _ (by omega) nx v109 ⟨by omega, by rw [e109]; exact q_nx_no hi19.2 (fun h => q_c9_no h.1 c63)⟩ rfl
                    · refine q_iconst F dX9_servedBy_66 ?_
                      refine q_goto F 71 dX9_servedBy_67 (by decide) ?_
                      refine q_istore F dX9_servedBy_71 [(8, .int (q_I 1)), (0, .ref (q_ad G 0)), (1, .int (q_I a)), (2, .int (q_I p)), (3, .int (q_I ru)), (4, .int (q_I s)), (5, .int (q_I k)), (6, .int (q_I nx)), (7, .int (q_I g))] (Nat.le_of_ble_eq_true rfl) rfl ?_
                      refine q_iload F dX9_servedBy_73 0 rfl ?_
                      refine q_if_eq F 105 dX9_servedBy_75 (by decide) (by omega) (fun c75 => absurd c75 (by decide)) (fun _ => ?_)
                      refine q_iload F dX9_servedBy_78 7 rfl ?_
                      refine q_if_lt F 100 dX9_servedBy_80 (by decide) (by omega) (fun c80 => ?_) (fun c80 => ?_)
                      · refine q_iload F dX9_servedBy_100 8 rfl ?_
                        refine q_goto F 107 dX9_servedBy_102 (by decide) ?_
                        refine q_istore F dX9_servedBy_107 [(6, .int (q_I g)), (8, .int (q_I 1)), (0, .ref (q_ad G 0)), (1, .int (q_I a)), (2, .int (q_I p)), (3, .int (q_I ru)), (4, .int (q_I s)), (5, .int (q_I k)), (7, .int (q_I g))] (Nat.le_of_ble_eq_true rfl) rfl ?_
                        obtain ⟨v109, e109⟩ : ∃ z_ : Int, z_ = g + 1 := ⟨_, rfl⟩
                        refine q_iinc F dX9_servedBy_109 8 rfl e109 [(7, .int (q_I v109)), (6, .int (q_I g)), (8, .int (q_I 1)), (0, .ref (q_ad G 0)), (1, .int (q_I a)), (2, .int (q_I p)), (3, .int (q_I ru)), (4, .int (q_I s)), (5, .int (q_I k))] (Nat.le_of_ble_eq_true rfl) rfl ?_
                        refine q_goto F 19 dX9_servedBy_112 (by decide) ?_
                        refine q_drop [3, 4, 5, 6, 7, 8, 1, 0] rfl ?_
                        exact ih19_2 _ (by omega) g v109 ⟨by omega, by
                              have hP : q_c9 (M 7) (M 8) (M 9) (M 0 0) (M 0 4) ru a g = true := q_c9_yes c33 (by omega) c63
                              have hR : k ≤ q_rk (q_t9 (M 7) (M 8) ru) (q_c9 (M 7) (M 8) (M 9) (M 0 0) (M 0 4) ru a) g := q_c9_rk hP (by rw [hi6.2, q_has_set hi19.1.1 (by omega)] at c53; exact c53)
                              rw [e109]
                              exact q_nx_new hi19.2 hi19.1.1 hP hR (Or.inl c80)⟩ rfl
                      · refine q_aload_n F dX9_servedBy_83 1 rfl ?_
                        refine q_iload F dX9_servedBy_84 8 rfl ?_
                        refine q_iload_n F dX9_servedBy_86 4 rfl ?_
                        refine q_callVP (n := 2) (T := TX9) F (c_X9_turn G hI M hm g ru (by assumption) (by omega) (by omega)) rfl rfl hm.1 gX9_servedBy_X9_turn rfl ⟨by decide, by decide, by decide +kernel⟩ rfl ⟨rfl, rfl, Nat.le_of_ble_eq_true rfl, Nat.le_of_ble_eq_true rfl⟩ rfl (Nat.le_of_ble_eq_true rfl) dX9_servedBy_87 (fun h87 => ?_)
                        refine q_aload_n F dX9_servedBy_90 1 rfl ?_
                        refine q_iload F dX9_servedBy_91 7 rfl ?_
                        refine q_iload_n F dX9_servedBy_93 4 rfl ?_
                        refine q_callVP (n := 2) (T := TX9) F (c_X9_turn G hI M hm nx ru (by assumption) (by omega) (by omega)) rfl rfl hm.1 gX9_servedBy_X9_turn rfl ⟨by decide, by decide, by decide +kernel⟩ rfl ⟨rfl, rfl, Nat.le_of_ble_eq_true rfl, Nat.le_of_ble_eq_true rfl⟩ rfl (Nat.le_of_ble_eq_true rfl) dX9_servedBy_94 (fun h94 => ?_)
                        have ht1 := q_t9_R (f := M 8) (ru := ru) (hvh (by omega) (by omega)) (hvf (by omega) (by omega))
                        have ht2 := q_t9_R (f := M 8) (ru := ru) (hvh2 (by omega) (by omega)) (hvf2 (by omega) (by omega))
                        refine q_icmp_ge F 105 dX9_servedBy_97 (by decide) (by omega) (fun c97 => ?_) (fun c97 => ?_)
                        · refine q_iload F dX9_servedBy_105 7 rfl ?_
                          refine q_istore F dX9_servedBy_107 [(6, .int (q_I nx)), (8, .int (q_I 1)), (0, .ref (q_ad G 0)), (1, .int (q_I a)), (2, .int (q_I p)), (3, .int (q_I ru)), (4, .int (q_I s)), (5, .int (q_I k)), (7, .int (q_I g))] (Nat.le_of_ble_eq_true rfl) rfl ?_
                          obtain ⟨v109, e109⟩ : ∃ z_ : Int, z_ = g + 1 := ⟨_, rfl⟩
                          refine q_iinc F dX9_servedBy_109 8 rfl e109 [(7, .int (q_I v109)), (6, .int (q_I nx)), (8, .int (q_I 1)), (0, .ref (q_ad G 0)), (1, .int (q_I a)), (2, .int (q_I p)), (3, .int (q_I ru)), (4, .int (q_I s)), (5, .int (q_I k))] (Nat.le_of_ble_eq_true rfl) rfl ?_
                          refine q_goto F 19 dX9_servedBy_112 (by decide) ?_
                          refine q_drop [3, 4, 5, 6, 7, 8, 1, 0] rfl ?_
                          exact ih19_2 _ (by omega) nx v109 ⟨by omega, by
                                rw [e109]
                                exact q_nx_old hi19.2 (by omega)⟩ rfl
                        · refine q_iload F dX9_servedBy_100 8 rfl ?_
                          refine q_goto F 107 dX9_servedBy_102 (by decide) ?_
                          refine q_istore F dX9_servedBy_107 [(6, .int (q_I g)), (8, .int (q_I 1)), (0, .ref (q_ad G 0)), (1, .int (q_I a)), (2, .int (q_I p)), (3, .int (q_I ru)), (4, .int (q_I s)), (5, .int (q_I k)), (7, .int (q_I g))] (Nat.le_of_ble_eq_true rfl) rfl ?_
                          obtain ⟨v109, e109⟩ : ∃ z_ : Int, z_ = g + 1 := ⟨_, rfl⟩
                          refine q_iinc F dX9_servedBy_109 8 rfl e109 [(7, .int (q_I v109)), (6, .int (q_I g)), (8, .int (q_I 1)), (0, .ref (q_ad G 0)), (1, .int (q_I a)), (2, .int (q_I p)), (3, .int (q_I ru)), (4, .int (q_I s)), (5, .int (q_I k))] (Nat.le_of_ble_eq_true rfl) rfl ?_
                          refine q_goto F 19 dX9_servedBy_112 (by decide) ?_
                          refine q_drop [3, 4, 5, 6, 7, 8, 1, 0] rfl ?_
                          exact ih19_2 _ (by omega) g v109 ⟨by omega, by
                                have hP : q_c9 (M 7) (M 8) (M 9) (M 0 0) (M 0 4) ru a g = true := q_c9_yes c33 (by omega) c63
                                have hR : k ≤ q_rk (q_t9 (M 7) (M 8) ru) (q_c9 (M 7) (M 8) (M 9) (M 0 0) (M 0 4) ru a) g := q_c9_rk hP (by rw [hi6.2, q_has_set hi19.1.1 (by omega)] at c53; exact c53)
                                rw [e109]
                                exact q_nx_new hi19.2 hi19.1.1 hP hR (Or.inr (by omega))⟩ rfl
        refine q_drop [2, 3, 4, 5, 6, 7, 1, 0] rfl ?_
        exact lp19_2 _ (-6) 0 ⟨by omega, q_nx_0⟩ rfl
  refine q_drop [2, 3, 4, 5, 1, 0] rfl ?_
  exact lp6_1 _ 0 0 ⟨by omega, q_sel_0.symm⟩ rfl
