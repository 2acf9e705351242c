/-! feuds as rows of sets; sights; the pad -/
def q_fm (F : Int → Int) : Prop := ∀ x, 0 ≤ x → x < 6 → 0 ≤ F x ∧ F x ≤ 63
def q_fset (F : Int → Int) (g q w : Int) : Int := q_set (fun y => if y = q then decide (w ≠ 0) else q_has (F g) y)
theorem q_fset_0 {F : Int → Int} {g q : Int} (hf : 0 ≤ F g ∧ F g ≤ 63) (hq : 0 ≤ q ∧ q < 6) : q_and (F g) (q_xor (q_shl 1 q) (-1)) = q_fset F g q 0 := by
  rw [q_andb hf.1 hf.2 hq.1 hq.2]
  refine q_set_congr (fun y y0 y1 => ?_)
  by_cases h : y = q <;> simp [h]
theorem q_fset_1 {F : Int → Int} {g q : Int} (hf : 0 ≤ F g ∧ F g ≤ 63) (hq : 0 ≤ q ∧ q < 6) : q_or (q_fset F g q 0) (q_shl 1 q) = q_fset F g q 1 := by
  have hr := q_set_R (fun y => if y = q then decide ((0 : Int) ≠ 0) else q_has (F g) y)
  unfold q_fset
  rw [q_orb hr.1 hr.2 hq.1 hq.2]
  refine q_set_congr (fun y y0 y1 => ?_)
  rw [q_has_set y0 y1]
  by_cases h : y = q <;> simp [h]
def q_fend (F F1 : Int → Int) (g k : Int) : Prop := ∀ x, 0 ≤ x → x < 6 → F1 x = q_set (fun y => q_has (F x) y && !(decide (x = g) && decide (y < k)) && !(decide (y = g) && decide (x < k)))
theorem q_fend_fm {F F1 : Int → Int} {g k : Int} (h : q_fend F F1 g k) : q_fm F1 := fun x h0 h1 => by
  rw [h x h0 h1]
  exact q_set_R _
theorem q_fend_0 {F : Int → Int} {g : Int} (hf : q_fm F) : q_fend F F g 0 := fun x h0 h1 => by
  refine q_set_eq (hf x h0 h1).1 (hf x h0 h1).2 (fun y y0 y1 => ?_)
  have h2 : ¬ y < 0 := by omega
  have h3 : ¬ x < 0 := by omega
  simp [h2, h3]
theorem q_fend_6 {F F1 : Int → Int} {g : Int} (h : q_fend F F1 g 6) : ∀ x, 0 ≤ x → x < 6 → F1 x = q_set (fun y => q_has (F x) y && !(decide (x = g) || decide (y = g))) := fun x h0 h1 => by
  rw [h x h0 h1]
  refine q_set_congr (fun y y0 y1 => ?_)
  simp only [y1, h1, decide_true, Bool.and_true]
  cases q_has (F x) y <;> cases decide (x = g) <;> cases decide (y = g) <;> rfl
theorem q_fend_s {F F1 : Int → Int} {g k : Int} (hf : q_fm F) (h : q_fend F F1 g k) (hg : 0 ≤ g ∧ g < 6) (hk : 0 ≤ k ∧ k < 6) : q_fend F (q_row (q_row F1 g (q_fset F1 g k 0)) k (q_fset F1 k g 0)) g (k + 1) := fun x h0 h1 => by
  unfold q_row
  by_cases hxk : x = k
  · rw [if_pos hxk]
    subst hxk
    refine q_set_congr (fun y y0 y1 => ?_)
    rw [h x h0 h1, q_has_set y0 y1]
    by_cases hy : y = g
    · simp [hy]
      intros; omega
    · cases q_has (F x) y
      · simp [hy]
      · by_cases hxg : x = g
        · have : y < x ↔ y < x + 1 := by omega
          simp [hy, hxg]
          omega
        · simp [hy, hxg]
  · rw [if_neg hxk]
    by_cases hxg : x = g
    · rw [if_pos hxg]
      subst hxg
      refine q_set_congr (fun y y0 y1 => ?_)
      rw [h x h0 h1, q_has_set y0 y1]
      by_cases hy : y = k
      · simp [hy]
        intros; omega
      · cases q_has (F x) y
        · simp [hy]
        · have e1 : decide (y < k) = decide (y < k + 1) := decide_eq_decide.mpr (by omega)
          have e2 : decide (x < k) = decide (x < k + 1) := decide_eq_decide.mpr (by omega)
          rw [if_neg hy, e1, e2]
    · rw [if_neg hxg, h x h0 h1]
      refine q_set_congr (fun y y0 y1 => ?_)
      cases q_has (F x) y
      · simp
      · by_cases hyx : y = g <;> simp [hxg, hyx] <;> omega
def q_sv (M : q_M) (b : Nat) : Prop := (0 ≤ M b 4 ∧ M b 4 ≤ 8) ∧ ∀ i, 0 ≤ i → i < 8 → (0 ≤ M (b + 7) i ∧ M (b + 7) i ≤ 9) ∧ (0 ≤ M (b + 8) i ∧ M (b + 8) i ≤ 63)
def q_fit (d s tk : Int → Int) : Nat → Bool
  | 0 => true
  | n + 1 => q_fit d s tk n && decide (tk (d n) = s n)
theorem q_fit_s {d s tk : Int → Int} {n : Nat} : q_fit d s tk (n + 1) = (q_fit d s tk n && decide (tk (d n) = s n)) := rfl
theorem q_fit_n {d s tk : Int → Int} {k : Nat} : ∀ n : Nat, k < n → ¬ tk (d k) = s k → q_fit d s tk n = false
  | 0, h, _ => absurd h (by omega)
  | n + 1, h, h2 => by
    rw [q_fit_s]
    by_cases hk : k = n
    · subst hk
      simp [h2]
    · rw [q_fit_n n (by omega) h2]
      rfl
theorem q_fit_no {d s tk : Int → Int} {i n : Int} (h0 : 0 ≤ i) (h1 : i < n) (h2 : ¬ tk (d i) = s i) : q_fit d s tk n.toNat = false :=
  q_fit_n (k := i.toNat) n.toNat (by omega) (by rw [Int.toNat_of_nonneg h0]; exact h2)
def q_pv (M : q_M) (p : Nat) : Prop := (0 ≤ M p 1 ∧ M p 1 ≤ 60) ∧ ∀ i, 0 ≤ i → i < 60 → 0 ≤ M (p + 1) i ∧ M (p + 1) i ≤ 126
def q_sg (M : q_M) (p : Nat) (i : Int) : Int := if i < M p 1 then M (p + 1) i else 0
theorem q_sg_R {M : q_M} {p : Nat} (h : q_pv M p) (i : Int) (h0 : 0 ≤ i) : 0 ≤ q_sg M p i ∧ q_sg M p i ≤ 126 := by
  unfold q_sg
  split
  · have := h.1
    exact h.2 i h0 (by omega)
  · omega
theorem q_flt_u (pad : Int → Int) (n : Int) (m : Nat) (i : Int) : q_flt pad n (m + 1) i = if n ≤ i then -6 else if pad i = 46 then q_flt pad n m (i + 1) else if q_house (pad i) = false ∧ q_guest (pad i) = false then i else if i + 1 < n ∧ q_foll (pad i) (pad (i + 1)) = true then q_flt pad n m (i + 2) else i + 1 := rfl
theorem q_foll_0 (s : Int) : q_foll s 0 = false := by
  unfold q_foll q_house
  split <;> simp
theorem q_sg_foll_t {M : q_M} {p : Nat} {s j : Int} (h : q_foll s (q_sg M p j) = true) : j < M p 1 ∧ q_foll s (M (p + 1) j) = true := by
  unfold q_sg at h
  by_cases hj : j < M p 1
  · rw [if_pos hj] at h
    exact ⟨hj, h⟩
  · rw [if_neg hj, q_foll_0] at h
    cases h
theorem q_sg_foll_f {M : q_M} {p : Nat} {s j : Int} (h : q_foll s (q_sg M p j) = false) : ¬ (j < M p 1 ∧ q_foll s (M (p + 1) j) = true) := by
  intro ⟨h1, h2⟩
  unfold q_sg at h
  rw [if_pos h1, h2] at h
  cases h
set_option maxHeartbeats 4000000 in
set_option maxRecDepth 100000 in
theorem c_J6_bitCount_0f7a4 (G : q_G) (hI : q_inj G) (M : q_M) (s : Int) (hs : 0 ≤ s ∧ s ≤ 63) : q_CI G yJ6_bitCount_0f7a4 wsJ6_bitCount_0f7a4 ({ frames := 0, cells := 0, slots := 0, locals := 0 } : Room) [.int (q_I s)] M (fun z M' => z = q_cnt (q_has s) ∧ M' = M) := by
  refine q_CI.of hI (by decide) rfl RJ6 rfl [(0, .int (q_I s))] rfl (Nat.le_of_ble_eq_true rfl) (fun E F FI => ?_)
  refine q_MRof (fun hM => ?_)
  refine q_iload_n F dJ6_bitCount_0f7a4_0 0 rfl ?_
  refine q_iload_n F dJ6_bitCount_0f7a4_1 0 rfl ?_
  refine q_iconst F dJ6_bitCount_0f7a4_2 ?_
  refine q_iushr F dJ6_bitCount_0f7a4_3 (fun z3 e3 h3 => ?_)
  refine q_ldc_w (n := 1431655765) F dJ6_bitCount_0f7a4_4 (by decide +kernel) ?_
  refine q_iand F dJ6_bitCount_0f7a4_7 (fun z7 e7 h7 => ?_)
  refine q_isub F dJ6_bitCount_0f7a4_8 ?_
  refine q_nm (fun v9 e9 => ?_)
  refine q_istore_n F dJ6_bitCount_0f7a4_9 [(0, .int (q_I v9))] (Nat.le_of_ble_eq_true rfl) rfl ?_
  refine q_iload_n F dJ6_bitCount_0f7a4_10 0 rfl ?_
  refine q_ldc_w (n := 858993459) F dJ6_bitCount_0f7a4_11 (by decide +kernel) ?_
  refine q_iand F dJ6_bitCount_0f7a4_14 (fun z14 e14 h14 => ?_)
  refine q_iload_n F dJ6_bitCount_0f7a4_15 0 rfl ?_
  refine q_iconst F dJ6_bitCount_0f7a4_16 ?_
  refine q_iushr F dJ6_bitCount_0f7a4_17 (fun z17 e17 h17 => ?_)
  refine q_ldc_w (n := 858993459) F dJ6_bitCount_0f7a4_18 (by decide +kernel) ?_
  refine q_iand F dJ6_bitCount_0f7a4_21 (fun z21 e21 h21 => ?_)
  refine q_iadd F dJ6_bitCount_0f7a4_22 ?_
  refine q_nm (fun v23 e23 => ?_)
  refine q_istore_n F dJ6_bitCount_0f7a4_23 [(0, .int (q_I v23))] (Nat.le_of_ble_eq_true rfl) rfl ?_
  refine q_iload_n F dJ6_bitCount_0f7a4_24 0 rfl ?_
  refine q_iload_n F dJ6_bitCount_0f7a4_25 0 rfl ?_
  refine q_iconst F dJ6_bitCount_0f7a4_26 ?_
  refine q_iushr F dJ6_bitCount_0f7a4_27 (fun z27 e27 h27 => ?_)
  refine q_iadd F dJ6_bitCount_0f7a4_28 ?_
  refine q_ldc_w (n := 252645135) F dJ6_bitCount_0f7a4_29 (by decide +kernel) ?_
  refine q_iand F dJ6_bitCount_0f7a4_32 (fun z32 e32 h32 => ?_)
  refine q_istore_n F dJ6_bitCount_0f7a4_33 [(0, .int (q_I z32))] (Nat.le_of_ble_eq_true rfl) rfl ?_
  refine q_iload_n F dJ6_bitCount_0f7a4_34 0 rfl ?_
  refine q_iload_n F dJ6_bitCount_0f7a4_35 0 rfl ?_
  refine q_bipush F dJ6_bitCount_0f7a4_36 (by decide) ?_
  refine q_iushr F dJ6_bitCount_0f7a4_38 (fun z38 e38 h38 => ?_)
  refine q_iadd F dJ6_bitCount_0f7a4_39 ?_
  refine q_nm (fun v40 e40 => ?_)
  refine q_istore_n F dJ6_bitCount_0f7a4_40 [(0, .int (q_I v40))] (Nat.le_of_ble_eq_true rfl) rfl ?_
  refine q_iload_n F dJ6_bitCount_0f7a4_41 0 rfl ?_
  refine q_iload_n F dJ6_bitCount_0f7a4_42 0 rfl ?_
  refine q_bipush F dJ6_bitCount_0f7a4_43 (by decide) ?_
  refine q_iushr F dJ6_bitCount_0f7a4_45 (fun z45 e45 h45 => ?_)
  refine q_iadd F dJ6_bitCount_0f7a4_46 ?_
  refine q_nm (fun v47 e47 => ?_)
  refine q_istore_n F dJ6_bitCount_0f7a4_47 [(0, .int (q_I v47))] (Nat.le_of_ble_eq_true rfl) rfl ?_
  refine q_iload_n F dJ6_bitCount_0f7a4_48 0 rfl ?_
  refine q_bipush F dJ6_bitCount_0f7a4_49 (by decide) ?_
  refine q_iand F dJ6_bitCount_0f7a4_51 (fun z51 e51 h51 => ?_)
  exact q_iret F FI dJ6_bitCount_0f7a4_52 h51 ⟨by rw [← q_pop_eq hs.1 hs.2, e51, e47, e45, e40, e38, e32, e27, e23, e21, e17, e14, e9, e7, e3]; rfl, rfl⟩

set_option maxHeartbeats 4000000 in
set_option maxRecDepth 100000 in
theorem c_X1_welcome (G : q_G) (hI : q_inj G) (M : q_M) (c : Nat) (hc : q_co G c) (g : Int) (h : Int) (f : Int) (a : Int) (hv : q_cv M c) (hg : 0 ≤ g ∧ g < 6) (hh : (0 ≤ h ∧ h ≤ 20) ∧ (0 ≤ f ∧ f ≤ 9) ∧ (0 ≤ a ∧ a ≤ 2)) : q_CI G yX1_welcome wsX1_welcome ({ frames := 1, cells := 0, slots := 0, locals := 22 } : Room) [.ref (q_ad G c), .int (q_I g), .int (q_I h), .int (q_I f), .int (q_I a)] M (fun z M' => z = q_cnt (fun x => q_has (M c 4) x || decide (x = g)) ∧ M' = q_up (q_up (q_up (q_up M (c + 1) g h) (c + 2) g f) (c + 3) g a) c 4 (q_set (fun x => q_has (M c 4) x || decide (x = g)))) := by
  refine q_CI.of hI (by decide) rfl RX1 rfl [(0, .ref (q_ad G c)), (1, .int (q_I g)), (2, .int (q_I h)), (3, .int (q_I f)), (4, .int (q_I a))] rfl (Nat.le_of_ble_eq_true rfl) (fun E F FI => ?_)
  have huX1 : ∀ w ∈ wsX10, w ∈ wsX1_welcome := by decide +kernel
  refine q_MRof (fun hM => ?_)
  have hv4 := hv.1
  have hv5 := hv.2.1
  refine q_aload_n F dX1_welcome_0 0 rfl ?_
  refine q_getr (T := TX1) (ref := "LeastHungry$Company") F huX1 rfl hc.1 0 (by decide) (by decide +kernel) rfl rfl dX1_welcome_1 ?_
  refine q_iload_n F dX1_welcome_4 1 rfl ?_
  refine q_iload_n F dX1_welcome_5 2 rfl ?_
  refine q_callNV (n := 3) F (c_X8_put G hI M (c + 1) 6 hc.2.1 g h (by omega) (by omega)) rfl gX1_welcome_X8_put_n35 (host := RX8) (by decide +kernel) (by decide +kernel) (by decide +kernel) ⟨by decide, by decide, by decide +kernel⟩ rfl ⟨rfl, rfl, Nat.le_of_ble_eq_true rfl, Nat.le_of_ble_eq_true rfl⟩ rfl (Nat.le_of_ble_eq_true rfl) dX1_welcome_6 (fun N6 p6 => ?_)
  refine q_aload_n F dX1_welcome_9 0 rfl ?_
  refine q_getr (T := TX1) (ref := "LeastHungry$Company") F huX1 rfl hc.1 1 (by decide) (by decide +kernel) rfl rfl dX1_welcome_10 ?_
  refine q_iload_n F dX1_welcome_13 1 rfl ?_
  refine q_iload_n F dX1_welcome_14 3 rfl ?_
  refine q_callNV (n := 3) F (c_X8_put G hI N6 (c + 2) 6 hc.2.2.1 g f (by omega) (by omega)) rfl gX1_welcome_X8_put_n35 (host := RX8) (by decide +kernel) (by decide +kernel) (by decide +kernel) ⟨by decide, by decide, by decide +kernel⟩ rfl ⟨rfl, rfl, Nat.le_of_ble_eq_true rfl, Nat.le_of_ble_eq_true rfl⟩ rfl (Nat.le_of_ble_eq_true rfl) dX1_welcome_15 (fun N15 p15 => ?_)
  refine q_aload_n F dX1_welcome_18 0 rfl ?_
  refine q_getr (T := TX1) (ref := "LeastHungry$Company") F huX1 rfl hc.1 2 (by decide) (by decide +kernel) rfl rfl dX1_welcome_19 ?_
  refine q_iload_n F dX1_welcome_22 1 rfl ?_
  refine q_iload F dX1_welcome_23 4 rfl ?_
  refine q_callNV (n := 3) F (c_X8_put G hI N15 (c + 3) 6 hc.2.2.2.1 g a (by omega) (by omega)) rfl gX1_welcome_X8_put_n35 (host := RX8) (by decide +kernel) (by decide +kernel) (by decide +kernel) ⟨by decide, by decide, by decide +kernel⟩ rfl ⟨rfl, rfl, Nat.le_of_ble_eq_true rfl, Nat.le_of_ble_eq_true rfl⟩ rfl (Nat.le_of_ble_eq_true rfl) dX1_welcome_25 (fun N25 p25 => ?_)
  have t4 : N25 c 4 = M c 4 := by rw [p25, q_up_ne (by omega), p15, q_up_ne (by omega), p6, q_up_ne (by omega)]
  refine q_aload_n F dX1_welcome_28 0 rfl ?_
  refine q_dup F dX1_welcome_29 rfl ?_
  refine q_geti (T := TX1) (ref := "LeastHungry$Company") F huX1 rfl hc.1 4 (by decide) (by decide +kernel) rfl 4 rfl rfl dX1_welcome_30 (fun h30 => ?_)
  refine q_iconst F dX1_welcome_33 ?_
  refine q_iload_n F dX1_welcome_34 1 rfl ?_
  refine q_ishl F dX1_welcome_35 (fun z35 e35 h35 => ?_)
  refine q_ior F dX1_welcome_36 (fun z36 e36 h36 => ?_)
  have z36e : z36 = q_set (fun x => q_has (M c 4) x || decide (x = g)) := by rw [e36, e35, t4]; exact q_orb hv4.1 hv4.2 hg.1 hg.2
  refine q_puti (T := TX1) (ref := "LeastHungry$Company") F huX1 rfl hc.1 4 (by decide) (by decide +kernel) rfl 4 rfl tyX1 tyX1_ok nmX1 rfl rfl (by decide +kernel) (by omega) dX1_welcome_37 (fun N37 eN37 => ?_)
  have u4 : N37 c 4 = z36 := by rw [eN37, q_up_at, if_pos rfl]
  refine q_aload_n F dX1_welcome_40 0 rfl ?_
  refine q_geti (T := TX1) (ref := "LeastHungry$Company") F huX1 rfl hc.1 4 (by decide) (by decide +kernel) rfl 4 rfl rfl dX1_welcome_41 (fun h41 => ?_)
  refine q_callSP (n := 1) F (c_J6_bitCount_0f7a4 G hI N37 _ (by rw [u4, z36e]; exact q_set_R _)) rfl gX1_welcome_J6_bitCount_0f7a4 ⟨by decide, by decide, by decide +kernel⟩ rfl ⟨rfl, rfl, Nat.le_of_ble_eq_true rfl, Nat.le_of_ble_eq_true rfl⟩ rfl (Nat.le_of_ble_eq_true rfl) dX1_welcome_44 (fun h44 => ?_)
  exact q_iret F FI dX1_welcome_47 (by omega) ⟨by rw [u4, z36e]; exact q_cnt_congr (fun x x0 x1 => q_has_set x0 x1), by rw [eN37, z36e, p25, p15, p6]⟩

set_option maxHeartbeats 4000000 in
set_option maxRecDepth 100000 in
theorem c_X1_dismiss (G : q_G) (hI : q_inj G) (M : q_M) (c : Nat) (hc : q_co G c) (g : Int) (hv : q_cv M c) (hg : 0 ≤ g ∧ g < 6) : q_CI G yX1_dismiss wsX1_dismiss ({ frames := 1, cells := 0, slots := 0, locals := 20 } : Room) [.ref (q_ad G c), .int (q_I g)] M (fun z M' => z = q_cnt (fun x => q_has (M c 4) x && !decide (x = g)) ∧ M' = q_up M c 4 (q_set (fun x => q_has (M c 4) x && !decide (x = g)))) := by
  refine q_CI.of hI (by decide) rfl RX1 rfl [(0, .ref (q_ad G c)), (1, .int (q_I g))] rfl (Nat.le_of_ble_eq_true rfl) (fun E F FI => ?_)
  have huX1 : ∀ w ∈ wsX10, w ∈ wsX1_dismiss := by decide +kernel
  refine q_MRof (fun hM => ?_)
  have hv4 := hv.1
  have hv5 := hv.2.1
  refine q_aload_n F dX1_dismiss_0 0 rfl ?_
  refine q_dup F dX1_dismiss_1 rfl ?_
  refine q_geti (T := TX1) (ref := "LeastHungry$Company") F huX1 rfl hc.1 4 (by decide) (by decide +kernel) rfl 4 rfl rfl dX1_dismiss_2 (fun h2 => ?_)
  refine q_iconst F dX1_dismiss_5 ?_
  refine q_iload_n F dX1_dismiss_6 1 rfl ?_
  refine q_ishl F dX1_dismiss_7 (fun z7 e7 h7 => ?_)
  refine q_iconst F dX1_dismiss_8 ?_
  refine q_ixor F dX1_dismiss_9 (fun z9 e9 h9 => ?_)
  refine q_iand F dX1_dismiss_10 (fun z10 e10 h10 => ?_)
  have ze : z10 = q_set (fun x => q_has (M c 4) x && !decide (x = g)) := by rw [e10, e9, e7]; exact q_andb hv4.1 hv4.2 hg.1 hg.2
  refine q_puti (T := TX1) (ref := "LeastHungry$Company") F huX1 rfl hc.1 4 (by decide) (by decide +kernel) rfl 4 rfl tyX1 tyX1_ok nmX1 rfl rfl (by decide +kernel) (by omega) dX1_dismiss_11 (fun N11 eN11 => ?_)
  have u4 : N11 c 4 = z10 := by rw [eN11, q_up_at, if_pos rfl]
  refine q_aload_n F dX1_dismiss_14 0 rfl ?_
  refine q_geti (T := TX1) (ref := "LeastHungry$Company") F huX1 rfl hc.1 4 (by decide) (by decide +kernel) rfl 4 rfl rfl dX1_dismiss_15 (fun h15 => ?_)
  refine q_callSP (n := 1) F (c_J6_bitCount_0f7a4 G hI N11 _ (by rw [u4, ze]; exact q_set_R _)) rfl gX1_dismiss_J6_bitCount_0f7a4 ⟨by decide, by decide, by decide +kernel⟩ rfl ⟨rfl, rfl, Nat.le_of_ble_eq_true rfl, Nat.le_of_ble_eq_true rfl⟩ rfl (Nat.le_of_ble_eq_true rfl) dX1_dismiss_18 (fun h18 => ?_)
  exact q_iret F FI dX1_dismiss_21 (by omega) ⟨by rw [u4, ze]; exact q_cnt_congr (fun x x0 x1 => q_has_set x0 x1), by rw [eN11, ze]⟩

set_option maxHeartbeats 4000000 in
set_option maxRecDepth 100000 in
theorem c_X0_setFeud (G : q_G) (hI : q_inj G) (M : q_M) (b : Nat) (hb : q_bk G b) (g : Int) (q : Int) (w : Int) (hf : q_fm (M (b + 6))) (hg : (0 ≤ g ∧ g < 6) ∧ (0 ≤ q ∧ q < 6) ∧ (w = 0 ∨ w = 1)) : q_CV G yX0_setFeud wsX0_setFeud ({ frames := 1, cells := 0, slots := 0, locals := 22 } : Room) [.ref (q_ad G b), .int (q_I g), .int (q_I q), .int (q_I w)] M (fun M' => q_fr (b + 6) M M' ∧ M' (b + 6) = q_row (q_row (M (b + 6)) g (q_fset (M (b + 6)) g q w)) q (q_fset (M (b + 6)) q g w)) := by
  refine q_CV.of hI (by decide) rfl RX0 rfl [(0, .ref (q_ad G b)), (1, .int (q_I g)), (2, .int (q_I q)), (3, .int (q_I w))] rfl (Nat.le_of_ble_eq_true rfl) (fun E F FV => ?_)
  have huX0 : ∀ w ∈ wsX00, w ∈ wsX0_setFeud := by decide +kernel
  refine q_MRof (fun hM => ?_)
  have hfg := hf g hg.1.1 hg.1.2
  have hfq := hf q hg.2.1.1 hg.2.1.2
  refine q_aload_n F dX0_setFeud_0 0 rfl ?_
  refine q_getr (T := TX0) (ref := "LeastHungry$Book") F huX0 rfl hb.1 1 (by decide) (by decide +kernel) rfl rfl dX0_setFeud_1 ?_
  refine q_iload_n F dX0_setFeud_4 1 rfl ?_
  refine q_callNP (n := 2) F (c_X8_at G hI M (b + 6) 6 hb.2.2.1 g (by omega)) rfl gX0_setFeud_X8_at_n40 (host := RX8) (by decide +kernel) (by decide +kernel) (by decide +kernel) ⟨by decide, by decide, by decide +kernel⟩ rfl ⟨rfl, rfl, Nat.le_of_ble_eq_true rfl, Nat.le_of_ble_eq_true rfl⟩ rfl (Nat.le_of_ble_eq_true rfl) dX0_setFeud_5 (fun h5 => ?_)
  refine q_iconst F dX0_setFeud_8 ?_
  refine q_iload_n F dX0_setFeud_9 2 rfl ?_
  refine q_ishl F dX0_setFeud_10 (fun z10 e10 h10 => ?_)
  refine q_iconst F dX0_setFeud_11 ?_
  refine q_ixor F dX0_setFeud_12 (fun z12 e12 h12 => ?_)
  refine q_iand F dX0_setFeud_13 (fun z13 e13 h13 => ?_)
  have z13e : z13 = q_fset (M (b + 6)) g q 0 := by rw [e13, e12, e10]; exact q_fset_0 hfg hg.2.1
  refine q_istore F dX0_setFeud_14 [(4, .int (q_I z13)), (0, .ref (q_ad G b)), (1, .int (q_I g)), (2, .int (q_I q)), (3, .int (q_I w))] (Nat.le_of_ble_eq_true rfl) rfl ?_
  refine q_aload_n F dX0_setFeud_16 1 rfl ?_
  refine q_getr (T := TX0) (ref := "LeastHungry$Book") F huX0 rfl hb.1 1 (by decide) (by decide +kernel) rfl rfl dX0_setFeud_17 ?_
  refine q_iload_n F dX0_setFeud_20 3 rfl ?_
  refine q_callNP (n := 2) F (c_X8_at G hI M (b + 6) 6 hb.2.2.1 q (by omega)) rfl gX0_setFeud_X8_at_n40 (host := RX8) (by decide +kernel) (by decide +kernel) (by decide +kernel) ⟨by decide, by decide, by decide +kernel⟩ rfl ⟨rfl, rfl, Nat.le_of_ble_eq_true rfl, Nat.le_of_ble_eq_true rfl⟩ rfl (Nat.le_of_ble_eq_true rfl) dX0_setFeud_21 (fun h21 => ?_)
  refine q_iconst F dX0_setFeud_24 ?_
  refine q_iload_n F dX0_setFeud_25 2 rfl ?_
  refine q_ishl F dX0_setFeud_26 (fun z26 e26 h26 => ?_)
  refine q_iconst F dX0_setFeud_27 ?_
  refine q_ixor F dX0_setFeud_28 (fun z28 e28 h28 => ?_)
  refine q_iand F dX0_setFeud_29 (fun z29 e29 h29 => ?_)
  have z29e : z29 = q_fset (M (b + 6)) q g 0 := by rw [e29, e28, e26]; exact q_fset_0 hfq hg.1
  refine q_istore F dX0_setFeud_30 [(5, .int (q_I z29)), (4, .int (q_I z13)), (0, .ref (q_ad G b)), (1, .int (q_I g)), (2, .int (q_I q)), (3, .int (q_I w))] (Nat.le_of_ble_eq_true rfl) rfl ?_
  refine q_aload_n F dX0_setFeud_32 2 rfl ?_
  refine q_getr (T := TX0) (ref := "LeastHungry$Book") F huX0 rfl hb.1 1 (by decide) (by decide +kernel) rfl rfl dX0_setFeud_33 ?_
  refine q_iload_n F dX0_setFeud_36 3 rfl ?_
  refine q_iload_n F dX0_setFeud_37 5 rfl ?_
  refine q_if_eq F 50 dX0_setFeud_38 (by decide) (by omega) (fun c38 => ?_) (fun c38 => ?_)
  · refine q_iload F dX0_setFeud_50 1 rfl ?_
    refine q_callNV (n := 3) F (c_X8_put G hI M (b + 6) 6 hb.2.2.1 g z13 (by omega) (by omega)) rfl gX0_setFeud_X8_put_n44 (host := RX8) (by decide +kernel) (by decide +kernel) (by decide +kernel) ⟨by decide, by decide, by decide +kernel⟩ rfl ⟨rfl, rfl, Nat.le_of_ble_eq_true rfl, Nat.le_of_ble_eq_true rfl⟩ rfl (Nat.le_of_ble_eq_true rfl) dX0_setFeud_52 (fun N52 p52 => ?_)
    refine q_aload_n F dX0_setFeud_55 2 rfl ?_
    refine q_getr (T := TX0) (ref := "LeastHungry$Book") F huX0 rfl hb.1 1 (by decide) (by decide +kernel) rfl rfl dX0_setFeud_56 ?_
    refine q_iload_n F dX0_setFeud_59 4 rfl ?_
    refine q_iload_n F dX0_setFeud_60 5 rfl ?_
    refine q_if_eq F 73 dX0_setFeud_61 (by decide) (by omega) (fun c61 => ?_) (fun c61 => ?_)
    · refine q_iload F dX0_setFeud_73 0 rfl ?_
      refine q_callNV (n := 3) F (c_X8_put G hI N52 (b + 6) 6 hb.2.2.1 q z29 (by omega) (by omega)) rfl gX0_setFeud_X8_put_n44 (host := RX8) (by decide +kernel) (by decide +kernel) (by decide +kernel) ⟨by decide, by decide, by decide +kernel⟩ rfl ⟨rfl, rfl, Nat.le_of_ble_eq_true rfl, Nat.le_of_ble_eq_true rfl⟩ rfl (Nat.le_of_ble_eq_true rfl) dX0_setFeud_75 (fun N75 p75 => ?_)
      exact q_vret F FV dX0_setFeud_78 ⟨q_fr_tr (q_fr_up p52) (q_fr_up p75), by rw [p75, q_up_row, p52, q_up_row, c38, z13e, z29e]⟩
    · refine q_iload F dX0_setFeud_64 0 rfl ?_
      refine q_iconst F dX0_setFeud_66 ?_
      refine q_iload_n F dX0_setFeud_67 3 rfl ?_
      refine q_ishl F dX0_setFeud_68 (fun z68 e68 h68 => ?_)
      refine q_ior F dX0_setFeud_69 (fun z69 e69 h69 => ?_)
      refine q_goto F 75 dX0_setFeud_70 (by decide) ?_
      refine q_callNV (n := 3) F (c_X8_put G hI N52 (b + 6) 6 hb.2.2.1 q z69 (by omega) (by omega)) rfl gX0_setFeud_X8_put_n44 (host := RX8) (by decide +kernel) (by decide +kernel) (by decide +kernel) ⟨by decide, by decide, by decide +kernel⟩ rfl ⟨rfl, rfl, Nat.le_of_ble_eq_true rfl, Nat.le_of_ble_eq_true rfl⟩ rfl (Nat.le_of_ble_eq_true rfl) dX0_setFeud_75 (fun N75 p75 => ?_)
      exact q_vret F FV dX0_setFeud_78 (by exact absurd c38 c61)
  · refine q_iload F dX0_setFeud_41 1 rfl ?_
    refine q_iconst F dX0_setFeud_43 ?_
    refine q_iload_n F dX0_setFeud_44 4 rfl ?_
    refine q_ishl F dX0_setFeud_45 (fun z45 e45 h45 => ?_)
    refine q_ior F dX0_setFeud_46 (fun z46 e46 h46 => ?_)
    refine q_goto F 52 dX0_setFeud_47 (by decide) ?_
    refine q_callNV (n := 3) F (c_X8_put G hI M (b + 6) 6 hb.2.2.1 g z46 (by omega) (by omega)) rfl gX0_setFeud_X8_put_n44 (host := RX8) (by decide +kernel) (by decide +kernel) (by decide +kernel) ⟨by decide, by decide, by decide +kernel⟩ rfl ⟨rfl, rfl, Nat.le_of_ble_eq_true rfl, Nat.le_of_ble_eq_true rfl⟩ rfl (Nat.le_of_ble_eq_true rfl) dX0_setFeud_52 (fun N52 p52 => ?_)
    refine q_aload_n F dX0_setFeud_55 2 rfl ?_
    refine q_getr (T := TX0) (ref := "LeastHungry$Book") F huX0 rfl hb.1 1 (by decide) (by decide +kernel) rfl rfl dX0_setFeud_56 ?_
    refine q_iload_n F dX0_setFeud_59 4 rfl ?_
    refine q_iload_n F dX0_setFeud_60 5 rfl ?_
    refine q_if_eq F 73 dX0_setFeud_61 (by decide) (by omega) (fun c61 => ?_) (fun c61 => ?_)
    · refine q_iload F dX0_setFeud_73 0 rfl ?_
      refine q_callNV (n := 3) F (c_X8_put G hI N52 (b + 6) 6 hb.2.2.1 q z29 (by omega) (by omega)) rfl gX0_setFeud_X8_put_n44 (host := RX8) (by decide +kernel) (by decide +kernel) (by decide +kernel) ⟨by decide, by decide, by decide +kernel⟩ rfl ⟨rfl, rfl, Nat.le_of_ble_eq_true rfl, Nat.le_of_ble_eq_true rfl⟩ rfl (Nat.le_of_ble_eq_true rfl) dX0_setFeud_75 (fun N75 p75 => ?_)
      exact q_vret F FV dX0_setFeud_78 (by exact absurd c61 c38)
    · refine q_iload F dX0_setFeud_64 0 rfl ?_
      refine q_iconst F dX0_setFeud_66 ?_
      refine q_iload_n F dX0_setFeud_67 3 rfl ?_
      refine q_ishl F dX0_setFeud_68 (fun z68 e68 h68 => ?_)
      refine q_ior F dX0_setFeud_69 (fun z69 e69 h69 => ?_)
      refine q_goto F 75 dX0_setFeud_70 (by decide) ?_
      refine q_callNV (n := 3) F (c_X8_put G hI N52 (b + 6) 6 hb.2.2.1 q z69 (by omega) (by omega)) rfl gX0_setFeud_X8_put_n44 (host := RX8) (by decide +kernel) (by decide +kernel) (by decide +kernel) ⟨by decide, by decide, by decide +kernel⟩ rfl ⟨rfl, rfl, Nat.le_of_ble_eq_true rfl, Nat.le_of_ble_eq_true rfl⟩ rfl (Nat.le_of_ble_eq_true rfl) dX0_setFeud_75 (fun N75 p75 => ?_)
      exact q_vret F FV dX0_setFeud_78 ⟨q_fr_tr (q_fr_up p52) (q_fr_up p75), by rw [p75, q_up_row, p52, q_up_row, e46, e45, z13e, e69, e68, z29e, show w = 1 by omega, q_fset_1 hfg hg.2.1, q_fset_1 hfq hg.1]⟩

set_option maxHeartbeats 4000000 in
set_option maxRecDepth 100000 in
theorem c_X0_endFeudsOf (G : q_G) (hI : q_inj G) (M : q_M) (b : Nat) (hb : q_bk G b) (g : Int) (hf : q_fm (M (b + 6))) (hg : 0 ≤ g ∧ g < 6) : q_CV G yX0_endFeudsOf wsX0_endFeudsOf ({ frames := 2, cells := 0, slots := 0, locals := 47 } : Room) [.ref (q_ad G b), .int (q_I g)] M (fun M' => q_fr (b + 6) M M' ∧ ∀ x, 0 ≤ x → x < 6 → M' (b + 6) x = q_set (fun y => q_has (M (b + 6) x) y && !(decide (x = g) || decide (y = g)))) := by
  refine q_CV.of hI (by decide) rfl RX0 rfl [(0, .ref (q_ad G b)), (1, .int (q_I g))] rfl (Nat.le_of_ble_eq_true rfl) (fun E F FV => ?_)
  refine q_MRof (fun hM => ?_)
  refine q_iconst F dX0_endFeudsOf_0 ?_
  refine q_istore_n F dX0_endFeudsOf_1 [(2, .int (q_I 0)), (0, .ref (q_ad G b)), (1, .int (q_I g))] (Nat.le_of_ble_eq_true rfl) rfl ?_
  have lp2_1 : ∀ (k2_1 : Nat) (k : Int) (M1 : q_M), ((0 ≤ k ∧ k ≤ 6) ∧ q_fr (b + 6) M M1 ∧ q_fend (M (b + 6)) (M1 (b + 6)) g k) → (6 - k).toNat = k2_1 → q_Y G E 3 M1 [(0, .ref (q_ad G b)), (1, .int (q_I g)), (2, .int (q_I k))] 2 [] := by
    intro k2_1
    induction k2_1 using Nat.strongRecOn with
    | _ k2_1 ih2_1 =>
      intro k  M1 hi2 hk2
      refine q_MRof (fun hM2 => ?_)
      have hf1 := q_fend_fm hi2.2.2
      refine q_iload_n F dX0_endFeudsOf_2 2 rfl ?_
      refine q_bipush F dX0_endFeudsOf_3 (by decide) ?_
      refine q_icmp_ge F 21 dX0_endFeudsOf_5 (by decide) (by omega) (fun c5 => ?_) (fun c5 => ?_)
      · exact q_vret F FV dX0_endFeudsOf_21 ⟨hi2.2.1, q_fend_6 (by rw [show (6 : Int) = k by omega]; exact hi2.2.2)⟩
      · refine q_aload_n F dX0_endFeudsOf_8 0 rfl ?_
        refine q_iload_n F dX0_endFeudsOf_9 1 rfl ?_
        refine q_iload_n F dX0_endFeudsOf_10 2 rfl ?_
        refine q_iconst F dX0_endFeudsOf_11 ?_
        refine q_callVV (n := 3) (T := TX0) F (c_X0_setFeud G hI M1 b hb g k 0 hf1 (by omega)) rfl rfl hb.1 gX0_endFeudsOf_X0_setFeud rfl ⟨by decide, by decide, by decide +kernel⟩ rfl ⟨rfl, rfl, Nat.le_of_ble_eq_true rfl, Nat.le_of_ble_eq_true rfl⟩ rfl (Nat.le_of_ble_eq_true rfl) dX0_endFeudsOf_12 (fun N12 p12 => ?_)
        obtain ⟨v15, e15⟩ : ∃ z_ : Int, z_ = k + 1 := ⟨_, rfl⟩
        refine q_iinc F dX0_endFeudsOf_15 2 rfl e15 [(2, .int (q_I v15)), (0, .ref (q_ad G b)), (1, .int (q_I g))] (Nat.le_of_ble_eq_true rfl) rfl ?_
        refine q_goto F 2 dX0_endFeudsOf_18 (by decide) ?_
        refine q_drop [1, 2, 0] rfl ?_
        exact ih2_1 _ (by omega) v15 N12 ⟨by omega, q_fr_tr hi2.2.1 p12.1, by rw [p12.2, e15]; exact q_fend_s hf hi2.2.2 hg ⟨hi2.1.1, c5⟩⟩ rfl
  refine q_drop [1, 2, 0] rfl ?_
  exact lp2_1 _ 0 M ⟨by omega, q_fr_rf, q_fend_0 hf⟩ rfl

set_option maxHeartbeats 4000000 in
set_option maxRecDepth 100000 in
theorem c_X0_countFeuds (G : q_G) (hI : q_inj G) (M : q_M) (b : Nat) (hb : q_bk G b) (hf : q_fm (M (b + 6))) : q_CI G yX0_countFeuds wsX0_countFeuds ({ frames := 1, cells := 0, slots := 0, locals := 20 } : Room) [.ref (q_ad G b)] M (fun z M' => z = q_s6 (fun x => q_cnt (q_has (M (b + 6) x))) / 2 ∧ M' = M) := by
  refine q_CI.of hI (by decide) rfl RX0 rfl [(0, .ref (q_ad G b))] rfl (Nat.le_of_ble_eq_true rfl) (fun E F FI => ?_)
  have huX0 : ∀ w ∈ wsX00, w ∈ wsX0_countFeuds := by decide +kernel
  refine q_MRof (fun hM => ?_)
  have hR : ∀ x, 0 ≤ x → x < 6 → 0 ≤ (fun x => q_cnt (q_has (M (b + 6) x))) x ∧ (fun x => q_cnt (q_has (M (b + 6) x))) x ≤ 20 := fun x h0 h1 => by
      have := q_cnt_R (q_has (M (b + 6) x))
      show 0 ≤ q_cnt (q_has (M (b + 6) x)) ∧ q_cnt (q_has (M (b + 6) x)) ≤ 20
      omega
  refine q_iconst F dX0_countFeuds_0 ?_
  refine q_istore_n F dX0_countFeuds_1 [(1, .int (q_I 0)), (0, .ref (q_ad G b))] (Nat.le_of_ble_eq_true rfl) rfl ?_
  refine q_iconst F dX0_countFeuds_2 ?_
  refine q_istore_n F dX0_countFeuds_3 [(2, .int (q_I 0)), (1, .int (q_I 0)), (0, .ref (q_ad G b))] (Nat.le_of_ble_eq_true rfl) rfl ?_
  have lp4_1 : ∀ (k4_1 : Nat) (z : Int) (g : Int), (0 ≤ g ∧ g ≤ 6 ∧ z = q_s6 (q_lz (fun x => q_cnt (q_has (M (b + 6) x))) g)) → (6 - g).toNat = k4_1 → q_Y G E 3 M [(0, .ref (q_ad G b)), (1, .int (q_I z)), (2, .int (q_I g))] 4 [] := by
    intro k4_1
    induction k4_1 using Nat.strongRecOn with
    | _ k4_1 ih4_1 =>
      intro z g   hi4 hk4
      have hz : 0 ≤ z ∧ z ≤ 120 := by rw [hi4.2.2]; exact q_s6_B hR
      refine q_iload_n F dX0_countFeuds_4 2 rfl ?_
      refine q_aload_n F dX0_countFeuds_5 0 rfl ?_
      refine q_getr (T := TX0) (ref := "LeastHungry$Book") F huX0 rfl hb.1 1 (by decide) (by decide +kernel) rfl rfl dX0_countFeuds_6 ?_
      refine q_alen F 6 hb.2.2.1 rfl dX0_countFeuds_9 ?_
      refine q_icmp_ge F 31 dX0_countFeuds_10 (by decide) (by omega) (fun c10 => ?_) (fun c10 => ?_)
      · refine q_iload_n F dX0_countFeuds_31 1 rfl ?_
        refine q_iconst F dX0_countFeuds_32 ?_
        refine q_idiv F dX0_countFeuds_33 (by omega) ?_
        exact q_iret F FI dX0_countFeuds_34 (by omega) (by obtain ⟨h1, h2, h3⟩ := hi4; rw [h3, show g = 6 by omega, q_s6_6]; exact ⟨rfl, rfl⟩)
      · refine q_iload_n F dX0_countFeuds_13 1 rfl ?_
        refine q_aload_n F dX0_countFeuds_14 0 rfl ?_
        refine q_getr (T := TX0) (ref := "LeastHungry$Book") F huX0 rfl hb.1 1 (by decide) (by decide +kernel) rfl rfl dX0_countFeuds_15 ?_
        refine q_iload_n F dX0_countFeuds_18 2 rfl ?_
        refine q_iald F hb.2.2.1 (Nat.le_of_ble_eq_true rfl) (by omega) dX0_countFeuds_19 (fun h19 => ?_)
        refine q_callSP (n := 1) F (c_J6_bitCount_0f7a4 G hI M _ (hf g hi4.1 c10)) rfl gX0_countFeuds_J6_bitCount_0f7a4 ⟨by decide, by decide, by decide +kernel⟩ rfl ⟨rfl, rfl, Nat.le_of_ble_eq_true rfl, Nat.le_of_ble_eq_true rfl⟩ rfl (Nat.le_of_ble_eq_true rfl) dX0_countFeuds_20 (fun h20 => ?_)
        refine q_iadd F dX0_countFeuds_23 ?_
        refine q_nm (fun v24 e24 => ?_)
        refine q_istore_n F dX0_countFeuds_24 [(1, .int (q_I v24)), (0, .ref (q_ad G b)), (2, .int (q_I g))] (Nat.le_of_ble_eq_true rfl) rfl ?_
        obtain ⟨v25, e25⟩ : ∃ z_ : Int, z_ = g + 1 := ⟨_, rfl⟩
        refine q_iinc F dX0_countFeuds_25 2 rfl e25 [(2, .int (q_I v25)), (1, .int (q_I v24)), (0, .ref (q_ad G b))] (Nat.le_of_ble_eq_true rfl) rfl ?_
        refine q_goto F 4 dX0_countFeuds_28 (by decide) ?_
        refine q_drop [2, 1, 0] rfl ?_
        exact ih4_1 _ (by omega) v24 v25 (by obtain ⟨h1, h2, h3⟩ := hi4; refine ⟨by omega, by omega, ?_⟩; rw [e25, q_s6_step _ (by omega) (by omega), e24, h3]) rfl
  refine q_drop [2, 1, 0] rfl ?_
  exact lp4_1 _ 0 0 ⟨by omega, by omega, (q_s6_0 _).symm⟩ rfl

set_option maxHeartbeats 4000000 in
set_option maxRecDepth 100000 in
theorem c_X0_addSight (G : q_G) (hI : q_inj G) (M : q_M) (b : Nat) (hb : q_bk G b) (p : Int) (s : Int) (hs : q_sv M b) (hp : (-2147483648 ≤ p ∧ p ≤ 2147483647) ∧ (-2147483648 ≤ s ∧ s ≤ 2147483647)) : q_CI G yX0_addSight wsX0_addSight ({ frames := 1, cells := 0, slots := 0, locals := 22 } : Room) [.ref (q_ad G b), .int (q_I p), .int (q_I s)] M (fun z M' => (8 ≤ M b 4 → z = -4 ∧ M' = M) ∧ (M b 4 < 8 → z = M b 4 + 1 ∧ M' = q_up (q_up (q_up M (b + 7) (M b 4) p) (b + 8) (M b 4) s) b 4 (M b 4 + 1))) := by
  refine q_CI.of hI (by decide) rfl RX0 rfl [(0, .ref (q_ad G b)), (1, .int (q_I p)), (2, .int (q_I s))] rfl (Nat.le_of_ble_eq_true rfl) (fun E F FI => ?_)
  have huX0 : ∀ w ∈ wsX00, w ∈ wsX0_addSight := by decide +kernel
  refine q_MRof (fun hM => ?_)
  have hs4 := hs.1
  refine q_aload_n F dX0_addSight_0 0 rfl ?_
  refine q_geti (T := TX0) (ref := "LeastHungry$Book") F huX0 rfl hb.1 4 (by decide) (by decide +kernel) rfl 4 rfl rfl dX0_addSight_1 (fun h1 => ?_)
  refine q_bipush F dX0_addSight_4 (by decide) ?_
  refine q_icmp_lt F 12 dX0_addSight_6 (by decide) (by omega) (fun c6 => ?_) (fun c6 => ?_)
  · refine q_aload_n F dX0_addSight_12 0 rfl ?_
    refine q_getr (T := TX0) (ref := "LeastHungry$Book") F huX0 rfl hb.1 2 (by decide) (by decide +kernel) rfl rfl dX0_addSight_13 ?_
    refine q_aload_n F dX0_addSight_16 0 rfl ?_
    refine q_geti (T := TX0) (ref := "LeastHungry$Book") F huX0 rfl hb.1 4 (by decide) (by decide +kernel) rfl 4 rfl rfl dX0_addSight_17 (fun h17 => ?_)
    refine q_iload_n F dX0_addSight_20 1 rfl ?_
    refine q_callNV (n := 3) F (c_X8_put G hI M (b + 7) 8 hb.2.2.2.1 _ p (by omega) (by omega)) rfl gX0_addSight_X8_put_n44 (host := RX8) (by decide +kernel) (by decide +kernel) (by decide +kernel) ⟨by decide, by decide, by decide +kernel⟩ rfl ⟨rfl, rfl, Nat.le_of_ble_eq_true rfl, Nat.le_of_ble_eq_true rfl⟩ rfl (Nat.le_of_ble_eq_true rfl) dX0_addSight_21 (fun N21 p21 => ?_)
    have t4 : N21 b 4 = M b 4 := by rw [p21, q_up_ne (by omega)]
    refine q_aload_n F dX0_addSight_24 0 rfl ?_
    refine q_getr (T := TX0) (ref := "LeastHungry$Book") F huX0 rfl hb.1 3 (by decide) (by decide +kernel) rfl rfl dX0_addSight_25 ?_
    refine q_aload_n F dX0_addSight_28 0 rfl ?_
    refine q_geti (T := TX0) (ref := "LeastHungry$Book") F huX0 rfl hb.1 4 (by decide) (by decide +kernel) rfl 4 rfl rfl dX0_addSight_29 (fun h29 => ?_)
    refine q_iload_n F dX0_addSight_32 2 rfl ?_
    refine q_callNV (n := 3) F (c_X8_put G hI N21 (b + 8) 8 hb.2.2.2.2 _ s (by omega) (by omega)) rfl gX0_addSight_X8_put_n44 (host := RX8) (by decide +kernel) (by decide +kernel) (by decide +kernel) ⟨by decide, by decide, by decide +kernel⟩ rfl ⟨rfl, rfl, Nat.le_of_ble_eq_true rfl, Nat.le_of_ble_eq_true rfl⟩ rfl (Nat.le_of_ble_eq_true rfl) dX0_addSight_33 (fun N33 p33 => ?_)
    have u4 : N33 b 4 = M b 4 := by rw [p33, q_up_ne (by omega), t4]
    refine q_aload_n F dX0_addSight_36 0 rfl ?_
    refine q_dup F dX0_addSight_37 rfl ?_
    refine q_geti (T := TX0) (ref := "LeastHungry$Book") F huX0 rfl hb.1 4 (by decide) (by decide +kernel) rfl 4 rfl rfl dX0_addSight_38 (fun h38 => ?_)
    refine q_iconst F dX0_addSight_41 ?_
    refine q_iadd F dX0_addSight_42 ?_
    refine q_puti (T := TX0) (ref := "LeastHungry$Book") F huX0 rfl hb.1 4 (by decide) (by decide +kernel) rfl 4 rfl tyX0 tyX0_ok nmX0 rfl rfl (by decide +kernel) (by omega) dX0_addSight_43 (fun N43 eN43 => ?_)
    have w4 : N43 b 4 = M b 4 + 1 := by rw [eN43, q_up_at, if_pos rfl, u4]
    refine q_aload_n F dX0_addSight_46 0 rfl ?_
    refine q_geti (T := TX0) (ref := "LeastHungry$Book") F huX0 rfl hb.1 4 (by decide) (by decide +kernel) rfl 4 rfl rfl dX0_addSight_47 (fun h47 => ?_)
    exact q_iret F FI dX0_addSight_50 (by omega) ⟨fun h => absurd h (by omega), fun _ => ⟨w4, by rw [eN43, u4, p33, t4, p21]⟩⟩
  · refine q_bipush F dX0_addSight_9 (by decide) ?_
    exact q_iret F FI dX0_addSight_11 (by omega) ⟨fun _ => ⟨rfl, rfl⟩, fun h => absurd h (by omega)⟩

set_option maxHeartbeats 4000000 in
set_option maxRecDepth 100000 in
theorem c_X0_fits (G : q_G) (hI : q_inj G) (M : q_M) (b : Nat) (hb : q_bk G b) (k : Nat) (hk : q_sh G k = some (.inl (false, 10))) (hs : q_sv M b) : q_CI G yX0_fits wsX0_fits ({ frames := 1, cells := 0, slots := 0, locals := 21 } : Room) [.ref (q_ad G b), .ref (q_ad G k)] M (fun z M' => z = q_b (q_fit (M (b + 7)) (M (b + 8)) (M k) (M b 4).toNat) ∧ M' = M) := by
  refine q_CI.of hI (by decide) rfl RX0 rfl [(0, .ref (q_ad G b)), (1, .ref (q_ad G k))] rfl (Nat.le_of_ble_eq_true rfl) (fun E F FI => ?_)
  have huX0 : ∀ w ∈ wsX00, w ∈ wsX0_fits := by decide +kernel
  refine q_MRof (fun hM => ?_)
  have hs4 := hs.1
  refine q_iconst F dX0_fits_0 ?_
  refine q_istore_n F dX0_fits_1 [(2, .int (q_I 0)), (0, .ref (q_ad G b)), (1, .ref (q_ad G k))] (Nat.le_of_ble_eq_true rfl) rfl ?_
  have lp2_1 : ∀ (k2_1 : Nat) (i : Int), (0 ≤ i ∧ i ≤ M b 4 ∧ q_fit (M (b + 7)) (M (b + 8)) (M k) i.toNat = true) → (M b 4 - i).toNat = k2_1 → q_Y G E 3 M [(0, .ref (q_ad G b)), (1, .ref (q_ad G k)), (2, .int (q_I i))] 2 [] := by
    intro k2_1
    induction k2_1 using Nat.strongRecOn with
    | _ k2_1 ih2_1 =>
      intro i   hi2 hk2
      have hsi := hs.2 i hi2.1
      refine q_iload_n F dX0_fits_2 2 rfl ?_
      refine q_aload_n F dX0_fits_3 0 rfl ?_
      refine q_geti (T := TX0) (ref := "LeastHungry$Book") F huX0 rfl hb.1 4 (by decide) (by decide +kernel) rfl 4 rfl rfl dX0_fits_4 (fun h4 => ?_)
      refine q_icmp_ge F 47 dX0_fits_7 (by decide) (by omega) (fun c7 => ?_) (fun c7 => ?_)
      · refine q_iconst F dX0_fits_47 ?_
        exact q_zret F FI dX0_fits_48 (by omega) ⟨by rw [show M b 4 = i by omega, hi2.2.2]; rfl, rfl⟩
      · refine q_iload_n F dX0_fits_10 2 rfl ?_
        refine q_bipush F dX0_fits_11 (by decide) ?_
        refine q_icmp_ge F 47 dX0_fits_13 (by decide) (by omega) (fun c13 => ?_) (fun c13 => ?_)
        · exfalso; omega
        refine q_aload_n F dX0_fits_16 1 rfl ?_
        refine q_aload_n F dX0_fits_17 0 rfl ?_
        refine q_getr (T := TX0) (ref := "LeastHungry$Book") F huX0 rfl hb.1 2 (by decide) (by decide +kernel) rfl rfl dX0_fits_18 ?_
        refine q_iload_n F dX0_fits_21 2 rfl ?_
        refine q_callNP (n := 2) F (c_X8_at G hI M (b + 7) 8 hb.2.2.2.1 i (by omega)) rfl gX0_fits_X8_at_n40 (host := RX8) (by decide +kernel) (by decide +kernel) (by decide +kernel) ⟨by decide, by decide, by decide +kernel⟩ rfl ⟨rfl, rfl, Nat.le_of_ble_eq_true rfl, Nat.le_of_ble_eq_true rfl⟩ rfl (Nat.le_of_ble_eq_true rfl) dX0_fits_22 (fun h22 => ?_)
        refine q_callNP (n := 2) F (c_X8_at G hI M k 10 hk _ (by omega)) rfl gX0_fits_X8_at_n40 (host := RX8) (by decide +kernel) (by decide +kernel) (by decide +kernel) ⟨by decide, by decide, by decide +kernel⟩ rfl ⟨rfl, rfl, Nat.le_of_ble_eq_true rfl, Nat.le_of_ble_eq_true rfl⟩ rfl (Nat.le_of_ble_eq_true rfl) dX0_fits_25 (fun h25 => ?_)
        refine q_aload_n F dX0_fits_28 0 rfl ?_
        refine q_getr (T := TX0) (ref := "LeastHungry$Book") F huX0 rfl hb.1 3 (by decide) (by decide +kernel) rfl rfl dX0_fits_29 ?_
        refine q_iload_n F dX0_fits_32 2 rfl ?_
        refine q_callNP (n := 2) F (c_X8_at G hI M (b + 8) 8 hb.2.2.2.2 i (by omega)) rfl gX0_fits_X8_at_n40 (host := RX8) (by decide +kernel) (by decide +kernel) (by decide +kernel) ⟨by decide, by decide, by decide +kernel⟩ rfl ⟨rfl, rfl, Nat.le_of_ble_eq_true rfl, Nat.le_of_ble_eq_true rfl⟩ rfl (Nat.le_of_ble_eq_true rfl) dX0_fits_33 (fun h33 => ?_)
        refine q_icmp_eq F 41 dX0_fits_36 (by decide) (by omega) (fun c36 => ?_) (fun c36 => ?_)
        · obtain ⟨v41, e41⟩ : ∃ z_ : Int, z_ = i + 1 := ⟨_, rfl⟩
          refine q_iinc F dX0_fits_41 2 rfl e41 [(2, .int (q_I v41)), (0, .ref (q_ad G b)), (1, .ref (q_ad G k))] (Nat.le_of_ble_eq_true rfl) rfl ?_
          refine q_goto F 2 dX0_fits_44 (by decide) ?_
          refine q_drop [1, 2, 0] rfl ?_
          exact ih2_1 _ (by omega) v41 ⟨by omega, by omega, by rw [show v41.toNat = i.toNat + 1 by omega, q_fit_s, hi2.2.2, Int.toNat_of_nonneg hi2.1, c36]; simp⟩ rfl
        · refine q_iconst F dX0_fits_39 ?_
          exact q_zret F FI dX0_fits_40 (by omega) ⟨by rw [q_fit_no hi2.1 c7 c36]; rfl, rfl⟩
  refine q_drop [1, 2, 0] rfl ?_
  exact lp2_1 _ 0 ⟨by omega, by omega, rfl⟩ rfl

set_option maxHeartbeats 4000000 in
set_option maxRecDepth 100000 in
theorem c_X3_add (G : q_G) (hI : q_inj G) (M : q_M) (p : Nat) (hp : q_pd G p) (s : Int) (hv : q_pv M p) (hs : -2147483648 ≤ s ∧ s ≤ 2147483647) : q_CI G yX3_add wsX3_add ({ frames := 1, cells := 0, slots := 0, locals := 22 } : Room) [.ref (q_ad G p), .int (q_I s)] M (fun z M' => (60 ≤ M p 1 → z = -4 ∧ M' = M) ∧ (M p 1 < 60 → z = M p 1 + 1 ∧ M' = q_up (q_up M (p + 1) (M p 1) s) p 1 (M p 1 + 1))) := by
  refine q_CI.of hI (by decide) rfl RX3 rfl [(0, .ref (q_ad G p)), (1, .int (q_I s))] rfl (Nat.le_of_ble_eq_true rfl) (fun E F FI => ?_)
  have huX3 : ∀ w ∈ wsX30, w ∈ wsX3_add := by decide +kernel
  refine q_MRof (fun hM => ?_)
  have hv1 := hv.1
  refine q_aload_n F dX3_add_0 0 rfl ?_
  refine q_geti (T := TX3) (ref := "LeastHungry$Pad") F huX3 rfl hp.1 1 (by decide) (by decide +kernel) rfl 1 rfl rfl dX3_add_1 (fun h1 => ?_)
  refine q_bipush F dX3_add_4 (by decide) ?_
  refine q_icmp_lt F 12 dX3_add_6 (by decide) (by omega) (fun c6 => ?_) (fun c6 => ?_)
  · refine q_aload_n F dX3_add_12 0 rfl ?_
    refine q_getr (T := TX3) (ref := "LeastHungry$Pad") F huX3 rfl hp.1 0 (by decide) (by decide +kernel) rfl rfl dX3_add_13 ?_
    refine q_aload_n F dX3_add_16 0 rfl ?_
    refine q_geti (T := TX3) (ref := "LeastHungry$Pad") F huX3 rfl hp.1 1 (by decide) (by decide +kernel) rfl 1 rfl rfl dX3_add_17 (fun h17 => ?_)
    refine q_iload_n F dX3_add_20 1 rfl ?_
    refine q_callNV (n := 3) F (c_X8_put G hI M (p + 1) 60 hp.2 _ s (by omega) (by omega)) rfl gX3_add_X8_put_n19 (host := RX8) (by decide +kernel) (by decide +kernel) (by decide +kernel) ⟨by decide, by decide, by decide +kernel⟩ rfl ⟨rfl, rfl, Nat.le_of_ble_eq_true rfl, Nat.le_of_ble_eq_true rfl⟩ rfl (Nat.le_of_ble_eq_true rfl) dX3_add_21 (fun N21 p21 => ?_)
    have t4 : N21 p 1 = M p 1 := by rw [p21, q_up_ne (by omega)]
    refine q_aload_n F dX3_add_24 0 rfl ?_
    refine q_dup F dX3_add_25 rfl ?_
    refine q_geti (T := TX3) (ref := "LeastHungry$Pad") F huX3 rfl hp.1 1 (by decide) (by decide +kernel) rfl 1 rfl rfl dX3_add_26 (fun h26 => ?_)
    refine q_iconst F dX3_add_29 ?_
    refine q_iadd F dX3_add_30 ?_
    refine q_puti (T := TX3) (ref := "LeastHungry$Pad") F huX3 rfl hp.1 1 (by decide) (by decide +kernel) rfl 1 rfl tyX3 tyX3_ok nmX3 rfl rfl (by decide +kernel) (by omega) dX3_add_31 (fun N31 eN31 => ?_)
    have w4 : N31 p 1 = M p 1 + 1 := by rw [eN31, q_up_at, if_pos rfl, t4]
    refine q_aload_n F dX3_add_34 0 rfl ?_
    refine q_geti (T := TX3) (ref := "LeastHungry$Pad") F huX3 rfl hp.1 1 (by decide) (by decide +kernel) rfl 1 rfl rfl dX3_add_35 (fun h35 => ?_)
    exact q_iret F FI dX3_add_38 (by omega) ⟨fun h => absurd h (by omega), fun _ => ⟨w4, by rw [eN31, t4, p21]⟩⟩
  · refine q_bipush F dX3_add_9 (by decide) ?_
    exact q_iret F FI dX3_add_11 (by omega) ⟨fun _ => ⟨rfl, rfl⟩, fun h => absurd h (by omega)⟩

set_option maxHeartbeats 4000000 in
set_option maxRecDepth 100000 in
theorem c_X3_clear (G : q_G) (hI : q_inj G) (M : q_M) (p : Nat) (hp : q_pd G p) : q_CI G yX3_clear wsX3_clear ({ frames := 0, cells := 0, slots := 0, locals := 0 } : Room) [.ref (q_ad G p)] M (fun z M' => z = M p 1 ∧ M' = q_up M p 1 0) := by
  refine q_CI.of hI (by decide) rfl RX3 rfl [(0, .ref (q_ad G p))] rfl (Nat.le_of_ble_eq_true rfl) (fun E F FI => ?_)
  have huX3 : ∀ w ∈ wsX30, w ∈ wsX3_clear := by decide +kernel
  refine q_MRof (fun hM => ?_)
  refine q_aload_n F dX3_clear_0 0 rfl ?_
  refine q_geti (T := TX3) (ref := "LeastHungry$Pad") F huX3 rfl hp.1 1 (by decide) (by decide +kernel) rfl 1 rfl rfl dX3_clear_1 (fun h1 => ?_)
  refine q_nm (fun v4 e4 => ?_)
  refine q_istore_n F dX3_clear_4 [(1, .int (q_I v4)), (0, .ref (q_ad G p))] (Nat.le_of_ble_eq_true rfl) rfl ?_
  refine q_aload_n F dX3_clear_5 1 rfl ?_
  refine q_iconst F dX3_clear_6 ?_
  refine q_puti (T := TX3) (ref := "LeastHungry$Pad") F huX3 rfl hp.1 1 (by decide) (by decide +kernel) rfl 1 rfl tyX3 tyX3_ok nmX3 rfl rfl (by decide +kernel) (by omega) dX3_clear_7 (fun N7 eN7 => ?_)
  refine q_iload_n F dX3_clear_10 0 rfl ?_
  exact q_iret F FI dX3_clear_11 (by omega) ⟨e4, eN7⟩

set_option maxHeartbeats 4000000 in
set_option maxRecDepth 100000 in
theorem c_X3_signAt (G : q_G) (hI : q_inj G) (M : q_M) (p : Nat) (hp : q_pd G p) (i : Int) (hv : q_pv M p) (hi : 0 ≤ i ∧ i ≤ 100) : q_CI G yX3_signAt wsX3_signAt ({ frames := 1, cells := 0, slots := 0, locals := 21 } : Room) [.ref (q_ad G p), .int (q_I i)] M (fun z M' => z = q_sg M p i ∧ M' = M) := by
  refine q_CI.of hI (by decide) rfl RX3 rfl [(0, .ref (q_ad G p)), (1, .int (q_I i))] rfl (Nat.le_of_ble_eq_true rfl) (fun E F FI => ?_)
  have huX3 : ∀ w ∈ wsX30, w ∈ wsX3_signAt := by decide +kernel
  refine q_MRof (fun hM => ?_)
  have hv1 := hv.1
  refine q_iload_n F dX3_signAt_0 1 rfl ?_
  refine q_aload_n F dX3_signAt_1 0 rfl ?_
  refine q_geti (T := TX3) (ref := "LeastHungry$Pad") F huX3 rfl hp.1 1 (by decide) (by decide +kernel) rfl 1 rfl rfl dX3_signAt_2 (fun h2 => ?_)
  refine q_icmp_ge F 19 dX3_signAt_5 (by decide) (by omega) (fun c5 => ?_) (fun c5 => ?_)
  · refine q_iconst F dX3_signAt_19 ?_
    exact q_iret F FI dX3_signAt_20 (by omega) ⟨by unfold q_sg; rw [if_neg (by omega)], rfl⟩
  · refine q_aload_n F dX3_signAt_8 0 rfl ?_
    refine q_getr (T := TX3) (ref := "LeastHungry$Pad") F huX3 rfl hp.1 0 (by decide) (by decide +kernel) rfl rfl dX3_signAt_9 ?_
    refine q_iload_n F dX3_signAt_12 1 rfl ?_
    refine q_callNP (n := 2) F (c_X8_at G hI M (p + 1) 60 hp.2 i (by omega)) rfl gX3_signAt_X8_at_n23 (host := RX8) (by decide +kernel) (by decide +kernel) (by decide +kernel) ⟨by decide, by decide, by decide +kernel⟩ rfl ⟨rfl, rfl, Nat.le_of_ble_eq_true rfl, Nat.le_of_ble_eq_true rfl⟩ rfl (Nat.le_of_ble_eq_true rfl) dX3_signAt_13 (fun h13 => ?_)
    refine q_goto F 20 dX3_signAt_16 (by decide) ?_
    exact q_iret F FI dX3_signAt_20 (by omega) ⟨by unfold q_sg; rw [if_pos c5], rfl⟩

set_option maxHeartbeats 4000000 in
set_option maxRecDepth 100000 in
theorem c_X3_isHouseSign (G : q_G) (hI : q_inj G) (M : q_M) (s : Int) (hs : -2147483648 ≤ s ∧ s ≤ 2147483647) : q_CI G yX3_isHouseSign wsX3_isHouseSign ({ frames := 0, cells := 0, slots := 0, locals := 0 } : Room) [.int (q_I s)] M (fun z M' => z = q_b (q_house s) ∧ M' = M) := by
  refine q_CI.of hI (by decide) rfl RX3 rfl [(0, .int (q_I s))] rfl (Nat.le_of_ble_eq_true rfl) (fun E F FI => ?_)
  refine q_MRof (fun hM => ?_)
  refine q_iload_n F dX3_isHouseSign_0 0 rfl ?_
  refine q_bipush F dX3_isHouseSign_1 (by decide) ?_
  refine q_icmp_lt F 16 dX3_isHouseSign_3 (by decide) (by omega) (fun c3 => ?_) (fun c3 => ?_)
  · refine q_iconst F dX3_isHouseSign_16 ?_
    exact q_zret F FI dX3_isHouseSign_17 (by first | exact q_b01 _ | omega) (by first | exact ⟨(q_b_t (by omega)).symm, rfl⟩ | exact ⟨(q_b_f (by omega)).symm, rfl⟩)
  · refine q_iload_n F dX3_isHouseSign_6 0 rfl ?_
    refine q_bipush F dX3_isHouseSign_7 (by decide) ?_
    refine q_icmp_ge F 16 dX3_isHouseSign_9 (by decide) (by omega) (fun c9 => ?_) (fun c9 => ?_)
    · refine q_iconst F dX3_isHouseSign_16 ?_
      exact q_zret F FI dX3_isHouseSign_17 (by first | exact q_b01 _ | omega) (by first | exact ⟨(q_b_t (by omega)).symm, rfl⟩ | exact ⟨(q_b_f (by omega)).symm, rfl⟩)
    · refine q_iconst F dX3_isHouseSign_12 ?_
      refine q_goto F 17 dX3_isHouseSign_13 (by decide) ?_
      exact q_zret F FI dX3_isHouseSign_17 (by first | exact q_b01 _ | omega) (by first | exact ⟨(q_b_t (by omega)).symm, rfl⟩ | exact ⟨(q_b_f (by omega)).symm, rfl⟩)

set_option maxHeartbeats 4000000 in
set_option maxRecDepth 100000 in
theorem c_X3_isGuestSign (G : q_G) (hI : q_inj G) (M : q_M) (s : Int) (hs : -2147483648 ≤ s ∧ s ≤ 2147483647) : q_CI G yX3_isGuestSign wsX3_isGuestSign ({ frames := 0, cells := 0, slots := 0, locals := 0 } : Room) [.int (q_I s)] M (fun z M' => z = q_b (q_guest s) ∧ M' = M) := by
  refine q_CI.of hI (by decide) rfl RX3 rfl [(0, .int (q_I s))] rfl (Nat.le_of_ble_eq_true rfl) (fun E F FI => ?_)
  refine q_MRof (fun hM => ?_)
  refine q_iload_n F dX3_isGuestSign_0 0 rfl ?_
  refine q_bipush F dX3_isGuestSign_1 (by decide) ?_
  refine q_icmp_lt F 16 dX3_isGuestSign_3 (by decide) (by omega) (fun c3 => ?_) (fun c3 => ?_)
  · refine q_iconst F dX3_isGuestSign_16 ?_
    exact q_zret F FI dX3_isGuestSign_17 (by first | exact q_b01 _ | omega) (by first | exact ⟨(q_b_t (by omega)).symm, rfl⟩ | exact ⟨(q_b_f (by omega)).symm, rfl⟩)
  · refine q_iload_n F dX3_isGuestSign_6 0 rfl ?_
    refine q_bipush F dX3_isGuestSign_7 (by decide) ?_
    refine q_icmp_ge F 16 dX3_isGuestSign_9 (by decide) (by omega) (fun c9 => ?_) (fun c9 => ?_)
    · refine q_iconst F dX3_isGuestSign_16 ?_
      exact q_zret F FI dX3_isGuestSign_17 (by first | exact q_b01 _ | omega) (by first | exact ⟨(q_b_t (by omega)).symm, rfl⟩ | exact ⟨(q_b_f (by omega)).symm, rfl⟩)
    · refine q_iconst F dX3_isGuestSign_12 ?_
      refine q_goto F 17 dX3_isGuestSign_13 (by decide) ?_
      exact q_zret F FI dX3_isGuestSign_17 (by first | exact q_b01 _ | omega) (by first | exact ⟨(q_b_t (by omega)).symm, rfl⟩ | exact ⟨(q_b_f (by omega)).symm, rfl⟩)

set_option maxHeartbeats 4000000 in
set_option maxRecDepth 100000 in
theorem c_X3_canFollow (G : q_G) (hI : q_inj G) (M : q_M) (s : Int) (x : Int) (hs : (-2147483648 ≤ s ∧ s ≤ 2147483647) ∧ (-2147483648 ≤ x ∧ x ≤ 2147483647)) : q_CI G yX3_canFollow wsX3_canFollow ({ frames := 1, cells := 0, slots := 0, locals := 20 } : Room) [.int (q_I s), .int (q_I x)] M (fun z M' => z = q_b (q_foll s x) ∧ M' = M) := by
  refine q_CI.of hI (by decide) rfl RX3 rfl [(0, .int (q_I s)), (1, .int (q_I x))] rfl (Nat.le_of_ble_eq_true rfl) (fun E F FI => ?_)
  refine q_MRof (fun hM => ?_)
  refine q_iload_n F dX3_canFollow_0 0 rfl ?_
  refine q_callSP (n := 1) F (c_X3_isHouseSign G hI M s (by omega)) rfl gX3_canFollow_X3_isHouseSign ⟨by decide, by decide, by decide +kernel⟩ rfl ⟨rfl, rfl, Nat.le_of_ble_eq_true rfl, Nat.le_of_ble_eq_true rfl⟩ rfl (Nat.le_of_ble_eq_true rfl) dX3_canFollow_1 (fun h1 => ?_)
  refine q_ifb_eq F 25 dX3_canFollow_4 (by decide) (fun c4 => ?_) (fun c4 => ?_)
  · refine q_iload_n F dX3_canFollow_25 1 rfl ?_
    refine q_callSP (n := 1) F (c_X3_isHouseSign G hI M x (by omega)) rfl gX3_canFollow_X3_isHouseSign ⟨by decide, by decide, by decide +kernel⟩ rfl ⟨rfl, rfl, Nat.le_of_ble_eq_true rfl, Nat.le_of_ble_eq_true rfl⟩ rfl (Nat.le_of_ble_eq_true rfl) dX3_canFollow_26 (fun h26 => ?_)
    refine q_ifb_ne F 44 dX3_canFollow_29 (by decide) (fun c29 => ?_) (fun c29 => ?_)
    · refine q_iconst F dX3_canFollow_44 ?_
      refine q_goto F 49 dX3_canFollow_45 (by decide) ?_
      exact q_zret F FI dX3_canFollow_49 (by first | exact q_b01 _ | omega) ⟨by unfold q_foll; rw [if_neg (by simp [c4]), c29]; rfl, rfl⟩
    · refine q_iload_n F dX3_canFollow_32 1 rfl ?_
      refine q_bipush F dX3_canFollow_33 (by decide) ?_
      refine q_icmp_lt F 48 dX3_canFollow_35 (by decide) (by omega) (fun c35 => ?_) (fun c35 => ?_)
      · refine q_iconst F dX3_canFollow_48 ?_
        exact q_zret F FI dX3_canFollow_49 (by first | exact q_b01 _ | omega) ⟨by unfold q_foll; rw [if_neg (by simp [c4]), c29, Bool.false_or]; first | exact (q_b_t (by omega)).symm | exact (q_b_f (by omega)).symm, rfl⟩
      · refine q_iload_n F dX3_canFollow_38 1 rfl ?_
        refine q_bipush F dX3_canFollow_39 (by decide) ?_
        refine q_icmp_gt F 48 dX3_canFollow_41 (by decide) (by omega) (fun c41 => ?_) (fun c41 => ?_)
        · refine q_iconst F dX3_canFollow_48 ?_
          exact q_zret F FI dX3_canFollow_49 (by first | exact q_b01 _ | omega) ⟨by unfold q_foll; rw [if_neg (by simp [c4]), c29, Bool.false_or]; first | exact (q_b_t (by omega)).symm | exact (q_b_f (by omega)).symm, rfl⟩
        · refine q_iconst F dX3_canFollow_44 ?_
          refine q_goto F 49 dX3_canFollow_45 (by decide) ?_
          exact q_zret F FI dX3_canFollow_49 (by first | exact q_b01 _ | omega) ⟨by unfold q_foll; rw [if_neg (by simp [c4]), c29, Bool.false_or]; first | exact (q_b_t (by omega)).symm | exact (q_b_f (by omega)).symm, rfl⟩
  · refine q_iload_n F dX3_canFollow_7 1 rfl ?_
    refine q_bipush F dX3_canFollow_8 (by decide) ?_
    refine q_icmp_lt F 23 dX3_canFollow_10 (by decide) (by omega) (fun c10 => ?_) (fun c10 => ?_)
    · refine q_iconst F dX3_canFollow_23 ?_
      exact q_zret F FI dX3_canFollow_24 (by first | exact q_b01 _ | omega) ⟨by unfold q_foll; rw [if_pos c4]; first | exact (q_b_t (by omega)).symm | exact (q_b_f (by omega)).symm, rfl⟩
    · refine q_iload_n F dX3_canFollow_13 1 rfl ?_
      refine q_bipush F dX3_canFollow_14 (by decide) ?_
      refine q_icmp_gt F 23 dX3_canFollow_16 (by decide) (by omega) (fun c16 => ?_) (fun c16 => ?_)
      · refine q_iconst F dX3_canFollow_23 ?_
        exact q_zret F FI dX3_canFollow_24 (by first | exact q_b01 _ | omega) ⟨by unfold q_foll; rw [if_pos c4]; first | exact (q_b_t (by omega)).symm | exact (q_b_f (by omega)).symm, rfl⟩
      · refine q_iconst F dX3_canFollow_19 ?_
        refine q_goto F 24 dX3_canFollow_20 (by decide) ?_
        exact q_zret F FI dX3_canFollow_24 (by first | exact q_b01 _ | omega) ⟨by unfold q_foll; rw [if_pos c4]; first | exact (q_b_t (by omega)).symm | exact (q_b_f (by omega)).symm, rfl⟩

set_option maxHeartbeats 4000000 in
set_option maxRecDepth 100000 in
theorem c_X3_firstFault (G : q_G) (hI : q_inj G) (M : q_M) (p : Nat) (hp : q_pd G p) (hv : q_pv M p) : q_CI G yX3_firstFault wsX3_firstFault ({ frames := 2, cells := 0, slots := 0, locals := 42 } : Room) [.ref (q_ad G p)] M (fun z M' => z = q_flt (M (p + 1)) (M p 1) 61 0 ∧ M' = M) := by
  refine q_CI.of hI (by decide) rfl RX3 rfl [(0, .ref (q_ad G p))] rfl (Nat.le_of_ble_eq_true rfl) (fun E F FI => ?_)
  have huX3 : ∀ w ∈ wsX30, w ∈ wsX3_firstFault := by decide +kernel
  refine q_MRof (fun hM => ?_)
  have hv1 := hv.1
  refine q_iconst F dX3_firstFault_0 ?_
  refine q_istore_n F dX3_firstFault_1 [(1, .int (q_I 0)), (0, .ref (q_ad G p))] (Nat.le_of_ble_eq_true rfl) rfl ?_
  have lp2_1 : ∀ (k2_1 : Nat) (i : Int) (m : Nat), (0 ≤ i ∧ i ≤ 61 ∧ M p 1 - i ≤ m ∧ q_flt (M (p + 1)) (M p 1) (m + 1) i = q_flt (M (p + 1)) (M p 1) 61 0) → m = k2_1 → q_Y G E 3 M [(0, .ref (q_ad G p)), (1, .int (q_I i))] 2 [] := by
    intro k2_1
    induction k2_1 using Nat.strongRecOn with
    | _ k2_1 ih2_1 =>
      intro i m  hi2 hk2
      have hsg := q_sg_R hv i hi2.1
      have hsg1 := q_sg_R hv (i + 1) (by omega)
      have hun := q_flt_u (M (p + 1)) (M p 1) m i
      refine q_iload_n F dX3_firstFault_2 1 rfl ?_
      refine q_aload_n F dX3_firstFault_3 0 rfl ?_
      refine q_geti (T := TX3) (ref := "LeastHungry$Pad") F huX3 rfl hp.1 1 (by decide) (by decide +kernel) rfl 1 rfl rfl dX3_firstFault_4 (fun h4 => ?_)
      refine q_icmp_ge F 64 dX3_firstFault_7 (by decide) (by omega) (fun c7 => ?_) (fun c7 => ?_)
      · refine q_bipush F dX3_firstFault_64 (by decide) ?_
        exact q_iret F FI dX3_firstFault_66 (by omega) ⟨by rw [← hi2.2.2.2, hun, if_pos c7], rfl⟩
      · refine q_aload_n F dX3_firstFault_10 0 rfl ?_
        refine q_iload_n F dX3_firstFault_11 1 rfl ?_
        refine q_callVP (n := 1) (T := TX3) F (c_X3_signAt G hI M p hp i (by assumption) (by omega)) rfl rfl hp.1 gX3_firstFault_X3_signAt rfl ⟨by decide, by decide, by decide +kernel⟩ rfl ⟨rfl, rfl, Nat.le_of_ble_eq_true rfl, Nat.le_of_ble_eq_true rfl⟩ rfl (Nat.le_of_ble_eq_true rfl) dX3_firstFault_12 (fun h12 => ?_)
        refine q_nm (fun v15 e15 => ?_)
        refine q_istore_n F dX3_firstFault_15 [(2, .int (q_I v15)), (0, .ref (q_ad G p)), (1, .int (q_I i))] (Nat.le_of_ble_eq_true rfl) rfl ?_
        have s15 : M (p + 1) i = v15 := by rw [e15]; unfold q_sg; rw [if_pos c7]
        refine q_iload_n F dX3_firstFault_16 0 rfl ?_
        refine q_bipush F dX3_firstFault_17 (by decide) ?_
        refine q_icmp_ne F 25 dX3_firstFault_19 (by decide) (by omega) (fun c19 => ?_) (fun c19 => ?_)
        · refine q_iload_n F dX3_firstFault_25 0 rfl ?_
          refine q_callSP (n := 1) F (c_X3_isHouseSign G hI M v15 (by omega)) rfl gX3_firstFault_X3_isHouseSign ⟨by decide, by decide, by decide +kernel⟩ rfl ⟨rfl, rfl, Nat.le_of_ble_eq_true rfl, Nat.le_of_ble_eq_true rfl⟩ rfl (Nat.le_of_ble_eq_true rfl) dX3_firstFault_26 (fun h26 => ?_)
          refine q_ifb_ne F 41 dX3_firstFault_29 (by decide) (fun c29 => ?_) (fun c29 => ?_)
          · obtain ⟨v41, e41⟩ : ∃ z_ : Int, z_ = i + 1 := ⟨_, rfl⟩
            refine q_iinc F dX3_firstFault_41 2 rfl e41 [(1, .int (q_I v41)), (2, .int (q_I v15)), (0, .ref (q_ad G p))] (Nat.le_of_ble_eq_true rfl) rfl ?_
            refine q_iload_n F dX3_firstFault_44 1 rfl ?_
            refine q_aload_n F dX3_firstFault_45 2 rfl ?_
            refine q_iload_n F dX3_firstFault_46 0 rfl ?_
            refine q_callVP (n := 1) (T := TX3) F (c_X3_signAt G hI M p hp v41 (by assumption) (by omega)) rfl rfl hp.1 gX3_firstFault_X3_signAt rfl ⟨by decide, by decide, by decide +kernel⟩ rfl ⟨rfl, rfl, Nat.le_of_ble_eq_true rfl, Nat.le_of_ble_eq_true rfl⟩ rfl (Nat.le_of_ble_eq_true rfl) dX3_firstFault_47 (fun h47 => ?_)
            refine q_callSP (n := 2) F (c_X3_canFollow G hI M v15 _ (by omega)) rfl gX3_firstFault_X3_canFollow ⟨by decide, by decide, by decide +kernel⟩ rfl ⟨rfl, rfl, Nat.le_of_ble_eq_true rfl, Nat.le_of_ble_eq_true rfl⟩ rfl (Nat.le_of_ble_eq_true rfl) dX3_firstFault_50 (fun h50 => ?_)
            refine q_ifb_ne F 58 dX3_firstFault_53 (by decide) (fun c53 => ?_) (fun c53 => ?_)
            · obtain ⟨v58, e58⟩ : ∃ z_ : Int, z_ = v41 + 1 := ⟨_, rfl⟩
              refine q_iinc F dX3_firstFault_58 0 rfl e58 [(1, .int (q_I v58)), (2, .int (q_I v15)), (0, .ref (q_ad G p))] (Nat.le_of_ble_eq_true rfl) rfl ?_
              refine q_goto F 2 dX3_firstFault_61 (by decide) ?_
              refine q_drop [2, 0] rfl ?_
              exact ih2_1 _ (by omega) v58 (m - 1) ⟨by omega, by omega, by omega, by rw [← hi2.2.2.2, hun, if_neg (by omega), s15, if_neg c19, if_neg (by simp [c29]), if_pos (by rw [← e41]; exact q_sg_foll_t c53), show m - 1 + 1 = m by omega, e58, e41, show i + 1 + 1 = i + 2 by omega]⟩ rfl
            · refine q_iload_n F dX3_firstFault_56 0 rfl ?_
              exact q_iret F FI dX3_firstFault_57 (by omega) ⟨by rw [← hi2.2.2.2, hun, if_neg (by omega), s15, if_neg c19, if_neg (by simp [c29]), if_neg (by rw [← e41]; exact q_sg_foll_f c53)]; exact e41, rfl⟩
          · refine q_iload_n F dX3_firstFault_32 0 rfl ?_
            refine q_callSP (n := 1) F (c_X3_isGuestSign G hI M v15 (by omega)) rfl gX3_firstFault_X3_isGuestSign ⟨by decide, by decide, by decide +kernel⟩ rfl ⟨rfl, rfl, Nat.le_of_ble_eq_true rfl, Nat.le_of_ble_eq_true rfl⟩ rfl (Nat.le_of_ble_eq_true rfl) dX3_firstFault_33 (fun h33 => ?_)
            refine q_ifb_ne F 41 dX3_firstFault_36 (by decide) (fun c36 => ?_) (fun c36 => ?_)
            · obtain ⟨v41, e41⟩ : ∃ z_ : Int, z_ = i + 1 := ⟨_, rfl⟩
              refine q_iinc F dX3_firstFault_41 2 rfl e41 [(1, .int (q_I v41)), (2, .int (q_I v15)), (0, .ref (q_ad G p))] (Nat.le_of_ble_eq_true rfl) rfl ?_
              refine q_iload_n F dX3_firstFault_44 1 rfl ?_
              refine q_aload_n F dX3_firstFault_45 2 rfl ?_
              refine q_iload_n F dX3_firstFault_46 0 rfl ?_
              refine q_callVP (n := 1) (T := TX3) F (c_X3_signAt G hI M p hp v41 (by assumption) (by omega)) rfl rfl hp.1 gX3_firstFault_X3_signAt rfl ⟨by decide, by decide, by decide +kernel⟩ rfl ⟨rfl, rfl, Nat.le_of_ble_eq_true rfl, Nat.le_of_ble_eq_true rfl⟩ rfl (Nat.le_of_ble_eq_true rfl) dX3_firstFault_47 (fun h47 => ?_)
              refine q_callSP (n := 2) F (c_X3_canFollow G hI M v15 _ (by omega)) rfl gX3_firstFault_X3_canFollow ⟨by decide, by decide, by decide +kernel⟩ rfl ⟨rfl, rfl, Nat.le_of_ble_eq_true rfl, Nat.le_of_ble_eq_true rfl⟩ rfl (Nat.le_of_ble_eq_true rfl) dX3_firstFault_50 (fun h50 => ?_)
              refine q_ifb_ne F 58 dX3_firstFault_53 (by decide) (fun c53 => ?_) (fun c53 => ?_)
              · obtain ⟨v58, e58⟩ : ∃ z_ : Int, z_ = v41 + 1 := ⟨_, rfl⟩
                refine q_iinc F dX3_firstFault_58 0 rfl e58 [(1, .int (q_I v58)), (2, .int (q_I v15)), (0, .ref (q_ad G p))] (Nat.le_of_ble_eq_true rfl) rfl ?_
                refine q_goto F 2 dX3_firstFault_61 (by decide) ?_
                refine q_drop [2, 0] rfl ?_
                exact ih2_1 _ (by omega) v58 (m - 1) ⟨by omega, by omega, by omega, by rw [← hi2.2.2.2, hun, if_neg (by omega), s15, if_neg c19, if_neg (by simp [c36]), if_pos (by rw [← e41]; exact q_sg_foll_t c53), show m - 1 + 1 = m by omega, e58, e41, show i + 1 + 1 = i + 2 by omega]⟩ rfl
              · refine q_iload_n F dX3_firstFault_56 0 rfl ?_
                exact q_iret F FI dX3_firstFault_57 (by omega) ⟨by rw [← hi2.2.2.2, hun, if_neg (by omega), s15, if_neg c19, if_neg (by simp [c36]), if_neg (by rw [← e41]; exact q_sg_foll_f c53)]; exact e41, rfl⟩
            · refine q_iload_n F dX3_firstFault_39 2 rfl ?_
              exact q_iret F FI dX3_firstFault_40 (by omega) ⟨by rw [← hi2.2.2.2, hun, if_neg (by omega), s15, if_neg c19, if_pos ⟨c29, c36⟩], rfl⟩
        · refine q_goto F 58 dX3_firstFault_22 (by decide) ?_
          obtain ⟨v58, e58⟩ : ∃ z_ : Int, z_ = i + 1 := ⟨_, rfl⟩
          refine q_iinc F dX3_firstFault_58 2 rfl e58 [(1, .int (q_I v58)), (2, .int (q_I v15)), (0, .ref (q_ad G p))] (Nat.le_of_ble_eq_true rfl) rfl ?_
          refine q_goto F 2 dX3_firstFault_61 (by decide) ?_
          refine q_drop [2, 0] rfl ?_
          exact ih2_1 _ (by omega) v58 (m - 1) ⟨by omega, by omega, by omega, by rw [← hi2.2.2.2, hun, if_neg (by omega), s15, if_pos c19, show m - 1 + 1 = m by omega, e58]⟩ rfl
  refine q_drop [1, 0] rfl ?_
  exact lp2_1 _ 0 (60) ⟨by omega, by omega, by omega, rfl⟩ rfl
