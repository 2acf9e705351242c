/-! the reference's acts -/
def q_d9 (M M1 : q_M) (S FO g : Int) : Prop := (∀ j, j ≠ 7 → j ≠ 10 → j ≠ 11 → M1 j = M j) ∧ (∀ x, M1 7 x = if 0 ≤ x ∧ x < g then q_left (M 7) S x else M 7 x) ∧ (∀ x, M1 10 x = if 0 ≤ x ∧ x < g then M 10 x + q_b (q_has S x) else M 10 x) ∧ (∀ x, M1 11 x = if 0 ≤ x ∧ x < g then M 11 x + q_b (q_has FO x) else M 11 x)
theorem q_d9_0 {M : q_M} {S FO : Int} : q_d9 M M S FO 0 := ⟨fun _ _ _ _ => rfl, fun x => by rw [if_neg (by omega)], fun x => by rw [if_neg (by omega)], fun x => by rw [if_neg (by omega)]⟩
theorem q_if_s {f k : Int → Int} {g x w : Int} (g0 : 0 ≤ g) (h : w = if 0 ≤ x ∧ x < g then f x else k x) (hx : ¬ x = g) : w = if 0 ≤ x ∧ x < g + 1 then f x else k x := by
  rw [h]
  by_cases hl : 0 ≤ x ∧ x < g
  · rw [if_pos hl, if_pos (by omega)]
  · rw [if_neg hl, if_neg (by omega)]
theorem q_d9_at {M M1 : q_M} {S FO g : Int} (h : q_d9 M M1 S FO g) : M1 7 g = M 7 g ∧ M1 10 g = M 10 g ∧ M1 11 g = M 11 g := by
  obtain ⟨-, h7, h10, h11⟩ := h
  have a := h7 g
  have b := h10 g
  have c := h11 g
  rw [if_neg (by omega)] at a b c
  exact ⟨a, b, c⟩
theorem q_d9_s {M M1 M2 : q_M} {S FO g : Int} (h : q_d9 M M1 S FO g) (g0 : 0 ≤ g) (ho : ∀ j, j ≠ 7 → j ≠ 10 → j ≠ 11 → M2 j = M1 j) (e7 : ∀ x, M2 7 x = if x = g then q_left (M 7) S g else M1 7 x) (e10 : ∀ x, M2 10 x = if x = g then M 10 g + q_b (q_has S g) else M1 10 x) (e11 : ∀ x, M2 11 x = if x = g then M 11 g + q_b (q_has FO g) else M1 11 x) : q_d9 M M2 S FO (g + 1) := by
  obtain ⟨h1, h7, h10, h11⟩ := h
  refine ⟨fun j a b c => (ho j a b c).trans (h1 j a b c), fun x => ?_, fun x => ?_, fun x => ?_⟩
  · rw [e7]
    by_cases hx : x = g
    · rw [if_pos hx, if_pos (by omega), hx]
    · rw [if_neg hx]
      exact q_if_s g0 (h7 x) hx
  · rw [e10]
    by_cases hx : x = g
    · rw [if_pos hx, if_pos (by omega), hx]
    · rw [if_neg hx]
      exact q_if_s (f := fun x => M 10 x + q_b (q_has S x)) g0 (h10 x) hx
  · rw [e11]
    by_cases hx : x = g
    · rw [if_pos hx, if_pos (by omega), hx]
    · rw [if_neg hx]
      exact q_if_s (f := fun x => M 11 x + q_b (q_has FO x)) g0 (h11 x) hx
theorem q_d9_zv {M M1 : q_M} {S FO g : Int} (h : q_d9 M M1 S FO g) (v : q_zv M) : q_zv M1 := by
  obtain ⟨h1, h7, -, -⟩ := h
  refine ⟨?_, fun x x0 x1 => ?_, ?_, ?_⟩
  · unfold q_z0
    rw [h1 0 (by omega) (by omega) (by omega)]
    exact v.1
  · rw [h7 x]
    split
    · exact q_left_R v.2.1 x0 x1
    · exact v.2.1 x x0 x1
  · rw [h1 8 (by omega) (by omega) (by omega)]; exact v.2.2.1
  · rw [h1 9 (by omega) (by omega) (by omega)]; exact v.2.2.2
def q_sul (s : q_T) (u l : Int) : q_T := (qt_h s, qt_f s, qt_a s, qt_p s, qt_c s, l, qt_k s, u)
def q_pc (M : q_M) (K : Int) : Prop := ∀ x, 0 ≤ x → x < 6 → (0 ≤ M 10 x ∧ M 10 x ≤ K) ∧ (0 ≤ M 11 x ∧ M 11 x ≤ K)
theorem q_nmw {G : q_G} {E : q_E} {nL : Nat} {M : q_M} {L : List (Nat × Value)} {pc : Nat} {st : List Value} {z : Int} (k : ∀ v : Int, (-2147483648 ≤ v ∧ v ≤ 2147483647) → ((-2147483648 ≤ z ∧ z ≤ 2147483647) → v = z) → q_Y G E nL M L pc (.int (q_I v) :: st)) : q_Y G E nL M L pc (.int (q_I z) :: st) := by
  obtain ⟨v, hv, e⟩ := q_ex (q_I z)
  rw [e]
  refine k v hv (fun hz => ?_)
  have := congrArg Int32.toInt e
  rw [q_ti hz, q_ti hv] at this
  exact this.symm
theorem q_d9_6 {M M1 N : q_M} {th ke pl p v : Int} (h : q_d9 M M1 (q_TK th ke (q_v9 M) pl p) (q_FO th ke (q_v9 M) pl) 6) (e : N = q_up M1 0 15 v) : q_v9 N = q_sul (q_dish th ke (q_v9 M) pl p) (M 0 18) v := by
  obtain ⟨h1, h7, h10, h11⟩ := h
  have h0 := h1 0 (by omega) (by omega) (by omega)
  have ne : ∀ j, j ≠ 0 → N j = M1 j := fun j hj => by rw [e, q_up_ne hj]
  have n0 : ∀ i, i ≠ 15 → N 0 i = M 0 i := fun i hi => by rw [e, q_up_at, if_neg hi, h0]
  have out : ∀ x, ¬ (0 ≤ x ∧ x < 6) → ∀ s, q_has s x = false := fun x hx s => q_has_out hx
  apply q_T_ext
  · show N 7 = q_left (M 7) (q_TK th ke (q_v9 M) pl p)
    rw [ne 7 (by omega)]
    funext x
    rw [h7]
    by_cases hx : 0 ≤ x ∧ x < 6
    · rw [if_pos hx]
    · rw [if_neg hx]
      unfold q_left
      rw [out x hx]
      simp
  · show N 8 = M 8
    rw [ne 8 (by omega)]; exact h1 8 (by omega) (by omega) (by omega)
  · show N 9 = M 9
    rw [ne 9 (by omega)]; exact h1 9 (by omega) (by omega) (by omega)
  · show N 10 = fun x => M 10 x + q_b (q_has (q_TK th ke (q_v9 M) pl p) x)
    rw [ne 10 (by omega)]
    funext x
    rw [h10]
    by_cases hx : 0 ≤ x ∧ x < 6
    · rw [if_pos hx]
    · rw [if_neg hx, out x hx]
      simp [q_b]
  · show N 11 = fun x => M 11 x + q_b (q_has (q_FO th ke (q_v9 M) pl) x)
    rw [ne 11 (by omega)]
    funext x
    rw [h11]
    by_cases hx : 0 ≤ x ∧ x < 6
    · rw [if_pos hx]
    · rw [if_neg hx, out x hx]
      simp [q_b]
  · show N 0 15 = v
    rw [e, q_up_at, if_pos rfl]
  · exact n0 17 (by omega)
  · exact n0 18 (by omega)
theorem q_FO_has {th ke pl g : Int} {s : q_T} (g0 : 0 ≤ g) (g1 : g < 6) : q_has (q_FO th ke s pl) g = (q_ins (qt_a s) th pl g && (decide (0 < qt_h s g) && q_fo (qt_h s) (qt_f s) ke g)) := by
  unfold q_FO
  rw [q_has_set g0 g1, q_has_set g0 g1]
  unfold q_hun
  cases q_fo (qt_h s) (qt_f s) ke g <;> cases q_ins (qt_a s) th pl g <;> simp
theorem q_fo_cg {h h' f f' : Int → Int} {ke g : Int} (e1 : h g = h' g) (e2 : f g = f' g) : q_fo h f ke g = q_fo h' f' ke g := by
  unfold q_fo q_shn
  rw [e1, e2]
theorem q_v9_ho {M N : q_M} {th : Int} (h : q_fr 7 M N) (e : N 7 = q_hrT th (M 7)) : q_v9 N = q_hoT (q_hrT th) (q_v9 M) := by
  apply q_T_ext
  · exact e
  · exact h 8 (by omega)
  · exact h 9 (by omega)
  · exact h 10 (by omega)
  · exact h 11 (by omega)
  · show N 0 15 = M 0 15
    rw [h 0 (by omega)]
  · show N 0 17 = M 0 17
    rw [h 0 (by omega)]
  · show N 0 18 = M 0 18
    rw [h 0 (by omega)]
theorem q_v9_go {M : q_M} {g a : Int} : q_v9 (q_up (q_up M 9 g a) 7 g (min 20 (M 7 g + 1))) = q_goT (q_v9 M) g a := by
  apply q_T_ext
  · show q_up (q_up M 9 g a) 7 g (min 20 (M 7 g + 1)) 7 = q_row (M 7) g (min 20 (M 7 g + 1))
    rw [q_up_row, q_up_ne (by omega)]
  · show q_up (q_up M 9 g a) 7 g (min 20 (M 7 g + 1)) 8 = M 8
    rw [q_up_ne (by omega), q_up_ne (by omega)]
  · show q_up (q_up M 9 g a) 7 g (min 20 (M 7 g + 1)) 9 = q_row (M 9) g a
    rw [q_up_ne (by omega), q_up_row]
  · show q_up (q_up M 9 g a) 7 g (min 20 (M 7 g + 1)) 10 = M 10
    rw [q_up_ne (by omega), q_up_ne (by omega)]
  · show q_up (q_up M 9 g a) 7 g (min 20 (M 7 g + 1)) 11 = M 11
    rw [q_up_ne (by omega), q_up_ne (by omega)]
  · show q_up (q_up M 9 g a) 7 g (min 20 (M 7 g + 1)) 0 15 = M 0 15
    rw [q_up_ne (by omega), q_up_ne (by omega)]
  · show q_up (q_up M 9 g a) 7 g (min 20 (M 7 g + 1)) 0 17 = M 0 17
    rw [q_up_ne (by omega), q_up_ne (by omega)]
  · show q_up (q_up M 9 g a) 7 g (min 20 (M 7 g + 1)) 0 18 = M 0 18
    rw [q_up_ne (by omega), q_up_ne (by omega)]
theorem q_v9_fe {M : q_M} {g v : Int} : q_v9 (q_up M 8 g v) = q_feT (q_v9 M) g v := by
  apply q_T_ext
  · show q_up M 8 g v 7 = M 7
    rw [q_up_ne (by omega)]
  · show q_up M 8 g v 8 = q_row (M 8) g v
    rw [q_up_row]
  · show q_up M 8 g v 9 = M 9
    rw [q_up_ne (by omega)]
  · show q_up M 8 g v 10 = M 10
    rw [q_up_ne (by omega)]
  · show q_up M 8 g v 11 = M 11
    rw [q_up_ne (by omega)]
  · show q_up M 8 g v 0 15 = M 0 15
    rw [q_up_ne (by omega)]
  · show q_up M 8 g v 0 17 = M 0 17
    rw [q_up_ne (by omega)]
  · show q_up M 8 g v 0 18 = M 0 18
    rw [q_up_ne (by omega)]
theorem q_v9_u {M : q_M} {s : q_T} {u v : Int} (h : q_v9 M = q_su s u) (hv : v = qt_u s) : q_v9 (q_up M 0 18 v) = s := by
  have e := fun (f : q_T → Int → Int) => congrArg f h
  apply q_T_ext
  · show q_up M 0 18 v 7 = _
    rw [q_up_ne (by omega)]; exact congrArg qt_h h
  · show q_up M 0 18 v 8 = _
    rw [q_up_ne (by omega)]; exact congrArg qt_f h
  · show q_up M 0 18 v 9 = _
    rw [q_up_ne (by omega)]; exact congrArg qt_a h
  · show q_up M 0 18 v 10 = _
    rw [q_up_ne (by omega)]; exact congrArg qt_p h
  · show q_up M 0 18 v 11 = _
    rw [q_up_ne (by omega)]; exact congrArg qt_c h
  · show q_up M 0 18 v 0 15 = _
    rw [q_up_at, if_neg (by decide)]; exact congrArg qt_l h
  · show q_up M 0 18 v 0 17 = _
    rw [q_up_at, if_neg (by decide)]; exact congrArg qt_k h
  · show q_up M 0 18 v 0 18 = _
    rw [q_up_at, if_pos rfl]; exact hv
theorem q_zv_v9 {M N : q_M} (h : q_zv M) (k : q_kz M N) (e : q_v9 N = q_v9 M) : q_zv N := by
  have : q_Tv (q_v9 N) := by rw [e]; exact h.2
  exact ⟨q_z0_kz h.1 k, this⟩
theorem q_act_dot {hr : (Int → Int) → Int → Int} {th ke sg nx pt : Int} {s : q_T} (h : sg = 46) : q_act hr th ke s sg nx pt = (0, q_hoT hr s) := by
  unfold q_act
  rw [if_pos h]
theorem q_act_no3 {hr : (Int → Int) → Int → Int} {th ke sg nx pt : Int} {s : q_T} (h : 97 ≤ sg ∧ sg < 100) (h0 : q_set (q_ins (qt_a s) th (sg - 97)) = 0) : q_act hr th ke s sg nx pt = (3, s) := by
  unfold q_act
  rw [if_neg (by omega), if_pos h, if_pos h0]
theorem q_act_dish {hr : (Int → Int) → Int → Int} {th ke sg nx pt : Int} {s : q_T} (h : 97 ≤ sg ∧ sg < 100) (h0 : ¬ q_set (q_ins (qt_a s) th (sg - 97)) = 0) : q_act hr th ke s sg nx pt = (0, q_dish th ke s (sg - 97) (max 0 (nx - 48 - pt))) := by
  unfold q_act
  rw [if_neg (by omega), if_pos h, if_neg h0]
theorem q_act_go {hr : (Int → Int) → Int → Int} {th ke sg nx pt : Int} {s : q_T} (h : sg < 97) (h1 : ¬ sg = 46) (h2 : 97 ≤ nx ∧ nx < 100) (h0 : q_goW th s (sg - 65) (nx - 97) = 0) : q_act hr th ke s sg nx pt = (0, q_goT s (sg - 65) (nx - 97)) := by
  unfold q_act
  rw [if_neg h1, if_neg (by omega), if_pos h2, if_pos h0]
theorem q_act_nog {hr : (Int → Int) → Int → Int} {th ke sg nx pt : Int} {s : q_T} (h : sg < 97) (h1 : ¬ sg = 46) (h2 : 97 ≤ nx ∧ nx < 100) (h0 : ¬ q_goW th s (sg - 65) (nx - 97) = 0) : q_act hr th ke s sg nx pt = (q_goW th s (sg - 65) (nx - 97), s) := by
  unfold q_act
  rw [if_neg h1, if_neg (by omega), if_pos h2, if_neg h0]
theorem q_act_fe {hr : (Int → Int) → Int → Int} {th ke sg nx pt : Int} {s : q_T} (h : sg < 97) (h1 : ¬ sg = 46) (h2 : nx < 97) (h0 : q_has th (sg - 65) = true) : q_act hr th ke s sg nx pt = (0, q_feT s (sg - 65) (nx - 48)) := by
  unfold q_act
  rw [if_neg h1, if_neg (by omega), if_neg (by omega), if_pos h0]
theorem q_act_nof {hr : (Int → Int) → Int → Int} {th ke sg nx pt : Int} {s : q_T} (h : sg < 97) (h1 : ¬ sg = 46) (h2 : nx < 97) (h0 : q_has th (sg - 65) = false) : q_act hr th ke s sg nx pt = (1, s) := by
  unfold q_act
  rw [if_neg h1, if_neg (by omega), if_neg (by omega), if_neg (by simp [h0])]
theorem q_goW_R {th g a : Int} {s : q_T} : q_goW th s g a = 0 ∨ q_goW th s g a = 1 ∨ q_goW th s g a = 2 := by
  unfold q_goW
  split
  · split <;> omega
  · omega
theorem q_hrT_ext {th x : Int} {h : Int → Int} : (if 0 ≤ x ∧ x < 6 then q_hrT th h x else h x) = q_hrT th h x := by
  by_cases hx : 0 ≤ x ∧ x < 6
  · rw [if_pos hx]
  · rw [if_neg hx]
    unfold q_hrT
    rw [q_has_out hx]
    simp
set_option maxHeartbeats 4000000 in
set_option maxRecDepth 100000 in
theorem c_X9_dish (G : q_G) (hI : q_inj G) (M : q_M) (hm : q_mo G) (a : Int) (p : Int) (K : Int) (hv : q_zv M) (hb : q_pc M K) (hK : 0 ≤ K ∧ K ≤ 1000) (ha : (-2147483648 ≤ a ∧ a ≤ 2147483647) ∧ (0 ≤ p ∧ p ≤ 9)) : q_CI G yX9_dish wsX9_dish ({ frames := 3, cells := 0, slots := 0, locals := 71 } : Room) [.ref (q_ad G 0), .int (q_I a), .int (q_I p)] M (fun z M' => z = q_cnt (q_has (q_TK (M 0 0) (M 0 4) (q_v9 M) a p)) ∧ (∃ l, q_v9 M' = q_sul (q_dish (M 0 0) (M 0 4) (q_v9 M) a p) (M 0 18) l ∧ ((-2147483648 ≤ qt_l (q_dish (M 0 0) (M 0 4) (q_v9 M) a p) ∧ qt_l (q_dish (M 0 0) (M 0 4) (q_v9 M) a p) ≤ 2147483647) → l = qt_l (q_dish (M 0 0) (M 0 4) (q_v9 M) a p))) ∧ (∀ j, j ≠ 0 → j ≠ 7 → j ≠ 10 → j ≠ 11 → M' j = M j) ∧ ∀ i, i ≠ 15 → M' 0 i = M 0 i) := by
  refine q_CI.of hI (by decide) rfl RX9 rfl [(0, .ref (q_ad G 0)), (1, .int (q_I a)), (2, .int (q_I p))] rfl (Nat.le_of_ble_eq_true rfl) (fun E F FI => ?_)
  have huX9 : ∀ w ∈ wsX90, w ∈ wsX9_dish := by decide +kernel
  refine q_MRof (fun hM => ?_)
  obtain ⟨⟨xt, xk⟩, xh, xf, xa⟩ := id hv
  refine q_aload_n F dX9_dish_0 0 rfl ?_
  refine q_iload_n F dX9_dish_1 1 rfl ?_
  refine q_iload_n F dX9_dish_2 2 rfl ?_
  refine q_iconst F dX9_dish_3 ?_
  refine q_callVP (n := 3) (T := TX9) F (c_X9_servedBy G hI M hm a p 0 (by assumption) (by omega)) rfl rfl hm.1 gX9_dish_X9_servedBy rfl ⟨by decide, by decide, by decide +kernel⟩ rfl ⟨rfl, rfl, Nat.le_of_ble_eq_true rfl, Nat.le_of_ble_eq_true rfl⟩ rfl (Nat.le_of_ble_eq_true rfl) dX9_dish_4 (fun h4 => ?_)
  refine q_nm (fun v7 e7 => ?_)
  refine q_istore_n F dX9_dish_7 [(3, .int (q_I v7)), (0, .ref (q_ad G 0)), (1, .int (q_I a)), (2, .int (q_I p))] (Nat.le_of_ble_eq_true rfl) rfl ?_
  refine q_iconst F dX9_dish_8 ?_
  refine q_istore F dX9_dish_9 [(4, .int (q_I 0)), (3, .int (q_I v7)), (0, .ref (q_ad G 0)), (1, .int (q_I a)), (2, .int (q_I p))] (Nat.le_of_ble_eq_true rfl) rfl ?_
  have lp11_1 : ∀ (k11_1 : Nat) (g : Int) (M1 : q_M), ((0 ≤ g ∧ g ≤ 6) ∧ q_d9 M M1 (q_TK (M 0 0) (M 0 4) (q_v9 M) a p) (q_FO (M 0 0) (M 0 4) (q_v9 M) a) g) → (6 - g).toNat = k11_1 → q_Y G E 5 M1 [(0, .ref (q_ad G 0)), (1, .int (q_I a)), (2, .int (q_I p)), (3, .int (q_I v7)), (4, .int (q_I g))] 11 [] := by
    intro k11_1
    induction k11_1 using Nat.strongRecOn with
    | _ k11_1 ih11_1 =>
      intro g  M1 hi11 hk11
      refine q_MRof (fun hM11 => ?_)
      have hv1 := q_d9_zv hi11.2 hv
      have hS1 : 0 ≤ v7 ∧ v7 ≤ 63 := by rw [e7]; exact q_set_R _
      have e7' : v7 = (q_TK (M 0 0) (M 0 4) (q_v9 M) a p) := e7
      refine q_iload F dX9_dish_11 4 rfl ?_
      refine q_bipush F dX9_dish_13 (by decide) ?_
      refine q_icmp_ge F 110 dX9_dish_15 (by decide) (by omega) (fun c15 => ?_) (fun c15 => ?_)
      · have i015 : M1 0 = M 0 := hi11.2.1 0 (by omega) (by omega) (by omega)
        have hc := q_cnt_R (q_has v7)
        refine q_aload_n F dX9_dish_110 0 rfl ?_
        refine q_dup F dX9_dish_111 rfl ?_
        refine q_geti (T := TX9) (ref := "LeastHungryModel") F huX9 rfl hm.1 15 (by decide) (by decide +kernel) rfl 15 rfl rfl dX9_dish_112 (fun h112 => ?_)
        refine q_iload_n F dX9_dish_115 2 rfl ?_
        refine q_iload_n F dX9_dish_116 3 rfl ?_
        refine q_callSP (n := 1) F (c_X9_bits G hI M1 v7 (by omega)) rfl gX9_dish_X9_bits ⟨by decide, by decide, by decide +kernel⟩ rfl ⟨rfl, rfl, Nat.le_of_ble_eq_true rfl, Nat.le_of_ble_eq_true rfl⟩ rfl (Nat.le_of_ble_eq_true rfl) dX9_dish_117 (fun h117 => ?_)
        refine q_isub F dX9_dish_120 ?_
        refine q_iadd F dX9_dish_121 ?_
        have h15 : M1 0 15 = M 0 15 := by rw [i015]
        refine q_nmw (fun w122 hw122 he122 => ?_)
        refine q_puti (T := TX9) (ref := "LeastHungryModel") F huX9 rfl hm.1 15 (by decide) (by decide +kernel) rfl 15 rfl tyX9 tyX9_ok nmX9 rfl rfl (by decide +kernel) hw122 dX9_dish_122 (fun N122 eN122 => ?_)
        refine q_iload_n F dX9_dish_125 3 rfl ?_
        refine q_callSP (n := 1) F (c_X9_bits G hI N122 v7 (by omega)) rfl gX9_dish_X9_bits ⟨by decide, by decide, by decide +kernel⟩ rfl ⟨rfl, rfl, Nat.le_of_ble_eq_true rfl, Nat.le_of_ble_eq_true rfl⟩ rfl (Nat.le_of_ble_eq_true rfl) dX9_dish_126 (fun h126 => ?_)
        exact q_iret F FI dX9_dish_129 (by omega) (by
              have hd : q_d9 M M1 (q_TK (M 0 0) (M 0 4) (q_v9 M) a p) (q_FO (M 0 0) (M 0 4) (q_v9 M) a) 6 := by rw [← show g = 6 by omega]; exact hi11.2
              refine ⟨by rw [e7'], ⟨w122, q_d9_6 hd eN122, fun hq => (he122 (by rw [h15, e7']; exact hq)).trans (by rw [h15, e7']; rfl)⟩, fun j h0 h7 h10 h11 => by rw [eN122, q_up_ne h0]; exact hd.1 j h7 h10 h11, fun i hi => by rw [eN122, q_up_at, if_neg hi, i015]⟩)
      · have hFOg : q_has (q_FO (M 0 0) (M 0 4) (q_v9 M) a) g = (q_ins (M 9) (M 0 0) a g && (decide (0 < M 7 g) && q_fo (M 7) (M 8) (M 0 4) g)) := q_FO_has hi11.1.1 c15
        obtain ⟨at7, at10, at11⟩ := q_d9_at hi11.2
        have i9 : M1 9 = M 9 := hi11.2.1 9 (by omega) (by omega) (by omega)
        have i8 : M1 8 = M 8 := hi11.2.1 8 (by omega) (by omega) (by omega)
        have i0 : M1 0 = M 0 := hi11.2.1 0 (by omega) (by omega) (by omega)
        have b10 := (hb g hi11.1.1 c15).1
        have b11 := (hb g hi11.1.1 c15).2
        refine q_aload_n F dX9_dish_18 0 rfl ?_
        refine q_getr (T := TX9) (ref := "LeastHungryModel") F huX9 rfl hm.1 14 (by decide) (by decide +kernel) rfl rfl dX9_dish_19 ?_
        refine q_iload F dX9_dish_22 4 rfl ?_
        refine q_dup2 F dX9_dish_24 rfl rfl ?_
        refine q_iald F hm.2.2.2.2.2.2.2.2.2.2.2.1 (Nat.le_of_ble_eq_true rfl) (by omega) dX9_dish_25 (fun h25 => ?_)
        refine q_aload_n F dX9_dish_26 0 rfl ?_
        refine q_iload F dX9_dish_27 4 rfl ?_
        refine q_iload_n F dX9_dish_29 1 rfl ?_
        refine q_callVP (n := 2) (T := TX9) F (c_X9_isIn G hI M1 hm g a hv1 (by omega) (by omega)) rfl rfl hm.1 gX9_dish_X9_isIn rfl ⟨by decide, by decide, by decide +kernel⟩ rfl ⟨rfl, rfl, Nat.le_of_ble_eq_true rfl, Nat.le_of_ble_eq_true rfl⟩ rfl (Nat.le_of_ble_eq_true rfl) dX9_dish_30 (fun h30 => ?_)
        refine q_ifb_eq F 50 dX9_dish_33 (by decide) (fun c33 => ?_) (fun c33 => ?_)
        · refine q_iconst F dX9_dish_50 ?_
          refine q_iadd F dX9_dish_51 ?_
          refine q_iast F hm.2.2.2.2.2.2.2.2.2.2.2.1 (Nat.le_of_ble_eq_true rfl) (by omega) (by omega) dX9_dish_52 (fun N52 eN52 => ?_)
          have hFO : q_has (q_FO (M 0 0) (M 0 4) (q_v9 M) a) g = false := by
            rw [hFOg, ← i9, ← i0, c33]
            rfl
          have w52 : N52 = q_up M1 11 g (M 11 g + q_b (q_has (q_FO (M 0 0) (M 0 4) (q_v9 M) a) g)) := by rw [eN52, at11, hFO]; rfl
          refine q_iload_n F dX9_dish_53 3 rfl ?_
          refine q_iload F dX9_dish_54 4 rfl ?_
          refine q_callSP (n := 2) F (c_X9_has G hI N52 v7 g (by omega)) rfl gX9_dish_X9_has ⟨by decide, by decide, by decide +kernel⟩ rfl ⟨rfl, rfl, Nat.le_of_ble_eq_true rfl, Nat.le_of_ble_eq_true rfl⟩ rfl (Nat.le_of_ble_eq_true rfl) dX9_dish_56 (fun h56 => ?_)
          refine q_ifb_eq F 104 dX9_dish_59 (by decide) (fun c59 => ?_) (fun c59 => ?_)
          · obtain ⟨v104, e104⟩ : ∃ z_ : Int, z_ = g + 1 := ⟨_, rfl⟩
            refine q_iinc F dX9_dish_104 4 rfl e104 [(4, .int (q_I v104)), (0, .ref (q_ad G 0)), (1, .int (q_I a)), (2, .int (q_I p)), (3, .int (q_I v7))] (Nat.le_of_ble_eq_true rfl) rfl ?_
            refine q_goto F 11 dX9_dish_107 (by decide) ?_
            refine q_drop [1, 2, 3, 4, 0] rfl ?_
            exact ih11_1 _ (by omega) v104 N52 ⟨by omega, by
                  rw [e104]
                  refine q_d9_s hi11.2 hi11.1.1 (fun j h7 h10 h11 => ?_) (fun x => ?_) (fun x => ?_) (fun x => ?_)
                  · rw [w52, q_up_ne h11]
                  · rw [w52, q_up_ne (by omega)]
                    by_cases hx : x = g
                    · rw [if_pos hx, hx, at7]
                      unfold q_left
                      rw [← e7', c59]
                      simp
                    · rw [if_neg hx]
                  · rw [w52, q_up_ne (by omega)]
                    by_cases hx : x = g
                    · rw [if_pos hx, hx, at10, ← e7', c59]
                      simp [q_b]
                    · rw [if_neg hx]
                  · rw [w52, q_up_at]⟩ rfl
          · refine q_aload_n F dX9_dish_62 0 rfl ?_
            refine q_getr (T := TX9) (ref := "LeastHungryModel") F huX9 rfl hm.1 10 (by decide) (by decide +kernel) rfl rfl dX9_dish_63 ?_
            have i52 : N52 7 g = M 7 g := by rw [w52, q_up_ne (by omega), at7]
            have xhg := xh g hi11.1.1 c15
            refine q_iload F dX9_dish_66 4 rfl ?_
            refine q_aload_n F dX9_dish_68 0 rfl ?_
            refine q_getr (T := TX9) (ref := "LeastHungryModel") F huX9 rfl hm.1 10 (by decide) (by decide +kernel) rfl rfl dX9_dish_69 ?_
            refine q_iload F dX9_dish_72 4 rfl ?_
            refine q_iald F hm.2.2.2.2.2.2.2.1 (Nat.le_of_ble_eq_true rfl) (by omega) dX9_dish_74 (fun h74 => ?_)
            refine q_iconst F dX9_dish_75 ?_
            refine q_icmp_le F 91 dX9_dish_76 (by decide) (by omega) (fun c76 => ?_) (fun c76 => ?_)
            · refine q_iconst F dX9_dish_91 ?_
              refine q_iast F hm.2.2.2.2.2.2.2.1 (Nat.le_of_ble_eq_true rfl) (by omega) (by omega) dX9_dish_92 (fun N92 eN92 => ?_)
              refine q_aload_n F dX9_dish_93 0 rfl ?_
              refine q_getr (T := TX9) (ref := "LeastHungryModel") F huX9 rfl hm.1 13 (by decide) (by decide +kernel) rfl rfl dX9_dish_94 ?_
              have i92 : N92 10 g = M 10 g := by rw [eN92, q_up_ne (by omega), w52, q_up_ne (by omega), at10]
              refine q_iload F dX9_dish_97 4 rfl ?_
              refine q_dup2 F dX9_dish_99 rfl rfl ?_
              refine q_iald F hm.2.2.2.2.2.2.2.2.2.2.1 (Nat.le_of_ble_eq_true rfl) (by omega) dX9_dish_100 (fun h100 => ?_)
              refine q_iconst F dX9_dish_101 ?_
              refine q_iadd F dX9_dish_102 ?_
              refine q_iast F hm.2.2.2.2.2.2.2.2.2.2.1 (Nat.le_of_ble_eq_true rfl) (by omega) (by omega) dX9_dish_103 (fun N103 eN103 => ?_)
              obtain ⟨v104, e104⟩ : ∃ z_ : Int, z_ = g + 1 := ⟨_, rfl⟩
              refine q_iinc F dX9_dish_104 4 rfl e104 [(4, .int (q_I v104)), (0, .ref (q_ad G 0)), (1, .int (q_I a)), (2, .int (q_I p)), (3, .int (q_I v7))] (Nat.le_of_ble_eq_true rfl) rfl ?_
              refine q_goto F 11 dX9_dish_107 (by decide) ?_
              refine q_drop [1, 2, 3, 4, 0] rfl ?_
              exact ih11_1 _ (by omega) v104 N103 ⟨by omega, by
                    rw [e104]
                    refine q_d9_s hi11.2 hi11.1.1 (fun j h7 h10 h11 => ?_) (fun x => ?_) (fun x => ?_) (fun x => ?_)
                    · rw [eN103, q_up_ne h10, eN92, q_up_ne h7, w52, q_up_ne h11]
                    · rw [eN103, q_up_ne (by omega), eN92, q_up_at]
                      by_cases hx : x = g
                      · rw [if_pos hx, if_pos hx]
                        unfold q_left
                        rw [← e7', if_pos c59]
                        rw [w52, q_up_ne (by omega), at7] at c76
                        omega
                      · rw [if_neg hx, if_neg hx, w52, q_up_ne (by omega)]
                    · rw [eN103, q_up_at, eN92, q_up_ne (by omega), w52, q_up_ne (by omega)]
                      by_cases hx : x = g
                      · rw [if_pos hx, if_pos hx, at10, ← e7', c59]
                        rfl
                      · rw [if_neg hx, if_neg hx]
                    · rw [eN103, q_up_ne (by omega), eN92, q_up_ne (by omega), w52, q_up_at]⟩ rfl
            · refine q_aload_n F dX9_dish_79 0 rfl ?_
              refine q_getr (T := TX9) (ref := "LeastHungryModel") F huX9 rfl hm.1 10 (by decide) (by decide +kernel) rfl rfl dX9_dish_80 ?_
              refine q_iload F dX9_dish_83 4 rfl ?_
              refine q_iald F hm.2.2.2.2.2.2.2.1 (Nat.le_of_ble_eq_true rfl) (by omega) dX9_dish_85 (fun h85 => ?_)
              refine q_iconst F dX9_dish_86 ?_
              refine q_isub F dX9_dish_87 ?_
              refine q_goto F 92 dX9_dish_88 (by decide) ?_
              refine q_iast F hm.2.2.2.2.2.2.2.1 (Nat.le_of_ble_eq_true rfl) (by omega) (by omega) dX9_dish_92 (fun N92 eN92 => ?_)
              refine q_aload_n F dX9_dish_93 0 rfl ?_
              refine q_getr (T := TX9) (ref := "LeastHungryModel") F huX9 rfl hm.1 13 (by decide) (by decide +kernel) rfl rfl dX9_dish_94 ?_
              have i92 : N92 10 g = M 10 g := by rw [eN92, q_up_ne (by omega), w52, q_up_ne (by omega), at10]
              refine q_iload F dX9_dish_97 4 rfl ?_
              refine q_dup2 F dX9_dish_99 rfl rfl ?_
              refine q_iald F hm.2.2.2.2.2.2.2.2.2.2.1 (Nat.le_of_ble_eq_true rfl) (by omega) dX9_dish_100 (fun h100 => ?_)
              refine q_iconst F dX9_dish_101 ?_
              refine q_iadd F dX9_dish_102 ?_
              refine q_iast F hm.2.2.2.2.2.2.2.2.2.2.1 (Nat.le_of_ble_eq_true rfl) (by omega) (by omega) dX9_dish_103 (fun N103 eN103 => ?_)
              obtain ⟨v104, e104⟩ : ∃ z_ : Int, z_ = g + 1 := ⟨_, rfl⟩
              refine q_iinc F dX9_dish_104 4 rfl e104 [(4, .int (q_I v104)), (0, .ref (q_ad G 0)), (1, .int (q_I a)), (2, .int (q_I p)), (3, .int (q_I v7))] (Nat.le_of_ble_eq_true rfl) rfl ?_
              refine q_goto F 11 dX9_dish_107 (by decide) ?_
              refine q_drop [1, 2, 3, 4, 0] rfl ?_
              exact ih11_1 _ (by omega) v104 N103 ⟨by omega, by
                    rw [e104]
                    refine q_d9_s hi11.2 hi11.1.1 (fun j h7 h10 h11 => ?_) (fun x => ?_) (fun x => ?_) (fun x => ?_)
                    · rw [eN103, q_up_ne h10, eN92, q_up_ne h7, w52, q_up_ne h11]
                    · rw [eN103, q_up_ne (by omega), eN92, q_up_at]
                      by_cases hx : x = g
                      · rw [if_pos hx, if_pos hx]
                        unfold q_left
                        rw [← e7', if_pos c59]
                        rw [w52, q_up_ne (by omega), at7] at c76
                        rw [w52, q_up_ne (by omega), at7]
                        omega
                      · rw [if_neg hx, if_neg hx, w52, q_up_ne (by omega)]
                    · rw [eN103, q_up_at, eN92, q_up_ne (by omega), w52, q_up_ne (by omega)]
                      by_cases hx : x = g
                      · rw [if_pos hx, if_pos hx, at10, ← e7', c59]
                        rfl
                      · rw [if_neg hx, if_neg hx]
                    · rw [eN103, q_up_ne (by omega), eN92, q_up_ne (by omega), w52, q_up_at]⟩ rfl
        · refine q_aload_n F dX9_dish_36 0 rfl ?_
          refine q_iload F dX9_dish_37 4 rfl ?_
          refine q_iconst F dX9_dish_39 ?_
          refine q_callVP (n := 2) (T := TX9) F (c_X9_isCaught G hI M1 hm g 0 hv1 (by omega) (by omega)) rfl rfl hm.1 gX9_dish_X9_isCaught rfl ⟨by decide, by decide, by decide +kernel⟩ rfl ⟨rfl, rfl, Nat.le_of_ble_eq_true rfl, Nat.le_of_ble_eq_true rfl⟩ rfl (Nat.le_of_ble_eq_true rfl) dX9_dish_40 (fun h40 => ?_)
          refine q_ifb_eq F 50 dX9_dish_43 (by decide) (fun c43 => ?_) (fun c43 => ?_)
          · refine q_iconst F dX9_dish_50 ?_
            refine q_iadd F dX9_dish_51 ?_
            refine q_iast F hm.2.2.2.2.2.2.2.2.2.2.2.1 (Nat.le_of_ble_eq_true rfl) (by omega) (by omega) dX9_dish_52 (fun N52 eN52 => ?_)
            have hFO : q_has (q_FO (M 0 0) (M 0 4) (q_v9 M) a) g = false := by
              have hfo : q_fo (M1 7) (M1 8) (M1 0 4) g = q_fo (M 7) (M 8) (M 0 4) g := by
                rw [i0]
                exact q_fo_cg at7 (by rw [i8])
              rw [hFOg, ← hfo, ← i9, ← i0, c33, ← at7]
              simpa using c43
            have w52 : N52 = q_up M1 11 g (M 11 g + q_b (q_has (q_FO (M 0 0) (M 0 4) (q_v9 M) a) g)) := by rw [eN52, at11, hFO]; rfl
            refine q_iload_n F dX9_dish_53 3 rfl ?_
            refine q_iload F dX9_dish_54 4 rfl ?_
            refine q_callSP (n := 2) F (c_X9_has G hI N52 v7 g (by omega)) rfl gX9_dish_X9_has ⟨by decide, by decide, by decide +kernel⟩ rfl ⟨rfl, rfl, Nat.le_of_ble_eq_true rfl, Nat.le_of_ble_eq_true rfl⟩ rfl (Nat.le_of_ble_eq_true rfl) dX9_dish_56 (fun h56 => ?_)
            refine q_ifb_eq F 104 dX9_dish_59 (by decide) (fun c59 => ?_) (fun c59 => ?_)
            · obtain ⟨v104, e104⟩ : ∃ z_ : Int, z_ = g + 1 := ⟨_, rfl⟩
              refine q_iinc F dX9_dish_104 4 rfl e104 [(4, .int (q_I v104)), (0, .ref (q_ad G 0)), (1, .int (q_I a)), (2, .int (q_I p)), (3, .int (q_I v7))] (Nat.le_of_ble_eq_true rfl) rfl ?_
              refine q_goto F 11 dX9_dish_107 (by decide) ?_
              refine q_drop [1, 2, 3, 4, 0] rfl ?_
              exact ih11_1 _ (by omega) v104 N52 ⟨by omega, by
                    rw [e104]
                    refine q_d9_s hi11.2 hi11.1.1 (fun j h7 h10 h11 => ?_) (fun x => ?_) (fun x => ?_) (fun x => ?_)
                    · rw [w52, q_up_ne h11]
                    · rw [w52, q_up_ne (by omega)]
                      by_cases hx : x = g
                      · rw [if_pos hx, hx, at7]
                        unfold q_left
                        rw [← e7', c59]
                        simp
                      · rw [if_neg hx]
                    · rw [w52, q_up_ne (by omega)]
                      by_cases hx : x = g
                      · rw [if_pos hx, hx, at10, ← e7', c59]
                        simp [q_b]
                      · rw [if_neg hx]
                    · rw [w52, q_up_at]⟩ rfl
            · refine q_aload_n F dX9_dish_62 0 rfl ?_
              refine q_getr (T := TX9) (ref := "LeastHungryModel") F huX9 rfl hm.1 10 (by decide) (by decide +kernel) rfl rfl dX9_dish_63 ?_
              have i52 : N52 7 g = M 7 g := by rw [w52, q_up_ne (by omega), at7]
              have xhg := xh g hi11.1.1 c15
              refine q_iload F dX9_dish_66 4 rfl ?_
              refine q_aload_n F dX9_dish_68 0 rfl ?_
              refine q_getr (T := TX9) (ref := "LeastHungryModel") F huX9 rfl hm.1 10 (by decide) (by decide +kernel) rfl rfl dX9_dish_69 ?_
              refine q_iload F dX9_dish_72 4 rfl ?_
              refine q_iald F hm.2.2.2.2.2.2.2.1 (Nat.le_of_ble_eq_true rfl) (by omega) dX9_dish_74 (fun h74 => ?_)
              refine q_iconst F dX9_dish_75 ?_
              refine q_icmp_le F 91 dX9_dish_76 (by decide) (by omega) (fun c76 => ?_) (fun c76 => ?_)
              · refine q_iconst F dX9_dish_91 ?_
                refine q_iast F hm.2.2.2.2.2.2.2.1 (Nat.le_of_ble_eq_true rfl) (by omega) (by omega) dX9_dish_92 (fun N92 eN92 => ?_)
                refine q_aload_n F dX9_dish_93 0 rfl ?_
                refine q_getr (T := TX9) (ref := "LeastHungryModel") F huX9 rfl hm.1 13 (by decide) (by decide +kernel) rfl rfl dX9_dish_94 ?_
                have i92 : N92 10 g = M 10 g := by rw [eN92, q_up_ne (by omega), w52, q_up_ne (by omega), at10]
                refine q_iload F dX9_dish_97 4 rfl ?_
                refine q_dup2 F dX9_dish_99 rfl rfl ?_
                refine q_iald F hm.2.2.2.2.2.2.2.2.2.2.1 (Nat.le_of_ble_eq_true rfl) (by omega) dX9_dish_100 (fun h100 => ?_)
                refine q_iconst F dX9_dish_101 ?_
                refine q_iadd F dX9_dish_102 ?_
                refine q_iast F hm.2.2.2.2.2.2.2.2.2.2.1 (Nat.le_of_ble_eq_true rfl) (by omega) (by omega) dX9_dish_103 (fun N103 eN103 => ?_)
                obtain ⟨v104, e104⟩ : ∃ z_ : Int, z_ = g + 1 := ⟨_, rfl⟩
                refine q_iinc F dX9_dish_104 4 rfl e104 [(4, .int (q_I v104)), (0, .ref (q_ad G 0)), (1, .int (q_I a)), (2, .int (q_I p)), (3, .int (q_I v7))] (Nat.le_of_ble_eq_true rfl) rfl ?_
                refine q_goto F 11 dX9_dish_107 (by decide) ?_
                refine q_drop [1, 2, 3, 4, 0] rfl ?_
                exact ih11_1 _ (by omega) v104 N103 ⟨by omega, by
                      rw [e104]
                      refine q_d9_s hi11.2 hi11.1.1 (fun j h7 h10 h11 => ?_) (fun x => ?_) (fun x => ?_) (fun x => ?_)
                      · rw [eN103, q_up_ne h10, eN92, q_up_ne h7, w52, q_up_ne h11]
                      · rw [eN103, q_up_ne (by omega), eN92, q_up_at]
                        by_cases hx : x = g
                        · rw [if_pos hx, if_pos hx]
                          unfold q_left
                          rw [← e7', if_pos c59]
                          rw [w52, q_up_ne (by omega), at7] at c76
                          omega
                        · rw [if_neg hx, if_neg hx, w52, q_up_ne (by omega)]
                      · rw [eN103, q_up_at, eN92, q_up_ne (by omega), w52, q_up_ne (by omega)]
                        by_cases hx : x = g
                        · rw [if_pos hx, if_pos hx, at10, ← e7', c59]
                          rfl
                        · rw [if_neg hx, if_neg hx]
                      · rw [eN103, q_up_ne (by omega), eN92, q_up_ne (by omega), w52, q_up_at]⟩ rfl
              · refine q_aload_n F dX9_dish_79 0 rfl ?_
                refine q_getr (T := TX9) (ref := "LeastHungryModel") F huX9 rfl hm.1 10 (by decide) (by decide +kernel) rfl rfl dX9_dish_80 ?_
                refine q_iload F dX9_dish_83 4 rfl ?_
                refine q_iald F hm.2.2.2.2.2.2.2.1 (Nat.le_of_ble_eq_true rfl) (by omega) dX9_dish_85 (fun h85 => ?_)
                refine q_iconst F dX9_dish_86 ?_
                refine q_isub F dX9_dish_87 ?_
                refine q_goto F 92 dX9_dish_88 (by decide) ?_
                refine q_iast F hm.2.2.2.2.2.2.2.1 (Nat.le_of_ble_eq_true rfl) (by omega) (by omega) dX9_dish_92 (fun N92 eN92 => ?_)
                refine q_aload_n F dX9_dish_93 0 rfl ?_
                refine q_getr (T := TX9) (ref := "LeastHungryModel") F huX9 rfl hm.1 13 (by decide) (by decide +kernel) rfl rfl dX9_dish_94 ?_
                have i92 : N92 10 g = M 10 g := by rw [eN92, q_up_ne (by omega), w52, q_up_ne (by omega), at10]
                refine q_iload F dX9_dish_97 4 rfl ?_
                refine q_dup2 F dX9_dish_99 rfl rfl ?_
                refine q_iald F hm.2.2.2.2.2.2.2.2.2.2.1 (Nat.le_of_ble_eq_true rfl) (by omega) dX9_dish_100 (fun h100 => ?_)
                refine q_iconst F dX9_dish_101 ?_
                refine q_iadd F dX9_dish_102 ?_
                refine q_iast F hm.2.2.2.2.2.2.2.2.2.2.1 (Nat.le_of_ble_eq_true rfl) (by omega) (by omega) dX9_dish_103 (fun N103 eN103 => ?_)
                obtain ⟨v104, e104⟩ : ∃ z_ : Int, z_ = g + 1 := ⟨_, rfl⟩
                refine q_iinc F dX9_dish_104 4 rfl e104 [(4, .int (q_I v104)), (0, .ref (q_ad G 0)), (1, .int (q_I a)), (2, .int (q_I p)), (3, .int (q_I v7))] (Nat.le_of_ble_eq_true rfl) rfl ?_
                refine q_goto F 11 dX9_dish_107 (by decide) ?_
                refine q_drop [1, 2, 3, 4, 0] rfl ?_
                exact ih11_1 _ (by omega) v104 N103 ⟨by omega, by
                      rw [e104]
                      refine q_d9_s hi11.2 hi11.1.1 (fun j h7 h10 h11 => ?_) (fun x => ?_) (fun x => ?_) (fun x => ?_)
                      · rw [eN103, q_up_ne h10, eN92, q_up_ne h7, w52, q_up_ne h11]
                      · rw [eN103, q_up_ne (by omega), eN92, q_up_at]
                        by_cases hx : x = g
                        · rw [if_pos hx, if_pos hx]
                          unfold q_left
                          rw [← e7', if_pos c59]
                          rw [w52, q_up_ne (by omega), at7] at c76
                          rw [w52, q_up_ne (by omega), at7]
                          omega
                        · rw [if_neg hx, if_neg hx, w52, q_up_ne (by omega)]
                      · rw [eN103, q_up_at, eN92, q_up_ne (by omega), w52, q_up_ne (by omega)]
                        by_cases hx : x = g
                        · rw [if_pos hx, if_pos hx, at10, ← e7', c59]
                          rfl
                        · rw [if_neg hx, if_neg hx]
                      · rw [eN103, q_up_ne (by omega), eN92, q_up_ne (by omega), w52, q_up_at]⟩ rfl
          · refine q_iconst F dX9_dish_46 ?_
            refine q_goto F 51 dX9_dish_47 (by decide) ?_
            refine q_iadd F dX9_dish_51 ?_
            refine q_iast F hm.2.2.2.2.2.2.2.2.2.2.2.1 (Nat.le_of_ble_eq_true rfl) (by omega) (by omega) dX9_dish_52 (fun N52 eN52 => ?_)
            have hFO : q_has (q_FO (M 0 0) (M 0 4) (q_v9 M) a) g = true := by
              have hfo : q_fo (M1 7) (M1 8) (M1 0 4) g = q_fo (M 7) (M 8) (M 0 4) g := by
                rw [i0]
                exact q_fo_cg at7 (by rw [i8])
              rw [hFOg, ← hfo, ← i9, ← i0, c33, ← at7]
              simpa using c43
            have w52 : N52 = q_up M1 11 g (M 11 g + q_b (q_has (q_FO (M 0 0) (M 0 4) (q_v9 M) a) g)) := by rw [eN52, at11, hFO]; rfl
            refine q_iload_n F dX9_dish_53 3 rfl ?_
            refine q_iload F dX9_dish_54 4 rfl ?_
            refine q_callSP (n := 2) F (c_X9_has G hI N52 v7 g (by omega)) rfl gX9_dish_X9_has ⟨by decide, by decide, by decide +kernel⟩ rfl ⟨rfl, rfl, Nat.le_of_ble_eq_true rfl, Nat.le_of_ble_eq_true rfl⟩ rfl (Nat.le_of_ble_eq_true rfl) dX9_dish_56 (fun h56 => ?_)
            refine q_ifb_eq F 104 dX9_dish_59 (by decide) (fun c59 => ?_) (fun c59 => ?_)
            · obtain ⟨v104, e104⟩ : ∃ z_ : Int, z_ = g + 1 := ⟨_, rfl⟩
              refine q_iinc F dX9_dish_104 4 rfl e104 [(4, .int (q_I v104)), (0, .ref (q_ad G 0)), (1, .int (q_I a)), (2, .int (q_I p)), (3, .int (q_I v7))] (Nat.le_of_ble_eq_true rfl) rfl ?_
              refine q_goto F 11 dX9_dish_107 (by decide) ?_
              refine q_drop [1, 2, 3, 4, 0] rfl ?_
              exact ih11_1 _ (by omega) v104 N52 ⟨by omega, by
                    rw [e104]
                    refine q_d9_s hi11.2 hi11.1.1 (fun j h7 h10 h11 => ?_) (fun x => ?_) (fun x => ?_) (fun x => ?_)
                    · rw [w52, q_up_ne h11]
                    · rw [w52, q_up_ne (by omega)]
                      by_cases hx : x = g
                      · rw [if_pos hx, hx, at7]
                        unfold q_left
                        rw [← e7', c59]
                        simp
                      · rw [if_neg hx]
                    · rw [w52, q_up_ne (by omega)]
                      by_cases hx : x = g
                      · rw [if_pos hx, hx, at10, ← e7', c59]
                        simp [q_b]
                      · rw [if_neg hx]
                    · rw [w52, q_up_at]⟩ rfl
            · refine q_aload_n F dX9_dish_62 0 rfl ?_
              refine q_getr (T := TX9) (ref := "LeastHungryModel") F huX9 rfl hm.1 10 (by decide) (by decide +kernel) rfl rfl dX9_dish_63 ?_
              have i52 : N52 7 g = M 7 g := by rw [w52, q_up_ne (by omega), at7]
              have xhg := xh g hi11.1.1 c15
              refine q_iload F dX9_dish_66 4 rfl ?_
              refine q_aload_n F dX9_dish_68 0 rfl ?_
              refine q_getr (T := TX9) (ref := "LeastHungryModel") F huX9 rfl hm.1 10 (by decide) (by decide +kernel) rfl rfl dX9_dish_69 ?_
              refine q_iload F dX9_dish_72 4 rfl ?_
              refine q_iald F hm.2.2.2.2.2.2.2.1 (Nat.le_of_ble_eq_true rfl) (by omega) dX9_dish_74 (fun h74 => ?_)
              refine q_iconst F dX9_dish_75 ?_
              refine q_icmp_le F 91 dX9_dish_76 (by decide) (by omega) (fun c76 => ?_) (fun c76 => ?_)
              · refine q_iconst F dX9_dish_91 ?_
                refine q_iast F hm.2.2.2.2.2.2.2.1 (Nat.le_of_ble_eq_true rfl) (by omega) (by omega) dX9_dish_92 (fun N92 eN92 => ?_)
                refine q_aload_n F dX9_dish_93 0 rfl ?_
                refine q_getr (T := TX9) (ref := "LeastHungryModel") F huX9 rfl hm.1 13 (by decide) (by decide +kernel) rfl rfl dX9_dish_94 ?_
                have i92 : N92 10 g = M 10 g := by rw [eN92, q_up_ne (by omega), w52, q_up_ne (by omega), at10]
                refine q_iload F dX9_dish_97 4 rfl ?_
                refine q_dup2 F dX9_dish_99 rfl rfl ?_
                refine q_iald F hm.2.2.2.2.2.2.2.2.2.2.1 (Nat.le_of_ble_eq_true rfl) (by omega) dX9_dish_100 (fun h100 => ?_)
                refine q_iconst F dX9_dish_101 ?_
                refine q_iadd F dX9_dish_102 ?_
                refine q_iast F hm.2.2.2.2.2.2.2.2.2.2.1 (Nat.le_of_ble_eq_true rfl) (by omega) (by omega) dX9_dish_103 (fun N103 eN103 => ?_)
                obtain ⟨v104, e104⟩ : ∃ z_ : Int, z_ = g + 1 := ⟨_, rfl⟩
                refine q_iinc F dX9_dish_104 4 rfl e104 [(4, .int (q_I v104)), (0, .ref (q_ad G 0)), (1, .int (q_I a)), (2, .int (q_I p)), (3, .int (q_I v7))] (Nat.le_of_ble_eq_true rfl) rfl ?_
                refine q_goto F 11 dX9_dish_107 (by decide) ?_
                refine q_drop [1, 2, 3, 4, 0] rfl ?_
                exact ih11_1 _ (by omega) v104 N103 ⟨by omega, by
                      rw [e104]
                      refine q_d9_s hi11.2 hi11.1.1 (fun j h7 h10 h11 => ?_) (fun x => ?_) (fun x => ?_) (fun x => ?_)
                      · rw [eN103, q_up_ne h10, eN92, q_up_ne h7, w52, q_up_ne h11]
                      · rw [eN103, q_up_ne (by omega), eN92, q_up_at]
                        by_cases hx : x = g
                        · rw [if_pos hx, if_pos hx]
                          unfold q_left
                          rw [← e7', if_pos c59]
                          rw [w52, q_up_ne (by omega), at7] at c76
                          omega
                        · rw [if_neg hx, if_neg hx, w52, q_up_ne (by omega)]
                      · rw [eN103, q_up_at, eN92, q_up_ne (by omega), w52, q_up_ne (by omega)]
                        by_cases hx : x = g
                        · rw [if_pos hx, if_pos hx, at10, ← e7', c59]
                          rfl
                        · rw [if_neg hx, if_neg hx]
                      · rw [eN103, q_up_ne (by omega), eN92, q_up_ne (by omega), w52, q_up_at]⟩ rfl
              · refine q_aload_n F dX9_dish_79 0 rfl ?_
                refine q_getr (T := TX9) (ref := "LeastHungryModel") F huX9 rfl hm.1 10 (by decide) (by decide +kernel) rfl rfl dX9_dish_80 ?_
                refine q_iload F dX9_dish_83 4 rfl ?_
                refine q_iald F hm.2.2.2.2.2.2.2.1 (Nat.le_of_ble_eq_true rfl) (by omega) dX9_dish_85 (fun h85 => ?_)
                refine q_iconst F dX9_dish_86 ?_
                refine q_isub F dX9_dish_87 ?_
                refine q_goto F 92 dX9_dish_88 (by decide) ?_
                refine q_iast F hm.2.2.2.2.2.2.2.1 (Nat.le_of_ble_eq_true rfl) (by omega) (by omega) dX9_dish_92 (fun N92 eN92 => ?_)
                refine q_aload_n F dX9_dish_93 0 rfl ?_
                refine q_getr (T := TX9) (ref := "LeastHungryModel") F huX9 rfl hm.1 13 (by decide) (by decide +kernel) rfl rfl dX9_dish_94 ?_
                have i92 : N92 10 g = M 10 g := by rw [eN92, q_up_ne (by omega), w52, q_up_ne (by omega), at10]
                refine q_iload F dX9_dish_97 4 rfl ?_
                refine q_dup2 F dX9_dish_99 rfl rfl ?_
                refine q_iald F hm.2.2.2.2.2.2.2.2.2.2.1 (Nat.le_of_ble_eq_true rfl) (by omega) dX9_dish_100 (fun h100 => ?_)
                refine q_iconst F dX9_dish_101 ?_
                refine q_iadd F dX9_dish_102 ?_
                refine q_iast F hm.2.2.2.2.2.2.2.2.2.2.1 (Nat.le_of_ble_eq_true rfl) (by omega) (by omega) dX9_dish_103 (fun N103 eN103 => ?_)
                obtain ⟨v104, e104⟩ : ∃ z_ : Int, z_ = g + 1 := ⟨_, rfl⟩
                refine q_iinc F dX9_dish_104 4 rfl e104 [(4, .int (q_I v104)), (0, .ref (q_ad G 0)), (1, .int (q_I a)), (2, .int (q_I p)), (3, .int (q_I v7))] (Nat.le_of_ble_eq_true rfl) rfl ?_
                refine q_goto F 11 dX9_dish_107 (by decide) ?_
                refine q_drop [1, 2, 3, 4, 0] rfl ?_
                exact ih11_1 _ (by omega) v104 N103 ⟨by omega, by
                      rw [e104]
                      refine q_d9_s hi11.2 hi11.1.1 (fun j h7 h10 h11 => ?_) (fun x => ?_) (fun x => ?_) (fun x => ?_)
                      · rw [eN103, q_up_ne h10, eN92, q_up_ne h7, w52, q_up_ne h11]
                      · rw [eN103, q_up_ne (by omega), eN92, q_up_at]
                        by_cases hx : x = g
                        · rw [if_pos hx, if_pos hx]
                          unfold q_left
                          rw [← e7', if_pos c59]
                          rw [w52, q_up_ne (by omega), at7] at c76
                          rw [w52, q_up_ne (by omega), at7]
                          omega
                        · rw [if_neg hx, if_neg hx, w52, q_up_ne (by omega)]
                      · rw [eN103, q_up_at, eN92, q_up_ne (by omega), w52, q_up_ne (by omega)]
                        by_cases hx : x = g
                        · rw [if_pos hx, if_pos hx, at10, ← e7', c59]
                          rfl
                        · rw [if_neg hx, if_neg hx]
                      · rw [eN103, q_up_ne (by omega), eN92, q_up_ne (by omega), w52, q_up_at]⟩ rfl
  refine q_drop [2, 3, 4, 1, 0] rfl ?_
  exact lp11_1 _ 0 M ⟨by omega, q_d9_0⟩ rfl

set_option maxHeartbeats 4000000 in
set_option maxRecDepth 100000 in
theorem c_X9_hungrier (G : q_G) (hI : q_inj G) (M : q_M) (hm : q_mo G) (g : Int) (hh : (0 ≤ g ∧ g < 6) ∧ (0 ≤ M 7 g ∧ M 7 g ≤ 20)) : q_CV G yX9_hungrier wsX9_hungrier ({ frames := 0, cells := 0, slots := 0, locals := 0 } : Room) [.ref (q_ad G 0), .int (q_I g)] M (fun M' => M' = q_up M 7 g (min 20 (M 7 g + 1))) := by
  refine q_CV.of hI (by decide) rfl RX9 rfl [(0, .ref (q_ad G 0)), (1, .int (q_I g))] rfl (Nat.le_of_ble_eq_true rfl) (fun E F FV => ?_)
  have huX9 : ∀ w ∈ wsX90, w ∈ wsX9_hungrier := by decide +kernel
  refine q_MRof (fun hM => ?_)
  refine q_aload_n F dX9_hungrier_0 0 rfl ?_
  refine q_getr (T := TX9) (ref := "LeastHungryModel") F huX9 rfl hm.1 10 (by decide) (by decide +kernel) rfl rfl dX9_hungrier_1 ?_
  refine q_iload_n F dX9_hungrier_4 1 rfl ?_
  refine q_dup2 F dX9_hungrier_5 rfl rfl ?_
  refine q_iald F hm.2.2.2.2.2.2.2.1 (Nat.le_of_ble_eq_true rfl) (by omega) dX9_hungrier_6 (fun h6 => ?_)
  refine q_aload_n F dX9_hungrier_7 0 rfl ?_
  refine q_getr (T := TX9) (ref := "LeastHungryModel") F huX9 rfl hm.1 10 (by decide) (by decide +kernel) rfl rfl dX9_hungrier_8 ?_
  refine q_iload_n F dX9_hungrier_11 1 rfl ?_
  refine q_iald F hm.2.2.2.2.2.2.2.1 (Nat.le_of_ble_eq_true rfl) (by omega) dX9_hungrier_12 (fun h12 => ?_)
  refine q_bipush F dX9_hungrier_13 (by decide) ?_
  refine q_icmp_ge F 22 dX9_hungrier_15 (by decide) (by omega) (fun c15 => ?_) (fun c15 => ?_)
  · refine q_iconst F dX9_hungrier_22 ?_
    refine q_iadd F dX9_hungrier_23 ?_
    refine q_iast F hm.2.2.2.2.2.2.2.1 (Nat.le_of_ble_eq_true rfl) (by omega) (by omega) dX9_hungrier_24 (fun N24 eN24 => ?_)
    exact q_vret F FV dX9_hungrier_25 (by rw [eN24]; congr 1; omega)
  · refine q_iconst F dX9_hungrier_18 ?_
    refine q_goto F 23 dX9_hungrier_19 (by decide) ?_
    refine q_iadd F dX9_hungrier_23 ?_
    refine q_iast F hm.2.2.2.2.2.2.2.1 (Nat.le_of_ble_eq_true rfl) (by omega) (by omega) dX9_hungrier_24 (fun N24 eN24 => ?_)
    exact q_vret F FV dX9_hungrier_25 (by rw [eN24]; congr 1; omega)

set_option maxHeartbeats 4000000 in
set_option maxRecDepth 100000 in
theorem c_X9_hour (G : q_G) (hI : q_inj G) (M : q_M) (hm : q_mo G) (hv : q_zv M) : q_CV G yX9_hour wsX9_hour ({ frames := 1, cells := 0, slots := 0, locals := 21 } : Room) [.ref (q_ad G 0)] M (fun M' => q_fr 7 M M' ∧ M' 7 = q_hrT (M 0 0) (M 7)) := by
  refine q_CV.of hI (by decide) rfl RX9 rfl [(0, .ref (q_ad G 0))] rfl (Nat.le_of_ble_eq_true rfl) (fun E F FV => ?_)
  have huX9 : ∀ w ∈ wsX90, w ∈ wsX9_hour := by decide +kernel
  refine q_MRof (fun hM => ?_)
  obtain ⟨⟨xt, xk⟩, xh, xf, xa⟩ := id hv
  refine q_iconst F dX9_hour_0 ?_
  refine q_istore_n F dX9_hour_1 [(1, .int (q_I 0)), (0, .ref (q_ad G 0))] (Nat.le_of_ble_eq_true rfl) rfl ?_
  have lp2_1 : ∀ (k2_1 : Nat) (k : Int) (M1 : q_M), ((0 ≤ k ∧ k ≤ 6) ∧ q_fr 7 M M1 ∧ ∀ x, M1 7 x = if 0 ≤ x ∧ x < k then q_hrT (M 0 0) (M 7) x else M 7 x) → (6 - k).toNat = k2_1 → q_Y G E 2 M1 [(0, .ref (q_ad G 0)), (1, .int (q_I k))] 2 [] := by
    intro k2_1
    induction k2_1 using Nat.strongRecOn with
    | _ k2_1 ih2_1 =>
      intro k  M1 hi2 hk2
      refine q_MRof (fun hM2 => ?_)
      have i0 : M1 0 = M 0 := hi2.2.1 0 (by omega)
      have e7 := hi2.2.2 k
      rw [if_neg (by omega)] at e7
      have xhk : 0 ≤ k → k < 6 → _ := xh k
      have xt1 : 0 ≤ M1 0 0 ∧ M1 0 0 ≤ 63 := by rw [i0]; exact xt
      refine q_iload_n F dX9_hour_2 1 rfl ?_
      refine q_bipush F dX9_hour_3 (by decide) ?_
      refine q_icmp_ge F 30 dX9_hour_5 (by decide) (by omega) (fun c5 => ?_) (fun c5 => ?_)
      · exact q_vret F FV dX9_hour_30 ⟨hi2.2.1, funext fun x => by rw [hi2.2.2 x, show k = 6 by omega]; exact q_hrT_ext⟩
      · refine q_aload_n F dX9_hour_8 0 rfl ?_
        refine q_geti (T := TX9) (ref := "LeastHungryModel") F huX9 rfl hm.1 0 (by decide) (by decide +kernel) rfl 0 rfl rfl dX9_hour_9 (fun h9 => ?_)
        refine q_iload_n F dX9_hour_12 1 rfl ?_
        refine q_callSP (n := 2) F (c_X9_has G hI M1 _ k (by omega)) rfl gX9_hour_X9_has ⟨by decide, by decide, by decide +kernel⟩ rfl ⟨rfl, rfl, Nat.le_of_ble_eq_true rfl, Nat.le_of_ble_eq_true rfl⟩ rfl (Nat.le_of_ble_eq_true rfl) dX9_hour_13 (fun h13 => ?_)
        refine q_ifb_eq F 24 dX9_hour_16 (by decide) (fun c16 => ?_) (fun c16 => ?_)
        · obtain ⟨v24, e24⟩ : ∃ z_ : Int, z_ = k + 1 := ⟨_, rfl⟩
          refine q_iinc F dX9_hour_24 1 rfl e24 [(1, .int (q_I v24)), (0, .ref (q_ad G 0))] (Nat.le_of_ble_eq_true rfl) rfl ?_
          refine q_goto F 2 dX9_hour_27 (by decide) ?_
          refine q_drop [1, 0] rfl ?_
          exact ih2_1 _ (by omega) v24 M1 ⟨by omega, hi2.2.1, fun x => by
                rw [e24]
                by_cases hx : x = k
                · rw [if_pos (by omega), hx, e7]
                  unfold q_hrT
                  rw [← i0, c16]
                  simp
                · exact q_if_s hi2.1.1 (hi2.2.2 x) hx⟩ rfl
        · refine q_aload_n F dX9_hour_19 0 rfl ?_
          refine q_iload_n F dX9_hour_20 1 rfl ?_
          refine q_callVV (n := 1) (T := TX9) F (c_X9_hungrier G hI M1 hm k (by omega)) rfl rfl hm.1 gX9_hour_X9_hungrier rfl ⟨by decide, by decide, by decide +kernel⟩ rfl ⟨rfl, rfl, Nat.le_of_ble_eq_true rfl, Nat.le_of_ble_eq_true rfl⟩ rfl (Nat.le_of_ble_eq_true rfl) dX9_hour_21 (fun N21 p21 => ?_)
          obtain ⟨v24, e24⟩ : ∃ z_ : Int, z_ = k + 1 := ⟨_, rfl⟩
          refine q_iinc F dX9_hour_24 1 rfl e24 [(1, .int (q_I v24)), (0, .ref (q_ad G 0))] (Nat.le_of_ble_eq_true rfl) rfl ?_
          refine q_goto F 2 dX9_hour_27 (by decide) ?_
          refine q_drop [1, 0] rfl ?_
          exact ih2_1 _ (by omega) v24 N21 ⟨by omega, q_fr_tr hi2.2.1 (q_fr_up p21), fun x => by
                rw [e24, p21, q_up_at]
                by_cases hx : x = k
                · rw [if_pos hx, if_pos (by omega), hx, e7]
                  unfold q_hrT
                  rw [← i0, c16]
                  simp
                · rw [if_neg hx]
                  exact q_if_s hi2.1.1 (hi2.2.2 x) hx⟩ rfl
  refine q_drop [1, 0] rfl ?_
  exact lp2_1 _ 0 M ⟨by omega, q_fr_rf, fun x => by rw [if_neg (by omega)]⟩ rfl

set_option maxHeartbeats 4000000 in
set_option maxRecDepth 100000 in
theorem c_X9_whyNotGo (G : q_G) (hI : q_inj G) (M : q_M) (hm : q_mo G) (g : Int) (a : Int) (hv : q_zv M) (hga : (-2147483648 ≤ g ∧ g ≤ 2147483647) ∧ (-2147483648 ≤ a ∧ a ≤ 2147483647)) : q_CI G yX9_whyNotGo wsX9_whyNotGo ({ frames := 2, cells := 0, slots := 0, locals := 43 } : Room) [.ref (q_ad G 0), .int (q_I g), .int (q_I a)] M (fun z M' => z = q_goW (M 0 0) (q_v9 M) g a ∧ M' = M) := by
  refine q_CI.of hI (by decide) rfl RX9 rfl [(0, .ref (q_ad G 0)), (1, .int (q_I g)), (2, .int (q_I a))] rfl (Nat.le_of_ble_eq_true rfl) (fun E F FI => ?_)
  have huX9 : ∀ w ∈ wsX90, w ∈ wsX9_whyNotGo := by decide +kernel
  refine q_MRof (fun hM => ?_)
  obtain ⟨⟨xt, xk⟩, xh, xf, xa⟩ := id hv
  refine q_aload_n F dX9_whyNotGo_0 0 rfl ?_
  refine q_iload_n F dX9_whyNotGo_1 1 rfl ?_
  refine q_callVP (n := 1) (T := TX9) F (c_X9_isThere G hI M hm g (by omega) hv.1) rfl rfl hm.1 gX9_whyNotGo_X9_isThere rfl ⟨by decide, by decide, by decide +kernel⟩ rfl ⟨rfl, rfl, Nat.le_of_ble_eq_true rfl, Nat.le_of_ble_eq_true rfl⟩ rfl (Nat.le_of_ble_eq_true rfl) dX9_whyNotGo_2 (fun h2 => ?_)
  refine q_ifb_ne F 12 dX9_whyNotGo_5 (by decide) (fun c5 => ?_) (fun c5 => ?_)
  · have hgi := q_has_in c5
    have hxa := xa g hgi.1 hgi.2
    refine q_aload_n F dX9_whyNotGo_12 0 rfl ?_
    refine q_getr (T := TX9) (ref := "LeastHungryModel") F huX9 rfl hm.1 12 (by decide) (by decide +kernel) rfl rfl dX9_whyNotGo_13 ?_
    refine q_iload_n F dX9_whyNotGo_16 1 rfl ?_
    refine q_iald F hm.2.2.2.2.2.2.2.2.2.1 (Nat.le_of_ble_eq_true rfl) (by omega) dX9_whyNotGo_17 (fun h17 => ?_)
    refine q_iload_n F dX9_whyNotGo_18 2 rfl ?_
    refine q_icmp_ne F 26 dX9_whyNotGo_19 (by decide) (by omega) (fun c19 => ?_) (fun c19 => ?_)
    · refine q_iconst F dX9_whyNotGo_26 ?_
      exact q_iret F FI dX9_whyNotGo_27 (by omega) ⟨by unfold q_goW; rw [if_pos c5]; exact (if_neg c19).symm, rfl⟩
    · refine q_iconst F dX9_whyNotGo_22 ?_
      refine q_goto F 27 dX9_whyNotGo_23 (by decide) ?_
      exact q_iret F FI dX9_whyNotGo_27 (by omega) ⟨by unfold q_goW; rw [if_pos c5]; exact (if_pos c19).symm, rfl⟩
  · refine q_iconst F dX9_whyNotGo_8 ?_
    refine q_goto F 27 dX9_whyNotGo_9 (by decide) ?_
    exact q_iret F FI dX9_whyNotGo_27 (by omega) ⟨by unfold q_goW; rw [if_neg (by simp [c5])], rfl⟩

set_option maxHeartbeats 4000000 in
set_option maxRecDepth 100000 in
theorem c_X9_go (G : q_G) (hI : q_inj G) (M : q_M) (hm : q_mo G) (g : Int) (a : Int) (hh : (0 ≤ g ∧ g < 6) ∧ (0 ≤ M 7 g ∧ M 7 g ≤ 20) ∧ (-2147483648 ≤ a ∧ a ≤ 2147483647)) : q_CV G yX9_go wsX9_go ({ frames := 1, cells := 0, slots := 0, locals := 21 } : Room) [.ref (q_ad G 0), .int (q_I g), .int (q_I a)] M (fun M' => M' = q_up (q_up M 9 g a) 7 g (min 20 (M 7 g + 1))) := by
  refine q_CV.of hI (by decide) rfl RX9 rfl [(0, .ref (q_ad G 0)), (1, .int (q_I g)), (2, .int (q_I a))] rfl (Nat.le_of_ble_eq_true rfl) (fun E F FV => ?_)
  have huX9 : ∀ w ∈ wsX90, w ∈ wsX9_go := by decide +kernel
  refine q_MRof (fun hM => ?_)
  refine q_aload_n F dX9_go_0 0 rfl ?_
  refine q_getr (T := TX9) (ref := "LeastHungryModel") F huX9 rfl hm.1 12 (by decide) (by decide +kernel) rfl rfl dX9_go_1 ?_
  refine q_iload_n F dX9_go_4 1 rfl ?_
  refine q_iload_n F dX9_go_5 2 rfl ?_
  refine q_iast F hm.2.2.2.2.2.2.2.2.2.1 (Nat.le_of_ble_eq_true rfl) (by omega) (by omega) dX9_go_6 (fun N6 eN6 => ?_)
  have i7 : N6 7 g = M 7 g := by rw [eN6, q_up_ne (by omega)]
  refine q_aload_n F dX9_go_7 0 rfl ?_
  refine q_iload_n F dX9_go_8 1 rfl ?_
  refine q_callVV (n := 1) (T := TX9) F (c_X9_hungrier G hI N6 hm g (by omega)) rfl rfl hm.1 gX9_go_X9_hungrier rfl ⟨by decide, by decide, by decide +kernel⟩ rfl ⟨rfl, rfl, Nat.le_of_ble_eq_true rfl, Nat.le_of_ble_eq_true rfl⟩ rfl (Nat.le_of_ble_eq_true rfl) dX9_go_9 (fun N9 p9 => ?_)
  exact q_vret F FV dX9_go_12 (by rw [p9, i7, eN6])
