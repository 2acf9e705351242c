/-! worlds, in the class's order -/
def q_ctN (P : Int → Bool) : Nat → Int
  | 0 => 0
  | n + 1 => q_ctN P n + q_b (P n)
def q_mnN (P : Int → Bool) (v : Int → Int) (i : Int) : Nat → Int
  | 0 => i
  | n + 1 => if P n = true then min (q_mnN P v i n) (v n) else q_mnN P v i n
def q_mxP (P : Int → Bool) (v : Int → Int) (i : Int) : Nat → Int
  | 0 => i
  | n + 1 => if P n = true then max (q_mxP P v i n) (v n) else q_mxP P v i n
def q_mxN (f : Int → Int) : Nat → Int
  | 0 => 0
  | n + 1 => max (q_mxN f n) (f n)
def q_best (f : Int → Int) : Nat → Int
  | 0 => 1
  | n + 1 => if f (n + 2) < f (q_best f n) then n + 2 else q_best f n
theorem q_ctN_s (P : Int → Bool) (n : Nat) : q_ctN P (n + 1) = q_ctN P n + q_b (P n) := rfl
theorem q_mnN_s (P : Int → Bool) (v : Int → Int) (i : Int) (n : Nat) : q_mnN P v i (n + 1) = if P n = true then min (q_mnN P v i n) (v n) else q_mnN P v i n := rfl
theorem q_mxP_s (P : Int → Bool) (v : Int → Int) (i : Int) (n : Nat) : q_mxP P v i (n + 1) = if P n = true then max (q_mxP P v i n) (v n) else q_mxP P v i n := rfl
theorem q_ctN_R (P : Int → Bool) : ∀ n : Nat, 0 ≤ q_ctN P n ∧ q_ctN P n ≤ n
  | 0 => by simp [q_ctN]
  | n + 1 => by
    have h := q_ctN_R P n
    have h2 := q_bB (P n)
    unfold q_ctN
    omega
theorem q_best_R (f : Int → Int) : ∀ n : Nat, 1 ≤ q_best f n ∧ q_best f n ≤ n + 1
  | 0 => by simp [q_best]
  | n + 1 => by
    have h := q_best_R f n
    unfold q_best
    split <;> omega
theorem q_ctN_congr {P Q : Int → Bool} : ∀ n : Nat, (∀ r : Int, 0 ≤ r → r < n → P r = Q r) → q_ctN P n = q_ctN Q n
  | 0, _ => rfl
  | n + 1, h => by
    unfold q_ctN
    rw [q_ctN_congr n (fun r h0 h1 => h r h0 (by omega)), h n (by omega) (by omega)]
theorem q_mnN_congr {P Q : Int → Bool} {v u : Int → Int} {i : Int} : ∀ n : Nat, (∀ r : Int, 0 ≤ r → r < n → P r = Q r ∧ v r = u r) → q_mnN P v i n = q_mnN Q u i n
  | 0, _ => rfl
  | n + 1, h => by
    unfold q_mnN
    rw [q_mnN_congr n (fun r h0 h1 => h r h0 (by omega)), (h n (by omega) (by omega)).1, (h n (by omega) (by omega)).2]
theorem q_mxP_congr {P Q : Int → Bool} {v u : Int → Int} {i : Int} : ∀ n : Nat, (∀ r : Int, 0 ≤ r → r < n → P r = Q r ∧ v r = u r) → q_mxP P v i n = q_mxP Q u i n
  | 0, _ => rfl
  | n + 1, h => by
    unfold q_mxP
    rw [q_mxP_congr n (fun r h0 h1 => h r h0 (by omega)), (h n (by omega) (by omega)).1, (h n (by omega) (by omega)).2]
theorem q_fit_congr {d s tk tk' : Int → Int} : ∀ n : Nat, (∀ i : Int, 0 ≤ i → i < n → tk (d i) = tk' (d i)) → q_fit d s tk n = q_fit d s tk' n
  | 0, _ => rfl
  | n + 1, h => by
    rw [q_fit_s, q_fit_s, q_fit_congr n (fun i h0 h1 => h i h0 (by omega)), h n (by omega) (by omega)]
def q_H6 (S : Int) (h : Int → Int) (r : Int) : Int → Int := fun x => if q_has S x = true then q_dig S r 6 x * 1 else h x
def q_T6 (h f a : Int → Int) (th ke S r p : Int) : Int := q_set (q_tk (q_H6 S h r) f a th ke 0 p)
def q_fitR (h f a : Int → Int) (th ke S : Int) (d s : Int → Int) (n r : Int) : Bool := q_fit d s (q_T6 h f a th ke S r) n.toNat
theorem q_H6_v {S r : Int} {h : Int → Int} (hh : q_hv h) : q_hv (q_H6 S h r) := fun x h0 h1 => by
  unfold q_H6 q_dig
  split
  · omega
  · exact hh x h0 h1
theorem q_T6_ag {h f a h' f' a' : Int → Int} {th ke S r p : Int} (s : q_agR h f a h' f' a') : q_T6 h f a th ke S r p = q_T6 h' f' a' th ke S r p :=
  q_set_congr (fun y _ _ => q_tk_sim (q_agR_sim (fun z z0 z1 => ⟨by unfold q_H6; rw [(s z z0 z1).1], (s z z0 z1).2⟩)) y)
theorem q_fitR_ag {h f a h' f' a' : Int → Int} {th ke S n r : Int} {d s : Int → Int} (g : q_agR h f a h' f' a') : q_fitR h f a th ke S d s n r = q_fitR h' f' a' th ke S d s n r := by
  unfold q_fitR
  exact q_fit_congr _ (fun i _ _ => q_T6_ag g)
theorem q_pw6_R {S : Int} (hn : q_cnt (q_has S) ≤ 4) : 1 ≤ q_pw 6 (q_cnt (q_has S)).toNat ∧ q_pw 6 (q_cnt (q_has S)).toNat ≤ 1296 := by
  have hr := q_cnt_R (q_has S)
  generalize q_cnt (q_has S) = k at *
  rcases (show k = 0 ∨ k = 1 ∨ k = 2 ∨ k = 3 ∨ k = 4 by omega) with rfl | rfl | rfl | rfl | rfl <;> decide
theorem q_set_lt0' {P : Int → Bool} : (0 : Int) = q_set (q_lt P 0) := (q_set_0 P).symm
/-- what the table of worlds holds when rows below r have been looked at -/
def q_LK (M : q_M) (w : Nat) (h f a : Int → Int) (th ke S : Int) (d s : Int → Int) (n : Int) (r : Nat) : Prop :=
  M w 5 = q_ctN (q_fitR h f a th ke S d s n) r ∧
  (∀ x, 0 ≤ x → x < 6 → M (w + 7) x = q_mnN (q_fitR h f a th ke S d s n) (fun r => q_H6 S h r x) 20 r ∧ M (w + 8) x = q_mxP (q_fitR h f a th ke S d s n) (fun r => q_H6 S h r x) 0 r) ∧
  (∀ p q, 1 ≤ p → p ≤ 9 → 0 ≤ q → q ≤ 63 → M (w + 9) (p * 64 + q) = q_ctN (fun r => q_fitR h f a th ke S d s n r && decide (q_T6 h f a th ke S r p = q)) r)
theorem q_LK_ag {M : q_M} {w : Nat} {h f a h' f' a' : Int → Int} {th ke S n : Int} {d s : Int → Int} {r : Nat} (g : q_agR h f a h' f' a') (k : q_LK M w h f a th ke S d s n r) : q_LK M w h' f' a' th ke S d s n r := by
  have eH : ∀ r x, 0 ≤ x → x < 6 → q_H6 S h r x = q_H6 S h' r x := fun r x x0 x1 => by unfold q_H6; rw [(g x x0 x1).1]
  refine ⟨?_, fun x x0 x1 => ⟨?_, ?_⟩, fun p q p0 p1 q0 q1 => ?_⟩
  · rw [k.1]; exact q_ctN_congr _ (fun r _ _ => q_fitR_ag g)
  · rw [(k.2.1 x x0 x1).1]; exact q_mnN_congr _ (fun r _ _ => ⟨q_fitR_ag g, eH r x x0 x1⟩)
  · rw [(k.2.1 x x0 x1).2]; exact q_mxP_congr _ (fun r _ _ => ⟨q_fitR_ag g, eH r x x0 x1⟩)
  · rw [k.2.2 p q p0 p1 q0 q1]; exact q_ctN_congr _ (fun r _ _ => by rw [q_fitR_ag g, q_T6_ag g])
theorem q_LK_0 {M : q_M} {w : Nat} {h f a : Int → Int} {th ke S n : Int} {d s : Int → Int} (h5 : M w 5 = 0) (h7 : ∀ x, 0 ≤ x → x < 6 → M (w + 7) x = 20) (h8 : ∀ x, 0 ≤ x → x < 6 → M (w + 8) x = 0) (h9 : ∀ x, 0 ≤ x → x < 640 → M (w + 9) x = 0) : q_LK M w h f a th ke S d s n 0 :=
  ⟨h5, fun x x0 x1 => ⟨h7 x x0 x1, h8 x x0 x1⟩, fun p q p0 p1 q0 q1 => h9 _ (by omega) (by omega)⟩
theorem q_LK_R {M : q_M} {w : Nat} {h f a : Int → Int} {th ke S n : Int} {d s : Int → Int} {r : Nat} (k : q_LK M w h f a th ke S d s n r) : (0 ≤ M w 5 ∧ M w 5 ≤ r) ∧ ∀ p q, 1 ≤ p → p ≤ 9 → 0 ≤ q → q ≤ 63 → 0 ≤ M (w + 9) (p * 64 + q) ∧ M (w + 9) (p * 64 + q) ≤ r := by
  refine ⟨by rw [k.1]; exact q_ctN_R _ _, fun p q p0 p1 q0 q1 => by rw [k.2.2 p q p0 p1 q0 q1]; exact q_ctN_R _ _⟩
theorem q_LK_no {M M' : q_M} {w : Nat} {h f a : Int → Int} {th ke S n : Int} {d s : Int → Int} {r : Nat} (k : q_LK M w h f a th ke S d s n r) (hf : q_fitR h f a th ke S d s n r = false) (e : ∀ j, (j = w ∨ j = w + 7 ∨ j = w + 8 ∨ j = w + 9) → M' j = M j) : q_LK M' w h f a th ke S d s n (r + 1) := by
  refine ⟨?_, fun x x0 x1 => ⟨?_, ?_⟩, fun p q p0 p1 q0 q1 => ?_⟩
  · rw [e w (by omega), k.1, q_ctN_s, hf]; simp [q_b]
  · rw [e _ (by omega), (k.2.1 x x0 x1).1, q_mnN_s, if_neg (by simp [hf])]
  · rw [e _ (by omega), (k.2.1 x x0 x1).2, q_mxP_s, if_neg (by simp [hf])]
  · rw [e _ (by omega), k.2.2 p q p0 p1 q0 q1, q_ctN_s, hf]; simp [q_b]
theorem q_LK_yes {M M' : q_M} {w : Nat} {h f a : Int → Int} {th ke S n : Int} {d s : Int → Int} {r : Nat} (k : q_LK M w h f a th ke S d s n r) (hf : q_fitR h f a th ke S d s n r = true) (e5 : M' w 5 = M w 5 + 1) (e7 : ∀ x, 0 ≤ x → x < 6 → M' (w + 7) x = min (M (w + 7) x) (q_H6 S h r x)) (e8 : ∀ x, 0 ≤ x → x < 6 → M' (w + 8) x = max (M (w + 8) x) (q_H6 S h r x))
    (e9 : ∀ p q, 1 ≤ p → p ≤ 9 → 0 ≤ q → q ≤ 63 → M' (w + 9) (p * 64 + q) = M (w + 9) (p * 64 + q) + (if q_T6 h f a th ke S r p = q then 1 else 0)) : q_LK M' w h f a th ke S d s n (r + 1) := by
  refine ⟨?_, fun x x0 x1 => ⟨?_, ?_⟩, fun p q p0 p1 q0 q1 => ?_⟩
  · rw [e5, k.1]; conv => rhs; unfold q_ctN; rw [hf]
    rfl
  · rw [e7 x x0 x1, (k.2.1 x x0 x1).1]; conv => rhs; unfold q_mnN; rw [if_pos hf]
  · rw [e8 x x0 x1, (k.2.1 x x0 x1).2]; conv => rhs; unfold q_mxP; rw [if_pos hf]
  · rw [e9 p q p0 p1 q0 q1, k.2.2 p q p0 p1 q0 q1]; conv => rhs; unfold q_ctN; rw [hf]
    by_cases hq : q_T6 h f a th ke S r p = q <;> simp [hq, q_b]
set_option maxHeartbeats 4000000 in
set_option maxRecDepth 100000 in
theorem c_X1_takersOfEach (G : q_G) (hI : q_inj G) (M : q_M) (c : Nat) (hc : q_co G c) (a : Int) (k : Nat) (hk : q_sh G k = some (.inl (false, 10))) (hv : q_cv M c) (ha : -2147483648 ≤ a ∧ a ≤ 2147483647) (hkc : k < c ∨ c + 4 < k) : q_CV G yX1_takersOfEach wsX1_takersOfEach ({ frames := 3, cells := 0, slots := 0, locals := 66 } : Room) [.ref (q_ad G c), .int (q_I a), .ref (q_ad G k)] M (fun M' => (∀ j, j ≠ k → j ≠ c + 4 → M' j = M j) ∧ ∀ p, 0 ≤ p → p ≤ 9 → M' k p = q_set (q_tk (M (c + 1)) (M (c + 2)) (M (c + 3)) (M c 4) (M c 5) a p)) := by
  refine q_CV.of hI (by decide) rfl RX1 rfl [(0, .ref (q_ad G c)), (1, .int (q_I a)), (2, .ref (q_ad G k))] rfl (Nat.le_of_ble_eq_true rfl) (fun E F FV => ?_)
  have huX1 : ∀ w ∈ wsX10, w ∈ wsX1_takersOfEach := by decide +kernel
  refine q_MRof (fun hM => ?_)
  have hv4 := hv.1
  have hv5 := hv.2.1
  refine q_aload_n F dX1_takersOfEach_0 0 rfl ?_
  refine q_iload_n F dX1_takersOfEach_1 1 rfl ?_
  refine q_callVP (n := 1) (T := TX1) F (c_X1_hungry G hI M c hc a (by assumption) (by omega)) rfl rfl hc.1 gX1_takersOfEach_X1_hungry rfl ⟨by decide, by decide, by decide +kernel⟩ rfl ⟨rfl, rfl, Nat.le_of_ble_eq_true rfl, Nat.le_of_ble_eq_true rfl⟩ rfl (Nat.le_of_ble_eq_true rfl) dX1_takersOfEach_2 (fun h2 => ?_)
  refine q_nm (fun v5 e5 => ?_)
  refine q_istore_n F dX1_takersOfEach_5 [(3, .int (q_I v5)), (0, .ref (q_ad G c)), (1, .int (q_I a)), (2, .ref (q_ad G k))] (Nat.le_of_ble_eq_true rfl) rfl ?_
  refine q_iload_n F dX1_takersOfEach_6 0 rfl ?_
  refine q_aload_n F dX1_takersOfEach_7 1 rfl ?_
  refine q_iload_n F dX1_takersOfEach_8 0 rfl ?_
  refine q_callVP (n := 1) (T := TX1) F (c_X1_foundOut G hI M c hc v5 (by assumption) (by rw [e5]; exact q_set_R _)) rfl rfl hc.1 gX1_takersOfEach_X1_foundOut rfl ⟨by decide, by decide, by decide +kernel⟩ rfl ⟨rfl, rfl, Nat.le_of_ble_eq_true rfl, Nat.le_of_ble_eq_true rfl⟩ rfl (Nat.le_of_ble_eq_true rfl) dX1_takersOfEach_9 (fun h9 => ?_)
  refine q_iconst F dX1_takersOfEach_12 ?_
  refine q_ixor F dX1_takersOfEach_13 (fun z13 e13 h13 => ?_)
  refine q_iand F dX1_takersOfEach_14 (fun z14 e14 h14 => ?_)
  have hz14 : 0 ≤ z14 ∧ z14 ≤ 63 := by rw [e14, e13, e5, q_andn_set]; exact q_set_R _
  refine q_istore F dX1_takersOfEach_15 [(4, .int (q_I z14)), (3, .int (q_I v5)), (0, .ref (q_ad G c)), (1, .int (q_I a)), (2, .ref (q_ad G k))] (Nat.le_of_ble_eq_true rfl) rfl ?_
  refine q_aload_n F dX1_takersOfEach_17 2 rfl ?_
  refine q_callVA (n := 0) (T := TX1) F (c_X1_allShown G hI M c hc (by assumption)) rfl rfl hc.1 gX1_takersOfEach_X1_allShown rfl ⟨by decide, by decide, by decide +kernel⟩ rfl ⟨rfl, rfl, Nat.le_of_ble_eq_true rfl, Nat.le_of_ble_eq_true rfl⟩ rfl (Nat.le_of_ble_eq_true rfl) dX1_takersOfEach_18 (fun N18 p18 => ?_)
  refine q_pop F dX1_takersOfEach_21 rfl ?_
  refine q_aload_n F dX1_takersOfEach_22 4 rfl ?_
  refine q_iconst F dX1_takersOfEach_23 ?_
  refine q_callSV (n := 2) F (c_J7_fill_53178 G hI N18 k 10 hk 0 (by omega)) rfl gX1_takersOfEach_J7_fill_53178 ⟨by decide, by decide, by decide +kernel⟩ rfl ⟨rfl, rfl, Nat.le_of_ble_eq_true rfl, Nat.le_of_ble_eq_true rfl⟩ rfl (Nat.le_of_ble_eq_true rfl) dX1_takersOfEach_24 (fun N24 p24 => ?_)
  refine q_iconst F dX1_takersOfEach_27 ?_
  refine q_istore F dX1_takersOfEach_28 [(5, .int (q_I 0)), (4, .int (q_I z14)), (3, .int (q_I v5)), (0, .ref (q_ad G c)), (1, .int (q_I a)), (2, .ref (q_ad G k))] (Nat.le_of_ble_eq_true rfl) rfl ?_
  have lp30_1 : ∀ (k30_1 : Nat) (g : Int) (M1 : q_M), ((0 ≤ g ∧ g ≤ 6) ∧ q_fr k N24 M1 ∧ ∀ q, 0 ≤ q → q ≤ 9 → M1 k q = q_set (q_lt (fun x => q_has z14 x && decide (q_place (N24 (c + 4)) z14 x < q)) g)) → (6 - g).toNat = k30_1 → q_Y G E 7 M1 [(0, .ref (q_ad G c)), (1, .int (q_I a)), (2, .ref (q_ad G k)), (3, .int (q_I v5)), (4, .int (q_I z14)), (5, .int (q_I g))] 30 [] := by
    intro k30_1
    induction k30_1 using Nat.strongRecOn with
    | _ k30_1 ih30_1 =>
      intro g  M1 hi30 hk30
      refine q_MRof (fun hM30 => ?_)
      refine q_iload F dX1_takersOfEach_30 5 rfl ?_
      refine q_bipush F dX1_takersOfEach_32 (by decide) ?_
      refine q_icmp_ge F 98 dX1_takersOfEach_34 (by decide) (by omega) (fun c34 => ?_) (fun c34 => ?_)
      · exact q_vret F FV dX1_takersOfEach_98 ⟨fun j h1 h2 => by rw [hi30.2.1 j h1, p24.1 j h1, p18.1 j h2], fun p p0 p1 => by
      rw [hi30.2.2 p p0 p1, show g = 6 by omega, q_set_6, e14, e13, e5]
      exact q_tk_of (fun x x0 x1 => by rw [p24.1 _ (by omega)]; exact p18.2 x x0 x1)⟩
      · refine q_iload F dX1_takersOfEach_37 4 rfl ?_
        refine q_iload F dX1_takersOfEach_39 5 rfl ?_
        refine q_callNP (n := 2) F (c_X8_holds G hI M1 z14 g (by omega)) rfl gX1_takersOfEach_X8_holds_n45 (host := RX8) (by decide +kernel) (by decide +kernel) (by decide +kernel) ⟨by decide, by decide, by decide +kernel⟩ rfl ⟨rfl, rfl, Nat.le_of_ble_eq_true rfl, Nat.le_of_ble_eq_true rfl⟩ rfl (Nat.le_of_ble_eq_true rfl) dX1_takersOfEach_41 (fun h41 => ?_)
        refine q_ifb_eq F 92 dX1_takersOfEach_44 (by decide) (fun c44 => ?_) (fun c44 => ?_)
        · obtain ⟨v92, e92⟩ : ∃ z_ : Int, z_ = g + 1 := ⟨_, rfl⟩
          refine q_iinc F dX1_takersOfEach_92 5 rfl e92 [(5, .int (q_I v92)), (0, .ref (q_ad G c)), (1, .int (q_I a)), (2, .ref (q_ad G k)), (3, .int (q_I v5)), (4, .int (q_I z14))] (Nat.le_of_ble_eq_true rfl) rfl ?_
          refine q_goto F 30 dX1_takersOfEach_95 (by decide) ?_
          refine q_drop [1, 2, 3, 4, 5, 0] rfl ?_
          exact ih30_1 _ (by omega) v92 M1 ⟨by omega, hi30.2.1, fun q h0 h1 => by rw [e92, q_set_step _ hi30.1.1 c34, if_neg (by simp [c44])]; exact hi30.2.2 q h0 h1⟩ rfl
        · refine q_iload F dX1_takersOfEach_47 5 rfl ?_
          refine q_aload_n F dX1_takersOfEach_49 0 rfl ?_
          refine q_getr (T := TX1) (ref := "LeastHungry$Company") F huX1 rfl hc.1 3 (by decide) (by decide +kernel) rfl rfl dX1_takersOfEach_50 ?_
          refine q_iload F dX1_takersOfEach_53 4 rfl ?_
          refine q_callNP (n := 3) F (c_X8_placeOf G hI M1 g (c + 4) z14 hc.2.2.2.2 (by omega)) rfl gX1_takersOfEach_X8_placeOf_n89 (host := RX8) (by decide +kernel) (by decide +kernel) (by decide +kernel) ⟨by decide, by decide, by decide +kernel⟩ rfl ⟨rfl, rfl, Nat.le_of_ble_eq_true rfl, Nat.le_of_ble_eq_true rfl⟩ rfl (Nat.le_of_ble_eq_true rfl) dX1_takersOfEach_55 (fun h55 => ?_)
          have hpl := q_cnt_R (fun y => q_has z14 y && (decide (M1 (c + 4) y < M1 (c + 4) g) || (decide (M1 (c + 4) y = M1 (c + 4) g) && decide (y < g))))
          have hpl2 : 0 ≤ q_place (M1 (c + 4)) z14 g ∧ q_place (M1 (c + 4)) z14 g ≤ 6 := hpl
          refine q_iconst F dX1_takersOfEach_58 ?_
          refine q_iadd F dX1_takersOfEach_59 ?_
          refine q_nm (fun v60 e60 => ?_)
          refine q_istore F dX1_takersOfEach_60 [(6, .int (q_I v60)), (0, .ref (q_ad G c)), (1, .int (q_I a)), (2, .ref (q_ad G k)), (3, .int (q_I v5)), (4, .int (q_I z14)), (5, .int (q_I g))] (Nat.le_of_ble_eq_true rfl) rfl ?_
          have lp62_2 : ∀ (k62_2 : Nat) (p : Int) (M2 : q_M), ((v60 ≤ p ∧ p ≤ 10) ∧ q_fr k M1 M2 ∧ ∀ q, 0 ≤ q → q ≤ 9 → M2 k q = if v60 ≤ q ∧ q < p then q_or (M1 k q) (q_shl 1 g) else M1 k q) → (10 - p).toNat = k62_2 → q_Y G E 7 M2 [(0, .ref (q_ad G c)), (1, .int (q_I a)), (2, .ref (q_ad G k)), (3, .int (q_I v5)), (4, .int (q_I z14)), (5, .int (q_I g)), (6, .int (q_I p))] 62 [] := by
            intro k62_2
            induction k62_2 using Nat.strongRecOn with
            | _ k62_2 ih62_2 =>
              intro p  M2 hi62 hk62
              refine q_MRof (fun hM62 => ?_)
              refine q_iload F dX1_takersOfEach_62 6 rfl ?_
              refine q_aload_n F dX1_takersOfEach_64 2 rfl ?_
              refine q_alen F 10 hk rfl dX1_takersOfEach_65 ?_
              refine q_icmp_ge F 92 dX1_takersOfEach_66 (by decide) (by omega) (fun c66 => ?_) (fun c66 => ?_)
              · obtain ⟨v92, e92⟩ : ∃ z_ : Int, z_ = g + 1 := ⟨_, rfl⟩
                refine q_iinc F dX1_takersOfEach_92 5 rfl e92 [(5, .int (q_I v92)), (0, .ref (q_ad G c)), (1, .int (q_I a)), (2, .ref (q_ad G k)), (3, .int (q_I v5)), (4, .int (q_I z14)), (6, .int (q_I p))] (Nat.le_of_ble_eq_true rfl) rfl ?_
                refine q_goto F 30 dX1_takersOfEach_95 (by decide) ?_
                refine q_drop [1, 2, 3, 4, 5, 0] rfl ?_
                exact ih30_1 _ (by omega) v92 M2 ⟨by omega, q_fr_tr hi30.2.1 hi62.2.1, fun q h0 h1 => by
        rw [e92, q_set_step _ hi30.1.1 c34, hi62.2.2 q h0 h1, ← hi30.2.2 q h0 h1]
        have hk4 : M1 (c + 4) = N24 (c + 4) := hi30.2.1 _ (by omega)
        rw [hk4] at e60
        by_cases hq : v60 ≤ q
        · rw [if_pos ⟨hq, by omega⟩, if_pos (by simp [c44]; omega)]
        · rw [if_neg (fun h => hq h.1), if_neg (by simp [c44]; omega)]⟩ rfl
              · refine q_aload_n F dX1_takersOfEach_69 2 rfl ?_
                refine q_iload F dX1_takersOfEach_70 6 rfl ?_
                refine q_aload_n F dX1_takersOfEach_72 2 rfl ?_
                refine q_iload F dX1_takersOfEach_73 6 rfl ?_
                refine q_callNP (n := 2) F (c_X8_at G hI M2 k 10 hk p (by omega)) rfl gX1_takersOfEach_X8_at_n59 (host := RX8) (by decide +kernel) (by decide +kernel) (by decide +kernel) ⟨by decide, by decide, by decide +kernel⟩ rfl ⟨rfl, rfl, Nat.le_of_ble_eq_true rfl, Nat.le_of_ble_eq_true rfl⟩ rfl (Nat.le_of_ble_eq_true rfl) dX1_takersOfEach_75 (fun h75 => ?_)
                refine q_iconst F dX1_takersOfEach_78 ?_
                refine q_iload F dX1_takersOfEach_79 5 rfl ?_
                refine q_ishl F dX1_takersOfEach_81 (fun z81 e81 h81 => ?_)
                refine q_ior F dX1_takersOfEach_82 (fun z82 e82 h82 => ?_)
                refine q_callNV (n := 3) F (c_X8_put G hI M2 k 10 hk p z82 (by omega) (by omega)) rfl gX1_takersOfEach_X8_put_n35 (host := RX8) (by decide +kernel) (by decide +kernel) (by decide +kernel) ⟨by decide, by decide, by decide +kernel⟩ rfl ⟨rfl, rfl, Nat.le_of_ble_eq_true rfl, Nat.le_of_ble_eq_true rfl⟩ rfl (Nat.le_of_ble_eq_true rfl) dX1_takersOfEach_83 (fun N83 p83 => ?_)
                obtain ⟨v86, e86⟩ : ∃ z_ : Int, z_ = p + 1 := ⟨_, rfl⟩
                refine q_iinc F dX1_takersOfEach_86 6 rfl e86 [(6, .int (q_I v86)), (0, .ref (q_ad G c)), (1, .int (q_I a)), (2, .ref (q_ad G k)), (3, .int (q_I v5)), (4, .int (q_I z14)), (5, .int (q_I g))] (Nat.le_of_ble_eq_true rfl) rfl ?_
                refine q_goto F 62 dX1_takersOfEach_89 (by decide) ?_
                refine q_drop [1, 2, 3, 4, 5, 6, 0] rfl ?_
                exact ih62_2 _ (by omega) v86 N83 ⟨by omega, q_fr_tr hi62.2.1 (q_fr_up p83), fun q h0 h1 => by
          rw [p83, q_up_at]
          by_cases hq : q = p
          · rw [if_pos hq, if_pos (by omega), e82, e81]
            have h3 := hi62.2.2 p (by omega) (by omega)
            rw [if_neg (by omega)] at h3
            rw [h3, hq]
          · rw [if_neg hq, hi62.2.2 q h0 h1]
            by_cases hl : v60 ≤ q ∧ q < p
            · rw [if_pos hl, if_pos (by omega)]
            · rw [if_neg hl, if_neg (by omega)]⟩ rfl
          refine q_drop [1, 2, 3, 4, 5, 6, 0] rfl ?_
          exact lp62_2 _ v60 M1 ⟨by omega, q_fr_rf, fun q h0 h1 => by rw [if_neg (by omega)]⟩ rfl
  refine q_drop [3, 4, 5, 2, 1, 0] rfl ?_
  exact lp30_1 _ 0 N24 ⟨by omega, q_fr_rf, fun q h0 h1 => by rw [p24.2 q h0 (by omega)]; exact (q_set_0 _).symm⟩ rfl

set_option maxHeartbeats 4000000 in
set_option maxRecDepth 100000 in
theorem c_X7_addWorld (G : q_G) (hI : q_inj G) (M : q_M) (w : Nat) (hw : q_wo G w) (hv : q_hv (M (w + 1 + 1))) (h5 : 0 ≤ M w 5 ∧ M w 5 ≤ 2000) (h9 : ∀ p q, 1 ≤ p → p ≤ 9 → 0 ≤ q → q ≤ 63 → 0 ≤ M (w + 9) (p * 64 + q) ∧ M (w + 9) (p * 64 + q) ≤ 2000) (h6 : ∀ p, 1 ≤ p → p ≤ 9 → 0 ≤ M (w + 6) p ∧ M (w + 6) p ≤ 63) : q_CV G yX7_addWorld wsX7_addWorld ({ frames := 1, cells := 0, slots := 0, locals := 22 } : Room) [.ref (q_ad G w)] M (fun M' => (∀ j, j ≠ w → j ≠ w + 7 → j ≠ w + 8 → j ≠ w + 9 → M' j = M j) ∧ M' w 5 = M w 5 + 1 ∧ (∀ x, 0 ≤ x → x < 6 → M' (w + 7) x = min (M (w + 7) x) (M (w + 1 + 1) x) ∧ M' (w + 8) x = max (M (w + 8) x) (M (w + 1 + 1) x)) ∧ ∀ p q, 1 ≤ p → p ≤ 9 → 0 ≤ q → q ≤ 63 → M' (w + 9) (p * 64 + q) = M (w + 9) (p * 64 + q) + (if M (w + 6) p = q then 1 else 0)) := by
  refine q_CV.of hI (by decide) rfl RX7 rfl [(0, .ref (q_ad G w))] rfl (Nat.le_of_ble_eq_true rfl) (fun E F FV => ?_)
  have huX1 : ∀ w ∈ wsX10, w ∈ wsX7_addWorld := by decide +kernel
  have huX7 : ∀ w ∈ wsX70, w ∈ wsX7_addWorld := by decide +kernel
  refine q_MRof (fun hM => ?_)
  refine q_aload_n F dX7_addWorld_0 0 rfl ?_
  refine q_dup F dX7_addWorld_1 rfl ?_
  refine q_geti (T := TX7) (ref := "LeastHungry$Worlds") F huX7 rfl hw.1 5 (by decide) (by decide +kernel) rfl 5 rfl rfl dX7_addWorld_2 (fun h2 => ?_)
  refine q_iconst F dX7_addWorld_5 ?_
  refine q_iadd F dX7_addWorld_6 ?_
  refine q_puti (T := TX7) (ref := "LeastHungry$Worlds") F huX7 rfl hw.1 5 (by decide) (by decide +kernel) rfl 5 rfl tyX7 tyX7_ok nmX7 rfl rfl (by decide +kernel) (by omega) dX7_addWorld_7 (fun N7 eN7 => ?_)
  refine q_iconst F dX7_addWorld_10 ?_
  refine q_istore_n F dX7_addWorld_11 [(1, .int (q_I 0)), (0, .ref (q_ad G w))] (Nat.le_of_ble_eq_true rfl) rfl ?_
  have lp12_1 : ∀ (k12_1 : Nat) (g : Int) (M1 : q_M), ((0 ≤ g ∧ g ≤ 6) ∧ (∀ j, j ≠ w + 7 → j ≠ w + 8 → M1 j = N7 j) ∧ (∀ x, M1 (w + 7) x = if 0 ≤ x ∧ x < g then min (M (w + 7) x) (M (w + 1 + 1) x) else M (w + 7) x) ∧ (∀ x, M1 (w + 8) x = if 0 ≤ x ∧ x < g then max (M (w + 8) x) (M (w + 1 + 1) x) else M (w + 8) x)) → (6 - g).toNat = k12_1 → q_Y G E 3 M1 [(0, .ref (q_ad G w)), (1, .int (q_I g))] 12 [] := by
    intro k12_1
    induction k12_1 using Nat.strongRecOn with
    | _ k12_1 ih12_1 =>
      intro g  M1 hi12 hk12
      refine q_MRof (fun hM12 => ?_)
      have eh : M1 (w + 1 + 1) = M (w + 1 + 1) := by rw [hi12.2.1 _ (by omega) (by omega), eN7, q_up_ne (by omega)]
      refine q_iload_n F dX7_addWorld_12 1 rfl ?_
      refine q_bipush F dX7_addWorld_13 (by decide) ?_
      refine q_icmp_ge F 76 dX7_addWorld_15 (by decide) (by omega) (fun c15 => ?_) (fun c15 => ?_)
      · have f16 : M1 (w + 6) = M (w + 6) := by rw [hi12.2.1 _ (by omega) (by omega), eN7, q_up_ne (by omega)]
        have f19 : M1 (w + 9) = M (w + 9) := by rw [hi12.2.1 _ (by omega) (by omega), eN7, q_up_ne (by omega)]
        refine q_iconst F dX7_addWorld_76 ?_
        refine q_istore_n F dX7_addWorld_77 [(1, .int (q_I 1)), (0, .ref (q_ad G w))] (Nat.le_of_ble_eq_true rfl) rfl ?_
        have lp78_2 : ∀ (k78_2 : Nat) (p : Int) (M2 : q_M), ((1 ≤ p ∧ p ≤ 10) ∧ q_fr (w + 9) M1 M2 ∧ (∀ p' q, 1 ≤ p' → p' ≤ 9 → 0 ≤ q → q ≤ 63 → M2 (w + 9) (p' * 64 + q) = M (w + 9) (p' * 64 + q) + (if p' < p ∧ M (w + 6) p' = q then 1 else 0))) → (10 - p).toNat = k78_2 → q_Y G E 3 M2 [(0, .ref (q_ad G w)), (1, .int (q_I p))] 78 [] := by
          intro k78_2
          induction k78_2 using Nat.strongRecOn with
          | _ k78_2 ih78_2 =>
            intro p  M2 hi78 hk78
            refine q_MRof (fun hM78 => ?_)
            have e6 : M2 (w + 6) = M (w + 6) := by rw [hi78.2.1 _ (by omega), f16]
            have h6p := h6 p hi78.1.1
            have h9p := fun h => h9 p (M (w + 6) p) hi78.1.1 h
            refine q_iload_n F dX7_addWorld_78 1 rfl ?_
            refine q_aload_n F dX7_addWorld_79 0 rfl ?_
            refine q_getr (T := TX7) (ref := "LeastHungry$Worlds") F huX7 rfl hw.1 1 (by decide) (by decide +kernel) rfl rfl dX7_addWorld_80 ?_
            refine q_alen F 10 hw.2.2.1 rfl dX7_addWorld_83 ?_
            refine q_icmp_ge F 123 dX7_addWorld_84 (by decide) (by omega) (fun c84 => ?_) (fun c84 => ?_)
            · exact q_vret F FV dX7_addWorld_123 ⟨fun j h1 h2 h3 h4 => by rw [hi78.2.1 j h4, hi12.2.1 j h2 h3, eN7, q_up_ne h1], by rw [hi78.2.1 w (by omega), hi12.2.1 w (by omega) (by omega), eN7, q_up_at, if_pos rfl], fun x h0 h1 => ⟨by rw [hi78.2.1 _ (by omega), hi12.2.2.1 x, if_pos (by omega)], by rw [hi78.2.1 _ (by omega), hi12.2.2.2 x, if_pos (by omega)]⟩, fun p' q p0 p1 q0 q1 => by
      rw [hi78.2.2 p' q p0 p1 q0 q1]
      congr 1
      by_cases hl : M (w + 6) p' = q
      · rw [if_pos hl, if_pos ⟨by omega, hl⟩]
      · rw [if_neg hl, if_neg (fun h => hl h.2)]⟩
            · refine q_iload_n F dX7_addWorld_87 1 rfl ?_
              refine q_bipush F dX7_addWorld_88 (by decide) ?_
              refine q_imul F dX7_addWorld_90 ?_
              refine q_aload_n F dX7_addWorld_91 0 rfl ?_
              refine q_getr (T := TX7) (ref := "LeastHungry$Worlds") F huX7 rfl hw.1 1 (by decide) (by decide +kernel) rfl rfl dX7_addWorld_92 ?_
              refine q_iload_n F dX7_addWorld_95 1 rfl ?_
              refine q_iald F hw.2.2.1 (Nat.le_of_ble_eq_true rfl) (by omega) dX7_addWorld_96 (fun h96 => ?_)
              refine q_iadd F dX7_addWorld_97 ?_
              refine q_nm (fun v98 e98 => ?_)
              refine q_istore_n F dX7_addWorld_98 [(2, .int (q_I v98)), (0, .ref (q_ad G w)), (1, .int (q_I p))] (Nat.le_of_ble_eq_true rfl) rfl ?_
              have ev : v98 = p * 64 + M (w + 6) p := by rw [e98, e6]
              have h6q := h6p (by omega)
              have h9q := h9p (by omega) h6q.1 h6q.2
              have ht : M2 (w + 9) v98 = M (w + 9) (p * 64 + M (w + 6) p) := by rw [ev, hi78.2.2 p _ hi78.1.1 (by omega) h6q.1 h6q.2, if_neg (by omega), Int.add_zero]
              refine q_aload_n F dX7_addWorld_99 1 rfl ?_
              refine q_getr (T := TX7) (ref := "LeastHungry$Worlds") F huX7 rfl hw.1 4 (by decide) (by decide +kernel) rfl rfl dX7_addWorld_100 ?_
              refine q_iload_n F dX7_addWorld_103 0 rfl ?_
              refine q_aload_n F dX7_addWorld_104 1 rfl ?_
              refine q_getr (T := TX7) (ref := "LeastHungry$Worlds") F huX7 rfl hw.1 4 (by decide) (by decide +kernel) rfl rfl dX7_addWorld_105 ?_
              refine q_iload_n F dX7_addWorld_108 0 rfl ?_
              refine q_callNP (n := 2) F (c_X8_at G hI M2 (w + 9) 640 hw.2.2.2.2.2 v98 (by omega)) rfl gX7_addWorld_X8_at_n79 (host := RX8) (by decide +kernel) (by decide +kernel) (by decide +kernel) ⟨by decide, by decide, by decide +kernel⟩ rfl ⟨rfl, rfl, Nat.le_of_ble_eq_true rfl, Nat.le_of_ble_eq_true rfl⟩ rfl (Nat.le_of_ble_eq_true rfl) dX7_addWorld_109 (fun h109 => ?_)
              refine q_iconst F dX7_addWorld_112 ?_
              refine q_iadd F dX7_addWorld_113 ?_
              refine q_callNV (n := 3) F (c_X8_put G hI M2 (w + 9) 640 hw.2.2.2.2.2 v98 _ (by omega) (by omega)) rfl gX7_addWorld_X8_put_n88 (host := RX8) (by decide +kernel) (by decide +kernel) (by decide +kernel) ⟨by decide, by decide, by decide +kernel⟩ rfl ⟨rfl, rfl, Nat.le_of_ble_eq_true rfl, Nat.le_of_ble_eq_true rfl⟩ rfl (Nat.le_of_ble_eq_true rfl) dX7_addWorld_114 (fun N114 p114 => ?_)
              obtain ⟨v117, e117⟩ : ∃ z_ : Int, z_ = p + 1 := ⟨_, rfl⟩
              refine q_iinc F dX7_addWorld_117 2 rfl e117 [(1, .int (q_I v117)), (2, .int (q_I v98)), (0, .ref (q_ad G w))] (Nat.le_of_ble_eq_true rfl) rfl ?_
              refine q_goto F 78 dX7_addWorld_120 (by decide) ?_
              refine q_drop [2, 0] rfl ?_
              exact ih78_2 _ (by omega) v117 N114 ⟨by omega, q_fr_tr hi78.2.1 (q_fr_up p114), fun p' q p0 p1 q0 q1 => by
        rw [p114, q_up_at]
        have ev : v98 = p * 64 + M (w + 6) p := by rw [e98, e6]
        have h6q := h6p (by omega)
        by_cases hx : p' * 64 + q = v98
        · have hpp : p' = p := by omega
          have hqq : q = M (w + 6) p := by omega
          rw [if_pos hx, if_pos ⟨by omega, by rw [hpp, hqq]⟩, ev, hi78.2.2 p _ hi78.1.1 (by omega) h6q.1 h6q.2, if_neg (by omega), hpp, hqq]
          omega
        · rw [if_neg hx, hi78.2.2 p' q p0 p1 q0 q1]
          congr 1
          by_cases hl : p' < p ∧ M (w + 6) p' = q
          · rw [if_pos hl, if_pos ⟨by omega, hl.2⟩]
          · rw [if_neg hl, if_neg]
            intro h
            by_cases hpp : p' = p
            · rw [hpp] at h hx
              omega
            · exact hl ⟨by omega, h.2⟩⟩ rfl
        refine q_drop [1, 0] rfl ?_
        exact lp78_2 _ 1 M1 ⟨by omega, q_fr_rf, fun p q p0 p1 q0 q1 => by rw [if_neg (by omega), f19, Int.add_zero]⟩ rfl
      · refine q_aload_n F dX7_addWorld_18 0 rfl ?_
        refine q_getr (T := TX7) (ref := "LeastHungry$Worlds") F huX7 rfl hw.1 0 (by decide) (by decide +kernel) rfl rfl dX7_addWorld_19 ?_
        refine q_getr (T := TX1) (ref := "LeastHungry$Company") F huX1 rfl hw.2.1.1 0 (by decide) (by decide +kernel) rfl rfl dX7_addWorld_22 ?_
        refine q_iload_n F dX7_addWorld_25 1 rfl ?_
        refine q_callNP (n := 2) F (c_X8_at G hI M1 ((w + 1) + 1) 6 hw.2.1.2.1 g (by omega)) rfl gX7_addWorld_X8_at_n79 (host := RX8) (by decide +kernel) (by decide +kernel) (by decide +kernel) ⟨by decide, by decide, by decide +kernel⟩ rfl ⟨rfl, rfl, Nat.le_of_ble_eq_true rfl, Nat.le_of_ble_eq_true rfl⟩ rfl (Nat.le_of_ble_eq_true rfl) dX7_addWorld_26 (fun h26 => ?_)
        refine q_nm (fun v29 e29 => ?_)
        refine q_istore_n F dX7_addWorld_29 [(2, .int (q_I v29)), (0, .ref (q_ad G w)), (1, .int (q_I g))] (Nat.le_of_ble_eq_true rfl) rfl ?_
        refine q_aload_n F dX7_addWorld_30 1 rfl ?_
        refine q_getr (T := TX7) (ref := "LeastHungry$Worlds") F huX7 rfl hw.1 2 (by decide) (by decide +kernel) rfl rfl dX7_addWorld_31 ?_
        refine q_iload_n F dX7_addWorld_34 2 rfl ?_
        refine q_aload_n F dX7_addWorld_35 1 rfl ?_
        refine q_getr (T := TX7) (ref := "LeastHungry$Worlds") F huX7 rfl hw.1 2 (by decide) (by decide +kernel) rfl rfl dX7_addWorld_36 ?_
        refine q_iload_n F dX7_addWorld_39 2 rfl ?_
        refine q_callNP (n := 2) F (c_X8_at G hI M1 (w + 7) 6 hw.2.2.2.1 g (by omega)) rfl gX7_addWorld_X8_at_n79 (host := RX8) (by decide +kernel) (by decide +kernel) (by decide +kernel) ⟨by decide, by decide, by decide +kernel⟩ rfl ⟨rfl, rfl, Nat.le_of_ble_eq_true rfl, Nat.le_of_ble_eq_true rfl⟩ rfl (Nat.le_of_ble_eq_true rfl) dX7_addWorld_40 (fun h40 => ?_)
        refine q_iload_n F dX7_addWorld_43 0 rfl ?_
        refine q_mmin F (by omega) (by decide +kernel) (by decide +kernel) (by decide +kernel) (by decide +kernel) ⟨Nat.le_of_ble_eq_true rfl, Nat.le_of_ble_eq_true rfl⟩ dX7_addWorld_44 ?_
        refine q_callNV (n := 3) F (c_X8_put G hI M1 (w + 7) 6 hw.2.2.2.1 g _ (by omega) (by omega)) rfl gX7_addWorld_X8_put_n88 (host := RX8) (by decide +kernel) (by decide +kernel) (by decide +kernel) ⟨by decide, by decide, by decide +kernel⟩ rfl ⟨rfl, rfl, Nat.le_of_ble_eq_true rfl, Nat.le_of_ble_eq_true rfl⟩ rfl (Nat.le_of_ble_eq_true rfl) dX7_addWorld_47 (fun N47 p47 => ?_)
        refine q_aload_n F dX7_addWorld_50 1 rfl ?_
        refine q_getr (T := TX7) (ref := "LeastHungry$Worlds") F huX7 rfl hw.1 3 (by decide) (by decide +kernel) rfl rfl dX7_addWorld_51 ?_
        refine q_iload_n F dX7_addWorld_54 2 rfl ?_
        refine q_aload_n F dX7_addWorld_55 1 rfl ?_
        refine q_getr (T := TX7) (ref := "LeastHungry$Worlds") F huX7 rfl hw.1 3 (by decide) (by decide +kernel) rfl rfl dX7_addWorld_56 ?_
        refine q_iload_n F dX7_addWorld_59 2 rfl ?_
        refine q_callNP (n := 2) F (c_X8_at G hI N47 (w + 8) 6 hw.2.2.2.2.1 g (by omega)) rfl gX7_addWorld_X8_at_n79 (host := RX8) (by decide +kernel) (by decide +kernel) (by decide +kernel) ⟨by decide, by decide, by decide +kernel⟩ rfl ⟨rfl, rfl, Nat.le_of_ble_eq_true rfl, Nat.le_of_ble_eq_true rfl⟩ rfl (Nat.le_of_ble_eq_true rfl) dX7_addWorld_60 (fun h60 => ?_)
        refine q_iload_n F dX7_addWorld_63 0 rfl ?_
        refine q_mmax F (by omega) (by decide +kernel) (by decide +kernel) (by decide +kernel) (by decide +kernel) ⟨Nat.le_of_ble_eq_true rfl, Nat.le_of_ble_eq_true rfl⟩ dX7_addWorld_64 ?_
        refine q_callNV (n := 3) F (c_X8_put G hI N47 (w + 8) 6 hw.2.2.2.2.1 g _ (by omega) (by omega)) rfl gX7_addWorld_X8_put_n88 (host := RX8) (by decide +kernel) (by decide +kernel) (by decide +kernel) ⟨by decide, by decide, by decide +kernel⟩ rfl ⟨rfl, rfl, Nat.le_of_ble_eq_true rfl, Nat.le_of_ble_eq_true rfl⟩ rfl (Nat.le_of_ble_eq_true rfl) dX7_addWorld_67 (fun N67 p67 => ?_)
        obtain ⟨v70, e70⟩ : ∃ z_ : Int, z_ = g + 1 := ⟨_, rfl⟩
        refine q_iinc F dX7_addWorld_70 2 rfl e70 [(1, .int (q_I v70)), (2, .int (q_I v29)), (0, .ref (q_ad G w))] (Nat.le_of_ble_eq_true rfl) rfl ?_
        refine q_goto F 12 dX7_addWorld_73 (by decide) ?_
        refine q_drop [2, 0] rfl ?_
        exact ih12_1 _ (by omega) v70 N67 ⟨by omega, fun j h1 h2 => by rw [p67, q_up_ne h2, p47, q_up_ne h1]; exact hi12.2.1 j h1 h2, fun x => by
        rw [p67, q_up_ne (by omega), p47, q_up_at]
        by_cases hx : x = g
        · have h3 := hi12.2.2.1 g
          rw [if_neg (by omega)] at h3
          rw [if_pos hx, if_pos (by omega), h3, e29, eh, hx]
        · rw [if_neg hx, hi12.2.2.1 x]
          by_cases hl : 0 ≤ x ∧ x < g
          · rw [if_pos hl, if_pos (by omega)]
          · rw [if_neg hl, if_neg (by omega)], fun x => by
        rw [p67, q_up_at]
        by_cases hx : x = g
        · have h3 := hi12.2.2.2 g
          rw [if_neg (by omega)] at h3
          rw [if_pos hx, if_pos (by omega), p47, q_up_ne (by omega), h3, e29, eh, hx]
        · rw [if_neg hx, p47, q_up_ne (by omega), hi12.2.2.2 x]
          by_cases hl : 0 ≤ x ∧ x < g
          · rw [if_pos hl, if_pos (by omega)]
          · rw [if_neg hl, if_neg (by omega)]⟩ rfl
  refine q_drop [1, 0] rfl ?_
  exact lp12_1 _ 0 N7 ⟨by omega, fun _ _ _ => rfl, fun x => by rw [if_neg (by omega), eN7, q_up_ne (by omega)], fun x => by rw [if_neg (by omega), eN7, q_up_ne (by omega)]⟩ rfl

set_option maxHeartbeats 4000000 in
set_option maxRecDepth 100000 in
theorem c_X7_hungerOf (G : q_G) (hI : q_inj G) (M : q_M) (w : Nat) (hw : q_wo G w) (g : Int) (b : Int) (hg : (0 ≤ g ∧ g < 6) ∧ (b = 0 ∨ b = 1)) : q_CI G yX7_hungerOf wsX7_hungerOf ({ frames := 1, cells := 0, slots := 0, locals := 21 } : Room) [.ref (q_ad G w), .int (q_I g), .int (q_I b)] M (fun z M' => z = (if M w 5 = 0 then -6 else if b = 0 then M (w + 7) g else M (w + 8) g) ∧ M' = M) := by
  refine q_CI.of hI (by decide) rfl RX7 rfl [(0, .ref (q_ad G w)), (1, .int (q_I g)), (2, .int (q_I b))] rfl (Nat.le_of_ble_eq_true rfl) (fun E F FI => ?_)
  have huX7 : ∀ w ∈ wsX70, w ∈ wsX7_hungerOf := by decide +kernel
  refine q_MRof (fun hM => ?_)
  refine q_aload_n F dX7_hungerOf_0 0 rfl ?_
  refine q_geti (T := TX7) (ref := "LeastHungry$Worlds") F huX7 rfl hw.1 5 (by decide) (by decide +kernel) rfl 5 rfl rfl dX7_hungerOf_1 (fun h1 => ?_)
  refine q_if_ne F 10 dX7_hungerOf_4 (by decide) (by omega) (fun c4 => ?_) (fun c4 => ?_)
  · refine q_iload_n F dX7_hungerOf_10 2 rfl ?_
    refine q_if_eq F 25 dX7_hungerOf_11 (by decide) (by omega) (fun c11 => ?_) (fun c11 => ?_)
    · refine q_aload_n F dX7_hungerOf_25 0 rfl ?_
      refine q_getr (T := TX7) (ref := "LeastHungry$Worlds") F huX7 rfl hw.1 2 (by decide) (by decide +kernel) rfl rfl dX7_hungerOf_26 ?_
      refine q_iload_n F dX7_hungerOf_29 1 rfl ?_
      refine q_callNP (n := 2) F (c_X8_at G hI M (w + 7) 6 hw.2.2.2.1 g (by omega)) rfl gX7_hungerOf_X8_at_n79 (host := RX8) (by decide +kernel) (by decide +kernel) (by decide +kernel) ⟨by decide, by decide, by decide +kernel⟩ rfl ⟨rfl, rfl, Nat.le_of_ble_eq_true rfl, Nat.le_of_ble_eq_true rfl⟩ rfl (Nat.le_of_ble_eq_true rfl) dX7_hungerOf_30 (fun h30 => ?_)
      exact q_iret F FI dX7_hungerOf_33 (by omega) ⟨by rw [if_neg c4, if_pos c11], rfl⟩
    · refine q_aload_n F dX7_hungerOf_14 0 rfl ?_
      refine q_getr (T := TX7) (ref := "LeastHungry$Worlds") F huX7 rfl hw.1 3 (by decide) (by decide +kernel) rfl rfl dX7_hungerOf_15 ?_
      refine q_iload_n F dX7_hungerOf_18 1 rfl ?_
      refine q_callNP (n := 2) F (c_X8_at G hI M (w + 8) 6 hw.2.2.2.2.1 g (by omega)) rfl gX7_hungerOf_X8_at_n79 (host := RX8) (by decide +kernel) (by decide +kernel) (by decide +kernel) ⟨by decide, by decide, by decide +kernel⟩ rfl ⟨rfl, rfl, Nat.le_of_ble_eq_true rfl, Nat.le_of_ble_eq_true rfl⟩ rfl (Nat.le_of_ble_eq_true rfl) dX7_hungerOf_19 (fun h19 => ?_)
      refine q_goto F 33 dX7_hungerOf_22 (by decide) ?_
      exact q_iret F FI dX7_hungerOf_33 (by omega) ⟨by rw [if_neg c4, if_neg c11], rfl⟩
  · refine q_bipush F dX7_hungerOf_7 (by decide) ?_
    exact q_iret F FI dX7_hungerOf_9 (by omega) ⟨by rw [if_pos c4], rfl⟩

set_option maxHeartbeats 4000000 in
set_option maxRecDepth 100000 in
theorem c_X7_mostLeft (G : q_G) (hI : q_inj G) (M : q_M) (w : Nat) (hw : q_wo G w) (p : Int) (hp : 1 ≤ p ∧ p ≤ 9) : q_CI G yX7_mostLeft wsX7_mostLeft ({ frames := 1, cells := 0, slots := 0, locals := 21 } : Room) [.ref (q_ad G w), .int (q_I p)] M (fun z M' => z = q_mxN (fun s => M (w + 9) (p * 64 + s)) 64 ∧ M' = M) := by
  refine q_CI.of hI (by decide) rfl RX7 rfl [(0, .ref (q_ad G w)), (1, .int (q_I p))] rfl (Nat.le_of_ble_eq_true rfl) (fun E F FI => ?_)
  have huX7 : ∀ w ∈ wsX70, w ∈ wsX7_mostLeft := by decide +kernel
  refine q_MRof (fun hM => ?_)
  refine q_iconst F dX7_mostLeft_0 ?_
  refine q_istore_n F dX7_mostLeft_1 [(2, .int (q_I 0)), (0, .ref (q_ad G w)), (1, .int (q_I p))] (Nat.le_of_ble_eq_true rfl) rfl ?_
  refine q_iconst F dX7_mostLeft_2 ?_
  refine q_istore_n F dX7_mostLeft_3 [(3, .int (q_I 0)), (2, .int (q_I 0)), (0, .ref (q_ad G w)), (1, .int (q_I p))] (Nat.le_of_ble_eq_true rfl) rfl ?_
  have lp4_1 : ∀ (k4_1 : Nat) (z : Int) (s : Int), ((0 ≤ s ∧ s ≤ 64) ∧ (-2147483648 ≤ z ∧ z ≤ 2147483647) ∧ z = q_mxN (fun s => M (w + 9) (p * 64 + s)) s.toNat) → (64 - s).toNat = k4_1 → q_Y G E 4 M [(0, .ref (q_ad G w)), (1, .int (q_I p)), (2, .int (q_I z)), (3, .int (q_I s))] 4 [] := by
    intro k4_1
    induction k4_1 using Nat.strongRecOn with
    | _ k4_1 ih4_1 =>
      intro z s   hi4 hk4
      refine q_iload_n F dX7_mostLeft_4 3 rfl ?_
      refine q_bipush F dX7_mostLeft_5 (by decide) ?_
      refine q_icmp_ge F 34 dX7_mostLeft_7 (by decide) (by omega) (fun c7 => ?_) (fun c7 => ?_)
      · refine q_iload_n F dX7_mostLeft_34 2 rfl ?_
        exact q_iret F FI dX7_mostLeft_35 (by omega) ⟨by rw [hi4.2.2, show s.toNat = 64 by omega], rfl⟩
      · refine q_iload_n F dX7_mostLeft_10 2 rfl ?_
        refine q_aload_n F dX7_mostLeft_11 0 rfl ?_
        refine q_getr (T := TX7) (ref := "LeastHungry$Worlds") F huX7 rfl hw.1 4 (by decide) (by decide +kernel) rfl rfl dX7_mostLeft_12 ?_
        refine q_iload_n F dX7_mostLeft_15 1 rfl ?_
        refine q_bipush F dX7_mostLeft_16 (by decide) ?_
        refine q_imul F dX7_mostLeft_18 ?_
        refine q_iload_n F dX7_mostLeft_19 3 rfl ?_
        refine q_iadd F dX7_mostLeft_20 ?_
        refine q_callNP (n := 2) F (c_X8_at G hI M (w + 9) 640 hw.2.2.2.2.2 _ (by omega)) rfl gX7_mostLeft_X8_at_n79 (host := RX8) (by decide +kernel) (by decide +kernel) (by decide +kernel) ⟨by decide, by decide, by decide +kernel⟩ rfl ⟨rfl, rfl, Nat.le_of_ble_eq_true rfl, Nat.le_of_ble_eq_true rfl⟩ rfl (Nat.le_of_ble_eq_true rfl) dX7_mostLeft_21 (fun h21 => ?_)
        refine q_mmax F (by omega) (by decide +kernel) (by decide +kernel) (by decide +kernel) (by decide +kernel) ⟨Nat.le_of_ble_eq_true rfl, Nat.le_of_ble_eq_true rfl⟩ dX7_mostLeft_24 ?_
        refine q_nm (fun v27 e27 => ?_)
        refine q_istore_n F dX7_mostLeft_27 [(2, .int (q_I v27)), (0, .ref (q_ad G w)), (1, .int (q_I p)), (3, .int (q_I s))] (Nat.le_of_ble_eq_true rfl) rfl ?_
        obtain ⟨v28, e28⟩ : ∃ z_ : Int, z_ = s + 1 := ⟨_, rfl⟩
        refine q_iinc F dX7_mostLeft_28 3 rfl e28 [(3, .int (q_I v28)), (2, .int (q_I v27)), (0, .ref (q_ad G w)), (1, .int (q_I p))] (Nat.le_of_ble_eq_true rfl) rfl ?_
        refine q_goto F 4 dX7_mostLeft_31 (by decide) ?_
        refine q_drop [2, 3, 1, 0] rfl ?_
        exact ih4_1 _ (by omega) v27 v28 ⟨by omega, by omega, by rw [show v28.toNat = s.toNat + 1 by omega]; unfold q_mxN; rw [← hi4.2.2, Int.toNat_of_nonneg hi4.1.1]; exact e27⟩ rfl
  refine q_drop [2, 3, 1, 0] rfl ?_
  exact lp4_1 _ 0 0 ⟨by omega, by omega, rfl⟩ rfl

set_option maxHeartbeats 4000000 in
set_option maxRecDepth 100000 in
theorem c_X7_tellingDish (G : q_G) (hI : q_inj G) (M : q_M) (w : Nat) (hw : q_wo G w) : q_CI G yX7_tellingDish wsX7_tellingDish ({ frames := 2, cells := 0, slots := 0, locals := 44 } : Room) [.ref (q_ad G w)] M (fun z M' => z = q_best (fun p => q_mxN (fun s => M (w + 9) (p * 64 + s)) 64) 8 ∧ M' = M) := by
  refine q_CI.of hI (by decide) rfl RX7 rfl [(0, .ref (q_ad G w))] rfl (Nat.le_of_ble_eq_true rfl) (fun E F FI => ?_)
  refine q_MRof (fun hM => ?_)
  refine q_iconst F dX7_tellingDish_0 ?_
  refine q_istore_n F dX7_tellingDish_1 [(1, .int (q_I 1)), (0, .ref (q_ad G w))] (Nat.le_of_ble_eq_true rfl) rfl ?_
  refine q_iconst F dX7_tellingDish_2 ?_
  refine q_istore_n F dX7_tellingDish_3 [(2, .int (q_I 2)), (1, .int (q_I 1)), (0, .ref (q_ad G w))] (Nat.le_of_ble_eq_true rfl) rfl ?_
  have lp4_1 : ∀ (k4_1 : Nat) (b : Int) (p : Int), ((2 ≤ p ∧ p ≤ 10) ∧ b = q_best (fun p => q_mxN (fun s => M (w + 9) (p * 64 + s)) 64) (p - 2).toNat) → (10 - p).toNat = k4_1 → q_Y G E 3 M [(0, .ref (q_ad G w)), (1, .int (q_I b)), (2, .int (q_I p))] 4 [] := by
    intro k4_1
    induction k4_1 using Nat.strongRecOn with
    | _ k4_1 ih4_1 =>
      intro b p   hi4 hk4
      have hbR := q_best_R (fun p => q_mxN (fun s => M (w + 9) (p * 64 + s)) 64) (p - 2).toNat
      rw [← hi4.2] at hbR
      refine q_iload_n F dX7_tellingDish_4 2 rfl ?_
      refine q_bipush F dX7_tellingDish_5 (by decide) ?_
      refine q_icmp_gt F 31 dX7_tellingDish_7 (by decide) (by omega) (fun c7 => ?_) (fun c7 => ?_)
      · refine q_iload_n F dX7_tellingDish_31 1 rfl ?_
        exact q_iret F FI dX7_tellingDish_32 (by omega) ⟨by rw [hi4.2, show (p - 2).toNat = 8 by omega], rfl⟩
      · refine q_aload_n F dX7_tellingDish_10 0 rfl ?_
        refine q_iload_n F dX7_tellingDish_11 2 rfl ?_
        refine q_callVP (n := 1) (T := TX7) F (c_X7_mostLeft G hI M w hw p (by omega)) rfl rfl hw.1 gX7_tellingDish_X7_mostLeft rfl ⟨by decide, by decide, by decide +kernel⟩ rfl ⟨rfl, rfl, Nat.le_of_ble_eq_true rfl, Nat.le_of_ble_eq_true rfl⟩ rfl (Nat.le_of_ble_eq_true rfl) dX7_tellingDish_12 (fun h12 => ?_)
        refine q_aload_n F dX7_tellingDish_15 0 rfl ?_
        refine q_iload_n F dX7_tellingDish_16 1 rfl ?_
        refine q_callVP (n := 1) (T := TX7) F (c_X7_mostLeft G hI M w hw b (by omega)) rfl rfl hw.1 gX7_tellingDish_X7_mostLeft rfl ⟨by decide, by decide, by decide +kernel⟩ rfl ⟨rfl, rfl, Nat.le_of_ble_eq_true rfl, Nat.le_of_ble_eq_true rfl⟩ rfl (Nat.le_of_ble_eq_true rfl) dX7_tellingDish_17 (fun h17 => ?_)
        refine q_icmp_ge F 25 dX7_tellingDish_20 (by decide) (by omega) (fun c20 => ?_) (fun c20 => ?_)
        · obtain ⟨v25, e25⟩ : ∃ z_ : Int, z_ = p + 1 := ⟨_, rfl⟩
          refine q_iinc F dX7_tellingDish_25 2 rfl e25 [(2, .int (q_I v25)), (0, .ref (q_ad G w)), (1, .int (q_I b))] (Nat.le_of_ble_eq_true rfl) rfl ?_
          refine q_goto F 4 dX7_tellingDish_28 (by decide) ?_
          refine q_drop [1, 2, 0] rfl ?_
          exact ih4_1 _ (by omega) b v25 ⟨by omega, by rw [show (v25 - 2).toNat = (p - 2).toNat + 1 by omega]; unfold q_best; rw [← hi4.2, show (((p - 2).toNat : Nat) : Int) + 2 = p by omega]; rw [if_neg (by show ¬ q_mxN _ 64 < q_mxN _ 64; omega)]⟩ rfl
        · refine q_iload_n F dX7_tellingDish_23 2 rfl ?_
          refine q_istore_n F dX7_tellingDish_24 [(1, .int (q_I p)), (0, .ref (q_ad G w)), (2, .int (q_I p))] (Nat.le_of_ble_eq_true rfl) rfl ?_
          obtain ⟨v25, e25⟩ : ∃ z_ : Int, z_ = p + 1 := ⟨_, rfl⟩
          refine q_iinc F dX7_tellingDish_25 2 rfl e25 [(2, .int (q_I v25)), (1, .int (q_I p)), (0, .ref (q_ad G w))] (Nat.le_of_ble_eq_true rfl) rfl ?_
          refine q_goto F 4 dX7_tellingDish_28 (by decide) ?_
          refine q_drop [2, 1, 0] rfl ?_
          exact ih4_1 _ (by omega) p v25 ⟨by omega, by rw [show (v25 - 2).toNat = (p - 2).toNat + 1 by omega]; unfold q_best; rw [← hi4.2, show (((p - 2).toNat : Nat) : Int) + 2 = p by omega]; rw [if_pos (by show q_mxN _ 64 < q_mxN _ 64; omega)]⟩ rfl
  refine q_drop [2, 1, 0] rfl ?_
  exact lp4_1 _ 1 2 ⟨by omega, rfl⟩ rfl

set_option maxHeartbeats 4000000 in
set_option maxRecDepth 100000 in
theorem c_X7_look (G : q_G) (hI : q_inj G) (M : q_M) (w : Nat) (hw : q_wo G w) (b : Nat) (hb : q_bk G b) (hvo : q_cv M (b + 1)) (hsv : q_sv M b) (hd : b + 8 < w) (hn : q_cnt (q_has (q_set (q_ins (M (b + 1 + 3)) (M (b + 1) 4) 0))) ≤ 4) : q_CV G yX7_look wsX7_look ({ frames := 4, cells := 0, slots := 0, locals := 92 } : Room) [.ref (q_ad G w), .ref (q_ad G b)] M (fun M' => (∀ j, (j < w ∨ w + 9 < j) → M' j = M j) ∧ q_LK M' w (M (b + 1 + 1)) (M (b + 1 + 2)) (M (b + 1 + 3)) (M (b + 1) 4) (M (b + 1) 5) (q_set (q_ins (M (b + 1 + 3)) (M (b + 1) 4) 0)) (M (b + 7)) (M (b + 8)) (M b 4) (q_pw 6 (q_cnt (q_has (q_set (q_ins (M (b + 1 + 3)) (M (b + 1) 4) 0)))).toNat).toNat) := by
  refine q_CV.of hI (by decide) rfl RX7 rfl [(0, .ref (q_ad G w)), (1, .ref (q_ad G b))] rfl (Nat.le_of_ble_eq_true rfl) (fun E F FV => ?_)
  have huX0 : ∀ w ∈ wsX00, w ∈ wsX7_look := by decide +kernel
  have huX1 : ∀ w ∈ wsX10, w ∈ wsX7_look := by decide +kernel
  have huX7 : ∀ w ∈ wsX70, w ∈ wsX7_look := by decide +kernel
  refine q_MRof (fun hM => ?_)
  have hs4 := hsv.1
  refine q_aload_n F dX7_look_0 0 rfl ?_
  refine q_getr (T := TX7) (ref := "LeastHungry$Worlds") F huX7 rfl hw.1 0 (by decide) (by decide +kernel) rfl rfl dX7_look_1 ?_
  refine q_aload_n F dX7_look_4 1 rfl ?_
  refine q_getr (T := TX0) (ref := "LeastHungry$Book") F huX0 rfl hb.1 0 (by decide) (by decide +kernel) rfl rfl dX7_look_5 ?_
  refine q_callVV (n := 1) (T := TX1) F (c_X1_become G hI M (w + 1) hw.2.1 (b + 1) hb.2.1 (by omega)) rfl rfl hw.2.1.1 gX7_look_X1_become rfl ⟨by decide, by decide, by decide +kernel⟩ rfl ⟨rfl, rfl, Nat.le_of_ble_eq_true rfl, Nat.le_of_ble_eq_true rfl⟩ rfl (Nat.le_of_ble_eq_true rfl) dX7_look_8 (fun N8 p8 => ?_)
  obtain ⟨b1, b2, b3, b4⟩ := p8
  have hv8 : q_cv N8 (w + 1) := ⟨by rw [b2]; exact hvo.1, by rw [b3]; exact hvo.2.1, fun x h0 h1 => by rw [(b4 x h0 h1).1]; exact hvo.2.2.1 x h0 h1, fun x h0 h1 => by rw [(b4 x h0 h1).2.1]; exact hvo.2.2.2.1 x h0 h1, fun x h0 h1 => by rw [(b4 x h0 h1).2.2]; exact hvo.2.2.2.2 x h0 h1⟩
  have hag : q_agR (N8 (w + 1 + 1)) (N8 (w + 1 + 2)) (N8 (w + 1 + 3)) (M (b + 1 + 1)) (M (b + 1 + 2)) (M (b + 1 + 3)) := b4
  refine q_aload_n F dX7_look_11 0 rfl ?_
  refine q_getr (T := TX7) (ref := "LeastHungry$Worlds") F huX7 rfl hw.1 2 (by decide) (by decide +kernel) rfl rfl dX7_look_12 ?_
  refine q_bipush F dX7_look_15 (by decide) ?_
  refine q_callSV (n := 2) F (c_J7_fill_53178 G hI N8 (w + 7) 6 hw.2.2.2.1 20 (by omega)) rfl gX7_look_J7_fill_53178 ⟨by decide, by decide, by decide +kernel⟩ rfl ⟨rfl, rfl, Nat.le_of_ble_eq_true rfl, Nat.le_of_ble_eq_true rfl⟩ rfl (Nat.le_of_ble_eq_true rfl) dX7_look_17 (fun N17 p17 => ?_)
  refine q_aload_n F dX7_look_20 0 rfl ?_
  refine q_getr (T := TX7) (ref := "LeastHungry$Worlds") F huX7 rfl hw.1 3 (by decide) (by decide +kernel) rfl rfl dX7_look_21 ?_
  refine q_iconst F dX7_look_24 ?_
  refine q_callSV (n := 2) F (c_J7_fill_53178 G hI N17 (w + 8) 6 hw.2.2.2.2.1 0 (by omega)) rfl gX7_look_J7_fill_53178 ⟨by decide, by decide, by decide +kernel⟩ rfl ⟨rfl, rfl, Nat.le_of_ble_eq_true rfl, Nat.le_of_ble_eq_true rfl⟩ rfl (Nat.le_of_ble_eq_true rfl) dX7_look_25 (fun N25 p25 => ?_)
  refine q_aload_n F dX7_look_28 0 rfl ?_
  refine q_getr (T := TX7) (ref := "LeastHungry$Worlds") F huX7 rfl hw.1 4 (by decide) (by decide +kernel) rfl rfl dX7_look_29 ?_
  refine q_iconst F dX7_look_32 ?_
  refine q_callSV (n := 2) F (c_J7_fill_53178 G hI N25 (w + 9) 640 hw.2.2.2.2.2 0 (by omega)) rfl gX7_look_J7_fill_53178 ⟨by decide, by decide, by decide +kernel⟩ rfl ⟨rfl, rfl, Nat.le_of_ble_eq_true rfl, Nat.le_of_ble_eq_true rfl⟩ rfl (Nat.le_of_ble_eq_true rfl) dX7_look_33 (fun N33 p33 => ?_)
  refine q_aload_n F dX7_look_36 0 rfl ?_
  refine q_iconst F dX7_look_37 ?_
  refine q_puti (T := TX7) (ref := "LeastHungry$Worlds") F huX7 rfl hw.1 5 (by decide) (by decide +kernel) rfl 5 rfl tyX7 tyX7_ok nmX7 rfl rfl (by decide +kernel) (by omega) dX7_look_38 (fun N38 eN38 => ?_)
  have hv38 : q_cv N38 (w + 1) := by unfold q_cv; rw [eN38, q_up_ne (by omega), q_up_ne (by omega), q_up_ne (by omega), q_up_ne (by omega), p33.1 _ (by omega), p33.1 _ (by omega), p33.1 _ (by omega), p33.1 _ (by omega), p25.1 _ (by omega), p25.1 _ (by omega), p25.1 _ (by omega), p25.1 _ (by omega), p17.1 _ (by omega), p17.1 _ (by omega), p17.1 _ (by omega), p17.1 _ (by omega)]; exact hv8
  refine q_aload_n F dX7_look_41 0 rfl ?_
  refine q_getr (T := TX7) (ref := "LeastHungry$Worlds") F huX7 rfl hw.1 0 (by decide) (by decide +kernel) rfl rfl dX7_look_42 ?_
  refine q_iconst F dX7_look_45 ?_
  refine q_callVP (n := 1) (T := TX1) F (c_X1_inside G hI N38 (w + 1) hw.2.1 0 hv38 (by omega)) rfl rfl hw.2.1.1 gX7_look_X1_inside rfl ⟨by decide, by decide, by decide +kernel⟩ rfl ⟨rfl, rfl, Nat.le_of_ble_eq_true rfl, Nat.le_of_ble_eq_true rfl⟩ rfl (Nat.le_of_ble_eq_true rfl) dX7_look_46 (fun h46 => ?_)
  refine q_nm (fun v49 e49 => ?_)
  refine q_istore_n F dX7_look_49 [(2, .int (q_I v49)), (0, .ref (q_ad G w)), (1, .ref (q_ad G b))] (Nat.le_of_ble_eq_true rfl) rfl ?_
  have hS : 0 ≤ v49 ∧ v49 ≤ 63 := by rw [e49]; exact q_set_R _
  have e49o : v49 = q_set (q_ins (M (b + 1 + 3)) (M (b + 1) 4) 0) := by
    rw [e49, eN38, q_up_ne (by omega), q_up_ne (by omega), p33.1 _ (by omega), p25.1 _ (by omega), p17.1 _ (by omega), p33.1 _ (by omega), p25.1 _ (by omega), p17.1 _ (by omega), b2]
    exact q_set_congr (fun x x0 x1 => q_ins_sim (q_agR_sim hag) x)
  have hn49 : q_cnt (q_has v49) ≤ 4 := by rw [e49o]; exact hn
  have hcr := q_cnt_R (q_has v49)
  refine q_bipush F dX7_look_50 (by decide) ?_
  refine q_iload_n F dX7_look_52 0 rfl ?_
  refine q_callSP (n := 1) F (c_J6_bitCount_0f7a4 G hI N38 v49 (by omega)) rfl gX7_look_J6_bitCount_0f7a4 ⟨by decide, by decide, by decide +kernel⟩ rfl ⟨rfl, rfl, Nat.le_of_ble_eq_true rfl, Nat.le_of_ble_eq_true rfl⟩ rfl (Nat.le_of_ble_eq_true rfl) dX7_look_53 (fun h53 => ?_)
  refine q_callNP (n := 2) F (c_X8_power G hI N38 6 _ (by omega)) rfl gX7_look_X8_power_n57 (host := RX8) (by decide +kernel) (by decide +kernel) (by decide +kernel) ⟨by decide, by decide, by decide +kernel⟩ rfl ⟨rfl, rfl, Nat.le_of_ble_eq_true rfl, Nat.le_of_ble_eq_true rfl⟩ rfl (Nat.le_of_ble_eq_true rfl) dX7_look_56 (fun h56 => ?_)
  refine q_nm (fun v59 e59 => ?_)
  refine q_istore_n F dX7_look_59 [(3, .int (q_I v59)), (2, .int (q_I v49)), (0, .ref (q_ad G w)), (1, .ref (q_ad G b))] (Nat.le_of_ble_eq_true rfl) rfl ?_
  have hv59 : 1 ≤ v59 ∧ v59 ≤ 1296 := by rw [e59]; exact q_pw6_R hn49
  refine q_iconst F dX7_look_60 ?_
  refine q_istore F dX7_look_61 [(4, .int (q_I 0)), (3, .int (q_I v59)), (2, .int (q_I v49)), (0, .ref (q_ad G w)), (1, .ref (q_ad G b))] (Nat.le_of_ble_eq_true rfl) rfl ?_
  have lp63_1 : ∀ (k63_1 : Nat) (r : Int) (M1 : q_M), ((0 ≤ r ∧ r ≤ v59) ∧ (∀ j, j ≠ w → j ≠ w + 1 + 1 → j ≠ w + 1 + 4 → (j < w + 6 ∨ w + 9 < j) → M1 j = N8 j) ∧ q_cv M1 (w + 1) ∧ (∀ x, ¬ q_has v49 x = true → M1 (w + 1 + 1) x = N8 (w + 1 + 1) x) ∧ q_LK M1 w (N8 (w + 1 + 1)) (N8 (w + 1 + 2)) (N8 (w + 1 + 3)) (N8 (w + 1) 4) (N8 (w + 1) 5) v49 (M (b + 7)) (M (b + 8)) (M b 4) r.toNat) → (v59 - r).toNat = k63_1 → q_Y G E 5 M1 [(0, .ref (q_ad G w)), (1, .ref (q_ad G b)), (2, .int (q_I v49)), (3, .int (q_I v59)), (4, .int (q_I r))] 63 [] := by
    intro k63_1
    induction k63_1 using Nat.strongRecOn with
    | _ k63_1 ih63_1 =>
      intro r  M1 hi63 hk63
      refine q_MRof (fun hM63 => ?_)
      refine q_iload F dX7_look_63 4 rfl ?_
      refine q_iload_n F dX7_look_65 3 rfl ?_
      refine q_icmp_ge F 118 dX7_look_66 (by decide) (by omega) (fun c66 => ?_) (fun c66 => ?_)
      · exact q_vret F FV dX7_look_118 (by
      refine ⟨fun j hj => by rw [hi63.2.1 j (by omega) (by omega) (by omega) (by omega)]; exact b1 j (by omega), ?_⟩
      have hk := q_LK_ag hag hi63.2.2.2.2
      rw [b2, b3, show r = v59 by omega, e59] at hk
      rw [← e49o]
      exact hk)
      · refine q_aload_n F dX7_look_69 0 rfl ?_
        refine q_getr (T := TX7) (ref := "LeastHungry$Worlds") F huX7 rfl hw.1 0 (by decide) (by decide +kernel) rfl rfl dX7_look_70 ?_
        refine q_getr (T := TX1) (ref := "LeastHungry$Company") F huX1 rfl hw.2.1.1 0 (by decide) (by decide +kernel) rfl rfl dX7_look_73 ?_
        refine q_iload_n F dX7_look_76 2 rfl ?_
        refine q_iload F dX7_look_77 4 rfl ?_
        refine q_bipush F dX7_look_79 (by decide) ?_
        refine q_iconst F dX7_look_81 ?_
        refine q_callNV (n := 5) F (c_X8_spread G hI M1 ((w + 1) + 1) 6 hw.2.1.2.1 v49 r 6 1 (by omega) (by decide)) rfl gX7_look_X8_spread_n64 (host := RX8) (by decide +kernel) (by decide +kernel) (by decide +kernel) ⟨by decide, by decide, by decide +kernel⟩ rfl ⟨rfl, rfl, Nat.le_of_ble_eq_true rfl, Nat.le_of_ble_eq_true rfl⟩ rfl (Nat.le_of_ble_eq_true rfl) dX7_look_82 (fun N82 p82 => ?_)
        have e82 : N82 (w + 1 + 1) = q_H6 v49 (N8 (w + 1 + 1)) r := funext fun x => by
          rw [p82.2 x]
          unfold q_H6
          by_cases hx : q_has v49 x = true
          · rw [if_pos hx, if_pos hx]
          · rw [if_neg hx, if_neg hx, hi63.2.2.2.1 x hx]
        have f82 : ∀ j, j ≠ w → j ≠ w + 1 + 1 → j ≠ w + 1 + 4 → (j < w + 6 ∨ w + 9 < j) → N82 j = N8 j := fun j h1 h2 h3 h4 => by rw [p82.1 j h2]; exact hi63.2.1 j h1 h2 h3 h4
        have hv82 : q_cv N82 (w + 1) := ⟨by rw [f82 _ (by omega) (by omega) (by omega) (by omega)]; exact hv8.1, by rw [f82 _ (by omega) (by omega) (by omega) (by omega)]; exact hv8.2.1, by rw [e82]; exact q_H6_v hv8.2.2.1, by rw [f82 _ (by omega) (by omega) (by omega) (by omega)]; exact hv8.2.2.2.1, by rw [f82 _ (by omega) (by omega) (by omega) (by omega)]; exact hv8.2.2.2.2⟩
        refine q_aload_n F dX7_look_85 0 rfl ?_
        refine q_getr (T := TX7) (ref := "LeastHungry$Worlds") F huX7 rfl hw.1 0 (by decide) (by decide +kernel) rfl rfl dX7_look_86 ?_
        refine q_iconst F dX7_look_89 ?_
        refine q_aload_n F dX7_look_90 0 rfl ?_
        refine q_getr (T := TX7) (ref := "LeastHungry$Worlds") F huX7 rfl hw.1 1 (by decide) (by decide +kernel) rfl rfl dX7_look_91 ?_
        refine q_callVV (n := 2) (T := TX1) F (c_X1_takersOfEach G hI N82 (w + 1) hw.2.1 0 (w + 6) hw.2.2.1 hv82 (by omega) (by omega)) rfl rfl hw.2.1.1 gX7_look_X1_takersOfEach rfl ⟨by decide, by decide, by decide +kernel⟩ rfl ⟨rfl, rfl, Nat.le_of_ble_eq_true rfl, Nat.le_of_ble_eq_true rfl⟩ rfl (Nat.le_of_ble_eq_true rfl) dX7_look_94 (fun N94 p94 => ?_)
        have hT : ∀ p, 0 ≤ p → p ≤ 9 → N94 (w + 6) p = q_T6 (N8 (w + 1 + 1)) (N8 (w + 1 + 2)) (N8 (w + 1 + 3)) (N8 (w + 1) 4) (N8 (w + 1) 5) v49 r p := fun p p0 p1 => by
          rw [p94.2 p p0 p1, e82, f82 _ (by omega) (by omega) (by omega) (by omega), f82 _ (by omega) (by omega) (by omega) (by omega), f82 _ (by omega) (by omega) (by omega) (by omega)]
          rfl
        have fo : ∀ j, (j < w) → N94 j = M j := fun j hj => by rw [p94.1 j (by omega) (by omega), f82 j (by omega) (by omega) (by omega) (by omega), b1 j (by omega)]
        have sv94 : q_sv N94 b := by unfold q_sv; rw [fo b (by omega), fo (b + 7) (by omega), fo (b + 8) (by omega)]; exact hsv
        refine q_aload_n F dX7_look_97 1 rfl ?_
        refine q_aload_n F dX7_look_98 0 rfl ?_
        refine q_getr (T := TX7) (ref := "LeastHungry$Worlds") F huX7 rfl hw.1 1 (by decide) (by decide +kernel) rfl rfl dX7_look_99 ?_
        refine q_callVP (n := 1) (T := TX0) F (c_X0_fits G hI N94 b hb (w + 6) hw.2.2.1 sv94) rfl rfl hb.1 gX7_look_X0_fits rfl ⟨by decide, by decide, by decide +kernel⟩ rfl ⟨rfl, rfl, Nat.le_of_ble_eq_true rfl, Nat.le_of_ble_eq_true rfl⟩ rfl (Nat.le_of_ble_eq_true rfl) dX7_look_102 (fun h102 => ?_)
        have hfit : q_fit (N94 (b + 7)) (N94 (b + 8)) (N94 (w + 6)) (N94 b 4).toNat = q_fitR (N8 (w + 1 + 1)) (N8 (w + 1 + 2)) (N8 (w + 1 + 3)) (N8 (w + 1) 4) (N8 (w + 1) 5) v49 (M (b + 7)) (M (b + 8)) (M b 4) r := by
          rw [fo b (by omega), fo (b + 7) (by omega), fo (b + 8) (by omega)]
          unfold q_fitR
          exact q_fit_congr _ (fun i h0 h1 => hT _ (hsv.2 i h0 (by omega)).1.1 (hsv.2 i h0 (by omega)).1.2)
        rw [hfit]
        refine q_ifb_eq F 112 dX7_look_105 (by decide) (fun c105 => ?_) (fun c105 => ?_)
        · obtain ⟨v112, e112⟩ : ∃ z_ : Int, z_ = r + 1 := ⟨_, rfl⟩
          refine q_iinc F dX7_look_112 4 rfl e112 [(4, .int (q_I v112)), (0, .ref (q_ad G w)), (1, .ref (q_ad G b)), (2, .int (q_I v49)), (3, .int (q_I v59))] (Nat.le_of_ble_eq_true rfl) rfl ?_
          refine q_goto F 63 dX7_look_115 (by decide) ?_
          refine q_drop [1, 2, 3, 4, 0] rfl ?_
          exact ih63_1 _ (by omega) v112 N94 ⟨by omega, fun j h1 h2 h3 h4 => by rw [p94.1 j (by omega) h3]; exact f82 j h1 h2 h3 h4, ⟨by rw [p94.1 _ (by omega) (by omega)]; exact hv82.1, by rw [p94.1 _ (by omega) (by omega)]; exact hv82.2.1, by rw [p94.1 _ (by omega) (by omega)]; exact hv82.2.2.1, by rw [p94.1 _ (by omega) (by omega)]; exact hv82.2.2.2.1, by rw [p94.1 _ (by omega) (by omega)]; exact hv82.2.2.2.2⟩, fun x hx => by
        rw [p94.1 _ (by omega) (by omega), e82]
        unfold q_H6
        rw [if_neg hx], by
        rw [show v112.toNat = r.toNat + 1 by omega]
        exact q_LK_no hi63.2.2.2.2 (by rw [Int.toNat_of_nonneg hi63.1.1]; exact c105) (fun j hj => by rw [p94.1 j (by omega) (by omega), p82.1 j (by omega)])⟩ rfl
        · refine q_aload_n F dX7_look_108 0 rfl ?_
          refine q_callVV (n := 0) (T := TX7) F (c_X7_addWorld G hI N94 w hw (by rw [p94.1 _ (by omega) (by omega)]; exact hv82.2.2.1) (by rw [p94.1 _ (by omega) (by omega), p82.1 _ (by omega)]; have := (q_LK_R hi63.2.2.2.2).1; omega) (fun p q p0 p1 q0 q1 => by rw [p94.1 _ (by omega) (by omega), p82.1 _ (by omega)]; have := (q_LK_R hi63.2.2.2.2).2 p q p0 p1 q0 q1; omega) (fun p p0 p1 => by rw [hT p (by omega) p1]; exact q_set_R _)) rfl rfl hw.1 gX7_look_X7_addWorld rfl ⟨by decide, by decide, by decide +kernel⟩ rfl ⟨rfl, rfl, Nat.le_of_ble_eq_true rfl, Nat.le_of_ble_eq_true rfl⟩ rfl (Nat.le_of_ble_eq_true rfl) dX7_look_109 (fun N109 p109 => ?_)
          obtain ⟨v112, e112⟩ : ∃ z_ : Int, z_ = r + 1 := ⟨_, rfl⟩
          refine q_iinc F dX7_look_112 4 rfl e112 [(4, .int (q_I v112)), (0, .ref (q_ad G w)), (1, .ref (q_ad G b)), (2, .int (q_I v49)), (3, .int (q_I v59))] (Nat.le_of_ble_eq_true rfl) rfl ?_
          refine q_goto F 63 dX7_look_115 (by decide) ?_
          refine q_drop [1, 2, 3, 4, 0] rfl ?_
          exact ih63_1 _ (by omega) v112 N109 ⟨by omega, fun j h1 h2 h3 h4 => by rw [p109.1 j h1 (by omega) (by omega) (by omega), p94.1 j (by omega) h3]; exact f82 j h1 h2 h3 h4, ⟨by rw [p109.1 _ (by omega) (by omega) (by omega) (by omega), p94.1 _ (by omega) (by omega)]; exact hv82.1, by rw [p109.1 _ (by omega) (by omega) (by omega) (by omega), p94.1 _ (by omega) (by omega)]; exact hv82.2.1, by rw [p109.1 _ (by omega) (by omega) (by omega) (by omega), p94.1 _ (by omega) (by omega)]; exact hv82.2.2.1, by rw [p109.1 _ (by omega) (by omega) (by omega) (by omega), p94.1 _ (by omega) (by omega)]; exact hv82.2.2.2.1, by rw [p109.1 _ (by omega) (by omega) (by omega) (by omega), p94.1 _ (by omega) (by omega)]; exact hv82.2.2.2.2⟩, fun x hx => by
        rw [p109.1 _ (by omega) (by omega) (by omega) (by omega), p94.1 _ (by omega) (by omega), e82]
        unfold q_H6
        rw [if_neg hx], by
        rw [show v112.toNat = r.toNat + 1 by omega]
        have g94 : ∀ j, (j = w ∨ j = w + 7 ∨ j = w + 8 ∨ j = w + 9) → N94 j = M1 j := fun j hj => by rw [p94.1 j (by omega) (by omega), p82.1 j (by omega)]
        have gh : N94 (w + 1 + 1) = q_H6 v49 (N8 (w + 1 + 1)) r := by rw [p94.1 _ (by omega) (by omega), e82]
        have hrr : ((r.toNat : Nat) : Int) = r := Int.toNat_of_nonneg hi63.1.1
        refine q_LK_yes hi63.2.2.2.2 (by rw [hrr]; exact c105) (by rw [p109.2.1, g94 w (by omega)]) (fun x x0 x1 => ?_) (fun x x0 x1 => ?_) (fun p q p0 p1 q0 q1 => ?_)
        · rw [(p109.2.2.1 x x0 x1).1, g94 _ (by omega), gh, hrr]
        · rw [(p109.2.2.1 x x0 x1).2, g94 _ (by omega), gh, hrr]
        · rw [p109.2.2.2 p q p0 p1 q0 q1, g94 _ (by omega), hT p (by omega) p1, hrr]⟩ rfl
  refine q_drop [3, 4, 2, 1, 0] rfl ?_
  exact lp63_1 _ 0 N38 ⟨by omega, fun j h1 h2 h3 h4 => by rw [eN38, q_up_ne h1, p33.1 _ (by omega), p25.1 _ (by omega), p17.1 _ (by omega)], hv38, fun x _ => by rw [eN38, q_up_ne (by omega), p33.1 _ (by omega), p25.1 _ (by omega), p17.1 _ (by omega)],
     q_LK_0 (by rw [eN38, q_up_at, if_pos rfl]) (fun x h0 h1 => by rw [eN38, q_up_ne (by omega), p33.1 _ (by omega), p25.1 _ (by omega)]; exact p17.2 x h0 (by omega)) (fun x h0 h1 => by rw [eN38, q_up_ne (by omega), p33.1 _ (by omega)]; exact p25.2 x h0 (by omega)) (fun x h0 h1 => by rw [eN38, q_up_ne (by omega)]; exact p33.2 x h0 (by omega))⟩ rfl
