/-! worlds, in the reference's order; the two orders -/
def q_be (S x : Int) : Nat := (q_cnt (fun y => q_has S y && decide (y < x))).toNat
theorem q_be_step {s i : Int} (h0 : 0 ≤ s) (h1 : s ≤ 63) (i0 : 0 ≤ i) (i1 : i < 6) : q_be s (i + 1) = q_be s i + (if q_has s i = true then 1 else 0) :=
  q_dec64 (p := fun s => q_be s (i + 1) = q_be s i + (if q_has s i = true then 1 else 0)) (q_dec6 (p := fun i => ∀ n : Nat, n < 64 → q_be (n : Int) (i + 1) = q_be (n : Int) i + (if q_has (n : Int) i = true then 1 else 0)) (by decide +kernel) i0 i1) h0 h1
theorem q_be_0 {s : Int} (h0 : 0 ≤ s) (h1 : s ≤ 63) : q_be s 0 = 0 := q_dec64 (p := fun s => q_be s 0 = 0) (by decide +kernel) h0 h1
theorem q_be_ab {s x : Int} (h0 : 0 ≤ s) (h1 : s ≤ 63) (hx : q_has s x = true) : (q_be s x : Int) + q_ab s x + 1 = q_cnt (q_has s) := by
  have hi := q_has_in hx
  have := q_dec64 (p := fun s => q_has s x = true → (q_be s x : Int) + q_ab s x + 1 = q_cnt (q_has s)) (q_dec6 (p := fun x => ∀ n : Nat, n < 64 → q_has (n : Int) x = true → (q_be (n : Int) x : Int) + q_ab (n : Int) x + 1 = q_cnt (q_has (n : Int))) (by decide +kernel) hi.1 hi.2) h0 h1
  exact this hx
def q_E6 (S : Int) (h : Int → Int) (r : Int) : Int → Int := fun x => if q_has S x = true then r / q_pw 6 (q_be S x) % 6 else h x
def q_eT (h f a : Int → Int) (th ke S r p : Int) : Int := q_set (q_tk (q_E6 S h r) f a th ke 0 p)
def q_efit (h f a : Int → Int) (th ke S : Int) (d s : Int → Int) (n r : Int) : Bool := q_fit d s (q_eT h f a th ke S r) n.toNat
def q_EK (M : q_M) (h f a : Int → Int) (th ke S : Int) (d s : Int → Int) (n : Int) (r : Nat) : Prop :=
  M 0 19 = q_ctN (q_efit h f a th ke S d s n) r ∧
  (∀ x, 0 ≤ x → x < 6 → M 12 x = q_mnN (q_efit h f a th ke S d s n) (fun r => q_E6 S h r x) 1000000 r ∧ M 13 x = q_mxP (q_efit h f a th ke S d s n) (fun r => q_E6 S h r x) (-6) r) ∧
  (∀ p q, 1 ≤ p → p ≤ 9 → 0 ≤ q → q ≤ 63 → M 14 (64 * p + q) = q_ctN (fun r => q_efit h f a th ke S d s n r && decide (q_eT h f a th ke S r p = q)) r)
theorem q_EK_0 {M : q_M} {h f a : Int → Int} {th ke S n : Int} {d s : Int → Int} (h5 : M 0 19 = 0) (h7 : ∀ x, 0 ≤ x → x < 6 → M 12 x = 1000000) (h8 : ∀ x, 0 ≤ x → x < 6 → M 13 x = -6) (h9 : ∀ x, 0 ≤ x → x < 640 → M 14 x = 0) : q_EK M h f a th ke S d s n 0 :=
  ⟨h5, fun x x0 x1 => ⟨h7 x x0 x1, h8 x x0 x1⟩, fun p q p0 p1 q0 q1 => h9 _ (by omega) (by omega)⟩
theorem q_EK_R {M : q_M} {h f a : Int → Int} {th ke S n : Int} {d s : Int → Int} {r : Nat} (k : q_EK M h f a th ke S d s n r) : (0 ≤ M 0 19 ∧ M 0 19 ≤ r) ∧ ∀ p q, 1 ≤ p → p ≤ 9 → 0 ≤ q → q ≤ 63 → 0 ≤ M 14 (64 * p + q) ∧ M 14 (64 * p + q) ≤ r := by
  refine ⟨by rw [k.1]; exact q_ctN_R _ _, fun p q p0 p1 q0 q1 => by rw [k.2.2 p q p0 p1 q0 q1]; exact q_ctN_R _ _⟩
theorem q_EK_no {M M' : q_M} {h f a : Int → Int} {th ke S n : Int} {d s : Int → Int} {r : Nat} (k : q_EK M h f a th ke S d s n r) (hf : q_efit h f a th ke S d s n r = false) (e0 : M' 0 19 = M 0 19) (e : ∀ j, (j = 12 ∨ j = 13 ∨ j = 14) → M' j = M j) : q_EK M' h f a th ke S d s n (r + 1) := by
  refine ⟨?_, fun x x0 x1 => ⟨?_, ?_⟩, fun p q p0 p1 q0 q1 => ?_⟩
  · rw [e0, k.1, q_ctN_s, hf]; simp [q_b]
  · rw [e _ (by omega), (k.2.1 x x0 x1).1, q_mnN_s, if_neg (by simp [hf])]
  · rw [e _ (by omega), (k.2.1 x x0 x1).2, q_mxP_s, if_neg (by simp [hf])]
  · rw [e _ (by omega), k.2.2 p q p0 p1 q0 q1, q_ctN_s, hf]; simp [q_b]
theorem q_EK_yes {M M' : q_M} {h f a : Int → Int} {th ke S n : Int} {d s : Int → Int} {r : Nat} (k : q_EK M h f a th ke S d s n r) (hf : q_efit h f a th ke S d s n r = true) (e5 : M' 0 19 = M 0 19 + 1) (e7 : ∀ x, 0 ≤ x → x < 6 → M' 12 x = min (M 12 x) (q_E6 S h r x)) (e8 : ∀ x, 0 ≤ x → x < 6 → M' 13 x = max (M 13 x) (q_E6 S h r x))
    (e9 : ∀ p q, 1 ≤ p → p ≤ 9 → 0 ≤ q → q ≤ 63 → M' 14 (64 * p + q) = M 14 (64 * p + q) + (if q_eT h f a th ke S r p = q then 1 else 0)) : q_EK M' h f a th ke S d s n (r + 1) := by
  refine ⟨?_, fun x x0 x1 => ⟨?_, ?_⟩, fun p q p0 p1 q0 q1 => ?_⟩
  · rw [e5, k.1]; conv => rhs; unfold q_ctN; rw [hf]
    rfl
  · rw [e7 x x0 x1, (k.2.1 x x0 x1).1]; conv => rhs; unfold q_mnN; rw [if_pos hf]
  · rw [e8 x x0 x1, (k.2.1 x x0 x1).2]; conv => rhs; unfold q_mxP; rw [if_pos hf]
  · rw [e9 p q p0 p1 q0 q1, k.2.2 p q p0 p1 q0 q1]; conv => rhs; unfold q_ctN; rw [hf]
    by_cases hq : q_eT h f a th ke S r p = q <;> simp [hq, q_b]
theorem q_fit_mono {d s tk : Int → Int} {k : Nat} : ∀ n : Nat, k ≤ n → q_fit d s tk k = false → q_fit d s tk n = false
  | 0, h, hf => by
    rw [show k = 0 by omega] at hf
    exact hf
  | n + 1, h, hf => by
    by_cases hk : k = n + 1
    · rw [← hk]; exact hf
    · rw [q_fit_s, q_fit_mono n (by omega) hf]
      rfl
def q_eWf (h f a : Int → Int) (th ke : Int) (d s : Int → Int) (n : Int) : Int → Bool := q_efit h f a th ke (q_set (q_ins a th 0)) d s n
def q_eWc (h f a : Int → Int) (th ke : Int) (d s : Int → Int) (n : Int) : Int := q_ctN (q_eWf h f a th ke d s n) (q_WN a th)
def q_eWl (h f a : Int → Int) (th ke : Int) (d s : Int → Int) (n g : Int) : Int := q_mnN (q_eWf h f a th ke d s n) (fun r => q_E6 (q_set (q_ins a th 0)) h r g) 1000000 (q_WN a th)
def q_eWg (h f a : Int → Int) (th ke : Int) (d s : Int → Int) (n g : Int) : Int := q_mxP (q_eWf h f a th ke d s n) (fun r => q_E6 (q_set (q_ins a th 0)) h r g) (-6) (q_WN a th)
def q_eWt (h f a : Int → Int) (th ke : Int) (d s : Int → Int) (n p q : Int) : Int := q_ctN (fun r => q_eWf h f a th ke d s n r && decide (q_eT h f a th ke (q_set (q_ins a th 0)) r p = q)) (q_WN a th)
def q_eWm (h f a : Int → Int) (th ke : Int) (d s : Int → Int) (n p : Int) : Int := q_mxN (q_eWt h f a th ke d s n p) 64
/-- the first of the least -/
def q_fb (f : Int → Int) : Nat → Int × Int
  | 0 => (-6, 1000000)
  | n + 1 => if f (n + 1) < (q_fb f n).2 then (n + 1, f (n + 1)) else q_fb f n
theorem q_fb_s (f : Int → Int) (n : Nat) : q_fb f (n + 1) = if f (n + 1) < (q_fb f n).2 then ((n : Int) + 1, f (n + 1)) else q_fb f n := rfl
theorem q_best_s (f : Int → Int) (n : Nat) : q_best f (n + 1) = if f ((n : Int) + 2) < f (q_best f n) then (n : Int) + 2 else q_best f n := rfl
theorem q_fb_best {f : Int → Int} (h1 : f 1 < 1000000) : ∀ n : Nat, q_fb f (n + 1) = (q_best f n, f (q_best f n))
  | 0 => by
    rw [q_fb_s]
    show (if f (((0 : Nat) : Int) + 1) < 1000000 then ((((0 : Nat) : Int) + 1 : Int), f (((0 : Nat) : Int) + 1)) else (-6, 1000000)) = (1, f 1)
    rw [show (((0 : Nat) : Int) + 1) = 1 by omega, if_pos h1]
  | n + 1 => by
    rw [q_fb_s, q_fb_best h1 n]
    show (if f (((n + 1 : Nat) : Int) + 1) < f (q_best f n) then ((((n + 1 : Nat) : Int) + 1 : Int), f (((n + 1 : Nat) : Int) + 1)) else (q_best f n, f (q_best f n))) = _
    rw [q_best_s, show (((n + 1 : Nat) : Int) + 1) = (n : Int) + 2 by omega]
    by_cases hb : f ((n : Int) + 2) < f (q_best f n)
    · rw [if_pos hb, if_pos hb]
    · rw [if_neg hb, if_neg hb]
def S9_worlds (h f a : Int → Int) (th ke : Int) (d s : Int → Int) (n g w : Int) : Int := if g = -1 ∨ q_ins a th 0 g = true then (if 0 ≤ w ∧ w ≤ 1 then (if 4 < q_cnt (q_has (q_set (q_ins a th 0))) then -4 else if g = -1 then q_eWc h f a th ke d s n else if q_eWc h f a th ke d s n = 0 then -6 else if w = 0 then q_eWl h f a th ke d s n g else q_eWg h f a th ke d s n g) else -2) else -1
def S9_tells (h f a : Int → Int) (th ke : Int) (d s : Int → Int) (n w : Int) : Int := if 0 ≤ w ∧ w ≤ 1 then (if 4 < q_cnt (q_has (q_set (q_ins a th 0))) then -4 else if q_eWc h f a th ke d s n = 0 then -6 else if w = 0 then (q_fb (q_eWm h f a th ke d s n) 9).1 else (q_fb (q_eWm h f a th ke d s n) 9).2) else -2
theorem q_fb_R {f : Int → Int} : ∀ n : Nat, -6 ≤ (q_fb f n).1 ∧ (q_fb f n).1 ≤ n ∧ ((q_fb f n).1 = -6 ∨ 1 ≤ (q_fb f n).1)
  | 0 => by simp [q_fb]
  | n + 1 => by
    have h := q_fb_R (f := f) n
    rw [q_fb_s]
    split
    · show -6 ≤ (n : Int) + 1 ∧ (n : Int) + 1 ≤ ((n + 1 : Nat) : Int) ∧ ((n : Int) + 1 = -6 ∨ 1 ≤ (n : Int) + 1)
      omega
    · omega
theorem q_pw6_n {n : Nat} (h : n ≤ 4) : 1 ≤ q_pw 6 n ∧ q_pw 6 n ≤ 1296 := by
  rcases (show n = 0 ∨ n = 1 ∨ n = 2 ∨ n = 3 ∨ n = 4 by omega) with rfl | rfl | rfl | rfl | rfl <;> decide
/-- in a world the reference serves as told -/
theorem q_eT_of {M N M2 : q_M} {S r p : Int} (hN : q_an M N) (f : ∀ j, (j = 8 ∨ j = 9) → M2 j = N j) (t0 : M2 0 0 = M 0 0) (k0 : M2 0 4 = M 0 4) (h7 : ∀ x, 0 ≤ x → x < 6 → M2 7 x = q_E6 S (M 1) r x) : q_set (q_ru (M2 7) (M2 8) (M2 9) (M2 0 0) (M2 0 4) 0 0 p) = q_eT (M 1) (M 2) (M 3) (M 0 0) (M 0 4) S r p := by
  rw [q_ru_0, t0, k0]
  unfold q_eT
  refine q_set_congr (fun x _ _ => q_tk_sim (fun y hy => ?_) x)
  have hi := q_has_in hy
  have := (hN.2 y hi.1 hi.2).1
  rw [f 8 (by omega), f 9 (by omega), h7 y hi.1 hi.2]
  exact ⟨rfl, this.2.1, this.2.2⟩
theorem q_mxN_le {f : Int → Int} {K : Int} (hK : 0 ≤ K) (hf : ∀ x, f x ≤ K) : ∀ n : Nat, q_mxN f n ≤ K
  | 0 => hK
  | n + 1 => by
    have h := q_mxN_le hK hf n
    have h2 := hf n
    show max (q_mxN f n) (f n) ≤ K
    omega
theorem q_WN_R {a : Int → Int} {th : Int} (hn : q_cnt (q_has (q_set (q_ins a th 0))) ≤ 4) : 1 ≤ q_WN a th ∧ q_WN a th ≤ 1296 := by
  have hr := q_cnt_R (q_has (q_set (q_ins a th 0)))
  have := q_pw6_n (n := (q_cnt (q_has (q_set (q_ins a th 0)))).toNat) (by omega)
  unfold q_WN
  omega
theorem q_eWm_R {h f a : Int → Int} {th ke n p : Int} {d s : Int → Int} (hn : q_cnt (q_has (q_set (q_ins a th 0))) ≤ 4) : q_eWm h f a th ke d s n p < 1000000 := by
  have hW := q_WN_R hn
  have := q_mxN_le (f := q_eWt h f a th ke d s n p) (K := 1296) (by omega) (fun x => by
    have := q_ctN_R (fun r => q_eWf h f a th ke d s n r && decide (q_eT h f a th ke (q_set (q_ins a th 0)) r p = x)) (q_WN a th)
    unfold q_eWt
    omega) 64
  unfold q_eWm
  omega
set_option maxHeartbeats 4000000 in
set_option maxRecDepth 100000 in
theorem c_X9_layWorlds (G : q_G) (hI : q_inj G) (M : q_M) (hm : q_mo G) (hZ : q_Z M) : q_CI G yX9_layWorlds wsX9_layWorlds ({ frames := 3, cells := 0, slots := 0, locals := 71 } : Room) [.ref (q_ad G 0)] M (fun z M' => ∃ b, z = q_b b ∧ q_kz M M' ∧ (b = false → 4 < q_cnt (q_has (q_set (q_ins (M 3) (M 0 0) 0)))) ∧ (b = true → q_cnt (q_has (q_set (q_ins (M 3) (M 0 0) 0))) ≤ 4 ∧ q_EK M' (M 1) (M 2) (M 3) (M 0 0) (M 0 4) (q_set (q_ins (M 3) (M 0 0) 0)) (fun i => M 5 (2 * i)) (fun i => M 5 (2 * i + 1)) (M 0 6) (q_WN (M 3) (M 0 0)))) := by
  refine q_CI.of hI (by decide) rfl RX9 rfl [(0, .ref (q_ad G 0))] rfl (Nat.le_of_ble_eq_true rfl) (fun E F FI => ?_)
  have huX9 : ∀ w ∈ wsX90, w ∈ wsX9_layWorlds := by decide +kernel
  refine q_MRof (fun hM => ?_)
  obtain ⟨⟨xt, xk⟩, ⟨xh, xf, xa⟩, xF, xs, xp⟩ := id hZ
  have hz := hZ.1
  refine q_aload_n F dX9_layWorlds_0 0 rfl ?_
  refine q_callVV (n := 0) (T := TX9) F (c_X9_asNow G hI M hm) rfl rfl hm.1 gX9_layWorlds_X9_asNow rfl ⟨by decide, by decide, by decide +kernel⟩ rfl ⟨rfl, rfl, Nat.le_of_ble_eq_true rfl, Nat.le_of_ble_eq_true rfl⟩ rfl (Nat.le_of_ble_eq_true rfl) dX9_layWorlds_1 (fun N1 p1 => ?_)
  have zv1 := q_an_zv p1 hZ
  have kz1 := q_an_kz p1
  refine q_aload_n F dX9_layWorlds_4 0 rfl ?_
  refine q_iconst F dX9_layWorlds_5 ?_
  refine q_callVP (n := 1) (T := TX9) F (c_X9_inHouse G hI N1 hm 0 zv1 (by omega)) rfl rfl hm.1 gX9_layWorlds_X9_inHouse rfl ⟨by decide, by decide, by decide +kernel⟩ rfl ⟨rfl, rfl, Nat.le_of_ble_eq_true rfl, Nat.le_of_ble_eq_true rfl⟩ rfl (Nat.le_of_ble_eq_true rfl) dX9_layWorlds_6 (fun h6 => ?_)
  refine q_nm (fun v9 e9 => ?_)
  refine q_istore_n F dX9_layWorlds_9 [(1, .int (q_I v9)), (0, .ref (q_ad G 0))] (Nat.le_of_ble_eq_true rfl) rfl ?_
  have hv9 : v9 = (q_set (q_ins (M 3) (M 0 0) 0)) := by rw [e9, kz1.2.1]; exact q_set_congr (fun x _ _ => q_ins_sim (q_agR_sim (q_an_ag p1)) x)
  have hS : 0 ≤ v9 ∧ v9 ≤ 63 := by rw [hv9]; exact q_set_R _
  have hcn := q_cnt_R (q_has v9)
  refine q_iload_n F dX9_layWorlds_10 0 rfl ?_
  refine q_callSP (n := 1) F (c_X9_bits G hI N1 v9 (by omega)) rfl gX9_layWorlds_X9_bits ⟨by decide, by decide, by decide +kernel⟩ rfl ⟨rfl, rfl, Nat.le_of_ble_eq_true rfl, Nat.le_of_ble_eq_true rfl⟩ rfl (Nat.le_of_ble_eq_true rfl) dX9_layWorlds_11 (fun h11 => ?_)
  refine q_iconst F dX9_layWorlds_14 ?_
  refine q_icmp_le F 20 dX9_layWorlds_15 (by decide) (by omega) (fun c15 => ?_) (fun c15 => ?_)
  · refine q_iconst F dX9_layWorlds_20 ?_
    refine q_istore_n F dX9_layWorlds_21 [(2, .int (q_I 1)), (1, .int (q_I v9)), (0, .ref (q_ad G 0))] (Nat.le_of_ble_eq_true rfl) rfl ?_
    refine q_iconst F dX9_layWorlds_22 ?_
    refine q_istore_n F dX9_layWorlds_23 [(3, .int (q_I 0)), (2, .int (q_I 1)), (1, .int (q_I v9)), (0, .ref (q_ad G 0))] (Nat.le_of_ble_eq_true rfl) rfl ?_
    have lp24_1 : ∀ (k24_1 : Nat) (c : Int) (k : Int), ((0 ≤ k ∧ k ≤ q_cnt (q_has v9)) ∧ c = q_pw 6 k.toNat) → (6 - k).toNat = k24_1 → q_Y G E 7 N1 [(0, .ref (q_ad G 0)), (1, .int (q_I v9)), (2, .int (q_I c)), (3, .int (q_I k))] 24 [] := by
      intro k24_1
      induction k24_1 using Nat.strongRecOn with
      | _ k24_1 ih24_1 =>
        intro c k   hi24 hk24
        refine q_iload_n F dX9_layWorlds_24 3 rfl ?_
        refine q_iload_n F dX9_layWorlds_25 1 rfl ?_
        refine q_callSP (n := 1) F (c_X9_bits G hI N1 v9 (by omega)) rfl gX9_layWorlds_X9_bits ⟨by decide, by decide, by decide +kernel⟩ rfl ⟨rfl, rfl, Nat.le_of_ble_eq_true rfl, Nat.le_of_ble_eq_true rfl⟩ rfl (Nat.le_of_ble_eq_true rfl) dX9_layWorlds_26 (fun h26 => ?_)
        refine q_icmp_ge F 43 dX9_layWorlds_29 (by decide) (by omega) (fun c29 => ?_) (fun c29 => ?_)
        · have hC : c = q_pw 6 (q_cnt (q_has v9)).toNat := by rw [hi24.2, show k = q_cnt (q_has v9) by omega]
          have hC2 := q_pw6_n (n := (q_cnt (q_has v9)).toNat) (by omega)
          rw [← hC] at hC2
          refine q_aload_n F dX9_layWorlds_43 0 rfl ?_
          refine q_iconst F dX9_layWorlds_44 ?_
          refine q_puti (T := TX9) (ref := "LeastHungryModel") F huX9 rfl hm.1 19 (by decide) (by decide +kernel) rfl 19 rfl tyX9 tyX9_ok nmX9 rfl rfl (by decide +kernel) (by omega) dX9_layWorlds_45 (fun N45 eN45 => ?_)
          refine q_iconst F dX9_layWorlds_48 ?_
          refine q_istore_n F dX9_layWorlds_49 [(3, .int (q_I 0)), (0, .ref (q_ad G 0)), (1, .int (q_I v9)), (2, .int (q_I c))] (Nat.le_of_ble_eq_true rfl) rfl ?_
          have lp50_2 : ∀ (k50_2 : Nat) (k2 : Int) (Ma : q_M), ((0 ≤ k2 ∧ k2 ≤ 640) ∧ (∀ j, j ≠ 14 → Ma j = N45 j) ∧ ∀ x, 0 ≤ x → x < k2 → Ma 14 x = 0) → (640 - k2).toNat = k50_2 → q_Y G E 7 Ma [(0, .ref (q_ad G 0)), (1, .int (q_I v9)), (2, .int (q_I c)), (3, .int (q_I k2))] 50 [] := by
            intro k50_2
            induction k50_2 using Nat.strongRecOn with
            | _ k50_2 ih50_2 =>
              intro k2  Ma hi50 hk50
              refine q_MRof (fun hM50 => ?_)
              refine q_iload_n F dX9_layWorlds_50 3 rfl ?_
              refine q_sipush F dX9_layWorlds_51 (by decide) ?_
              refine q_icmp_ge F 70 dX9_layWorlds_54 (by decide) (by omega) (fun c54 => ?_) (fun c54 => ?_)
              · refine q_iconst F dX9_layWorlds_70 ?_
                refine q_istore_n F dX9_layWorlds_71 [(3, .int (q_I 0)), (0, .ref (q_ad G 0)), (1, .int (q_I v9)), (2, .int (q_I c))] (Nat.le_of_ble_eq_true rfl) rfl ?_
                have lp72_3 : ∀ (k72_3 : Nat) (k3 : Int) (Mb : q_M), ((0 ≤ k3 ∧ k3 ≤ 6) ∧ (∀ j, j ≠ 12 → j ≠ 13 → Mb j = Ma j) ∧ ∀ x, 0 ≤ x → x < k3 → Mb 12 x = 1000000 ∧ Mb 13 x = -6) → (6 - k3).toNat = k72_3 → q_Y G E 7 Mb [(0, .ref (q_ad G 0)), (1, .int (q_I v9)), (2, .int (q_I c)), (3, .int (q_I k3))] 72 [] := by
                  intro k72_3
                  induction k72_3 using Nat.strongRecOn with
                  | _ k72_3 ih72_3 =>
                    intro k3  Mb hi72 hk72
                    refine q_MRof (fun hM72 => ?_)
                    refine q_iload_n F dX9_layWorlds_72 3 rfl ?_
                    refine q_bipush F dX9_layWorlds_73 (by decide) ?_
                    refine q_icmp_ge F 100 dX9_layWorlds_75 (by decide) (by omega) (fun c75 => ?_) (fun c75 => ?_)
                    · have fr0 : (∀ j, j ≠ 0 → j ≠ 7 → j ≠ 12 → j ≠ 13 → j ≠ 14 → Mb j = N1 j) ∧ (∀ i, i ≠ 19 → Mb 0 i = N1 0 i) := by
                        obtain ⟨a1, a2, a3⟩ := hi50
                        obtain ⟨b1, b2, b3⟩ := hi72
                        refine ⟨fun j j0 j7 j12 j13 j14 => ?_, fun i hi => ?_⟩
                        · rw [b2 j j12 j13, a2 j j14, eN45, q_up_ne j0]
                        · rw [b2 0 (by omega) (by omega), a2 0 (by omega), eN45, q_up_at, if_neg hi]
                      have ek0 : q_EK Mb (M 1) (M 2) (M 3) (M 0 0) (M 0 4) v9 (fun i => M 5 (2 * i)) (fun i => M 5 (2 * i + 1)) (M 0 6) 0 := q_EK_0 (by rw [hi72.2.1 0 (by omega) (by omega), hi50.2.1 0 (by omega), eN45, q_up_at, if_pos rfl]) (fun x h0 h1 => (hi72.2.2 x h0 (by omega)).1) (fun x h0 h1 => (hi72.2.2 x h0 (by omega)).2) (fun x h0 h1 => by rw [hi72.2.1 14 (by omega) (by omega)]; exact hi50.2.2 x h0 (by omega))
                      have h70 : ∀ x, 0 ≤ x → x < 6 → q_has v9 x = false → Mb 7 x = M 1 x := fun x h0 h1 _ => by
                        rw [hi72.2.1 7 (by omega) (by omega), hi50.2.1 7 (by omega), eN45, q_up_ne (by omega)]
                        exact (p1.2 x h0 h1).1.1
                      refine q_iconst F dX9_layWorlds_100 ?_
                      refine q_istore_n F dX9_layWorlds_101 [(3, .int (q_I 0)), (0, .ref (q_ad G 0)), (1, .int (q_I v9)), (2, .int (q_I c))] (Nat.le_of_ble_eq_true rfl) rfl ?_
                      have lp102_4 : ∀ (k102_4 : Nat) (r : Int) (M1 : q_M), ((0 ≤ r ∧ r ≤ c) ∧ q_EK M1 (M 1) (M 2) (M 3) (M 0 0) (M 0 4) v9 (fun i => M 5 (2 * i)) (fun i => M 5 (2 * i + 1)) (M 0 6) r.toNat ∧ (∀ j, j ≠ 0 → j ≠ 7 → j ≠ 12 → j ≠ 13 → j ≠ 14 → M1 j = N1 j) ∧ (∀ i, i ≠ 19 → M1 0 i = N1 0 i) ∧ (∀ x, 0 ≤ x → x < 6 → q_has v9 x = false → M1 7 x = M 1 x)) → (c - r).toNat = k102_4 → q_Y G E 7 M1 [(0, .ref (q_ad G 0)), (1, .int (q_I v9)), (2, .int (q_I c)), (3, .int (q_I r))] 102 [] := by
                        intro k102_4
                        induction k102_4 using Nat.strongRecOn with
                        | _ k102_4 ih102_4 =>
                          intro r  M1 hi102 hk102
                          refine q_MRof (fun hM102 => ?_)
                          obtain ⟨k1, k3, k4, k5, k6⟩ := id hi102
                          refine q_iload_n F dX9_layWorlds_102 3 rfl ?_
                          refine q_iload_n F dX9_layWorlds_103 2 rfl ?_
                          refine q_icmp_ge F 374 dX9_layWorlds_104 (by decide) (by omega) (fun c104 => ?_) (fun c104 => ?_)
                          · refine q_iconst F dX9_layWorlds_374 ?_
                            exact q_zret F FI dX9_layWorlds_375 (by first | exact q_b01 _ | omega) ⟨true, rfl, ⟨fun j hj => by rw [k4 j (by omega) (by omega) (by omega) (by omega) (by omega)]; exact p1.1 j (by omega), by rw [k5 0 (by omega), p1.1 0 (by omega)], by rw [k5 4 (by omega), p1.1 0 (by omega)], by rw [k5 6 (by omega), p1.1 0 (by omega)], by rw [k5 8 (by omega), p1.1 0 (by omega)]⟩, fun h => absurd h (by decide), fun _ => ⟨by rw [← hv9]; omega, by
                                  unfold q_WN
                                  rw [← hv9, ← hC, ← show r = c by omega]
                                  exact k3⟩⟩
                          · refine q_iload_n F dX9_layWorlds_107 3 rfl ?_
                            refine q_istore F dX9_layWorlds_108 [(4, .int (q_I r)), (0, .ref (q_ad G 0)), (1, .int (q_I v9)), (2, .int (q_I c)), (3, .int (q_I r))] (Nat.le_of_ble_eq_true rfl) rfl ?_
                            refine q_iconst F dX9_layWorlds_110 ?_
                            refine q_istore F dX9_layWorlds_111 [(5, .int (q_I 0)), (4, .int (q_I r)), (0, .ref (q_ad G 0)), (1, .int (q_I v9)), (2, .int (q_I c)), (3, .int (q_I r))] (Nat.le_of_ble_eq_true rfl) rfl ?_
                            have lp113_5 : ∀ (k113_5 : Nat) (l : Int) (g : Int) (M2 : q_M), ((0 ≤ g ∧ g ≤ 6) ∧ l = r / q_pw 6 (q_be v9 g) ∧ (∀ j, j ≠ 7 → M2 j = M1 j) ∧ (∀ x, M2 7 x = if (0 ≤ x ∧ x < g) ∧ q_has v9 x = true then r / q_pw 6 (q_be v9 x) % 6 else M1 7 x)) → (6 - g).toNat = k113_5 → q_Y G E 7 M2 [(0, .ref (q_ad G 0)), (1, .int (q_I v9)), (2, .int (q_I c)), (3, .int (q_I r)), (4, .int (q_I l)), (5, .int (q_I g))] 113 [] := by
                              intro k113_5
                              induction k113_5 using Nat.strongRecOn with
                              | _ k113_5 ih113_5 =>
                                intro l g  M2 hi113 hk113
                                refine q_MRof (fun hM113 => ?_)
                                obtain ⟨i1, i2, i3, i4⟩ := id hi113
                                have hlR : 0 ≤ l ∧ l ≤ r := by rw [i2]; exact q_div_R k1.1 (by omega) _
                                refine q_iload F dX9_layWorlds_113 5 rfl ?_
                                refine q_bipush F dX9_layWorlds_115 (by decide) ?_
                                refine q_icmp_ge F 154 dX9_layWorlds_117 (by decide) (by omega) (fun c117 => ?_) (fun c117 => ?_)
                                · obtain ⟨i1, i2, i3, i4⟩ := hi113
                                  have hE : ∀ x, 0 ≤ x → x < 6 → M2 7 x = q_E6 v9 (M 1) r x := fun x x0 x1 => by
                                    rw [i4]
                                    unfold q_E6
                                    by_cases hx : q_has v9 x = true
                                    · rw [if_pos ⟨by omega, hx⟩, if_pos hx]
                                    · rw [if_neg (fun h => hx h.2), if_neg hx]
                                      exact k6 x x0 x1 (by simpa using hx)
                                  have f2 : ∀ i, i ≠ 19 → M2 0 i = M 0 i := fun i hi => by rw [i3 0 (by omega), k5 i hi, p1.1 0 (by omega)]
                                  have m5 : M2 5 = M 5 := by rw [i3 5 (by omega), k4 5 (by omega) (by omega) (by omega) (by omega) (by omega), p1.1 5 (by omega)]
                                  have m8 : M2 8 = N1 8 := by rw [i3 8 (by omega), k4 8 (by omega) (by omega) (by omega) (by omega) (by omega)]
                                  have m9 : M2 9 = N1 9 := by rw [i3 9 (by omega), k4 9 (by omega) (by omega) (by omega) (by omega) (by omega)]
                                  have zv2 : q_zv M2 := by
                                    refine ⟨⟨?_, ?_⟩, fun x x0 x1 => ?_, ?_, ?_⟩
                                    · rw [f2 0 (by omega)]; exact xt
                                    · rw [f2 4 (by omega)]; exact xk
                                    · rw [hE x x0 x1]
                                      unfold q_E6
                                      have := xh x x0 x1
                                      split <;> omega
                                    · rw [m8]; exact zv1.2.2.1
                                    · rw [m9]; exact zv1.2.2.2
                                  have hETp : ∀ p, q_set (q_ru (M2 7) (M2 8) (M2 9) (M2 0 0) (M2 0 4) 0 0 p) = (q_eT (M 1) (M 2) (M 3) (M 0 0) (M 0 4) v9 r) p := fun p => q_eT_of p1 (fun j hj => by rcases hj with rfl | rfl; exact m8; exact m9) (f2 0 (by omega)) (f2 4 (by omega)) hE
                                  refine q_iconst F dX9_layWorlds_154 ?_
                                  refine q_istore F dX9_layWorlds_155 [(5, .int (q_I 1)), (0, .ref (q_ad G 0)), (1, .int (q_I v9)), (2, .int (q_I c)), (3, .int (q_I r)), (4, .int (q_I l))] (Nat.le_of_ble_eq_true rfl) rfl ?_
                                  refine q_iconst F dX9_layWorlds_157 ?_
                                  refine q_istore F dX9_layWorlds_158 [(6, .int (q_I 0)), (5, .int (q_I 1)), (0, .ref (q_ad G 0)), (1, .int (q_I v9)), (2, .int (q_I c)), (3, .int (q_I r)), (4, .int (q_I l))] (Nat.le_of_ble_eq_true rfl) rfl ?_
                                  have lp160_6 : ∀ (k160_6 : Nat) (al : Int) (k : Int), ((0 ≤ k ∧ k ≤ M 0 6) ∧ al = q_b (q_fit (fun i => M 5 (2 * i)) (fun i => M 5 (2 * i + 1)) (q_eT (M 1) (M 2) (M 3) (M 0 0) (M 0 4) v9 r) k.toNat)) → (M 0 6 - k).toNat = k160_6 → q_Y G E 7 M2 [(0, .ref (q_ad G 0)), (1, .int (q_I v9)), (2, .int (q_I c)), (3, .int (q_I r)), (5, .int (q_I al)), (6, .int (q_I k))] 160 [] := by
                                    intro k160_6
                                    induction k160_6 using Nat.strongRecOn with
                                    | _ k160_6 ih160_6 =>
                                      intro al k   hi160 hk160
                                      obtain ⟨w1, w2⟩ := id hi160
                                      have hal01 := q_b01 (q_fit (fun i => M 5 (2 * i)) (fun i => M 5 (2 * i + 1)) (q_eT (M 1) (M 2) (M 3) (M 0 0) (M 0 4) v9 r) k.toNat)
                                      rw [← w2] at hal01
                                      refine q_iload F dX9_layWorlds_160 5 rfl ?_
                                      refine q_aload_n F dX9_layWorlds_162 0 rfl ?_
                                      refine q_geti (T := TX9) (ref := "LeastHungryModel") F huX9 rfl hm.1 6 (by decide) (by decide +kernel) rfl 6 rfl rfl dX9_layWorlds_163 (fun h163 => ?_)
                                      refine q_icmp_ge F 216 dX9_layWorlds_166 (by decide) (by omega) (fun c166 => ?_) (fun c166 => ?_)
                                      · have hal : al = q_b (q_fit (fun i => M 5 (2 * i)) (fun i => M 5 (2 * i + 1)) (q_eT (M 1) (M 2) (M 3) (M 0 0) (M 0 4) v9 r) k.toNat) := hi160.2
                                        refine q_iload F dX9_layWorlds_216 4 rfl ?_
                                        refine q_if_eq F 368 dX9_layWorlds_218 (by decide) (by omega) (fun c218 => ?_) (fun c218 => ?_)
                                        · obtain ⟨v368, e368⟩ : ∃ z_ : Int, z_ = r + 1 := ⟨_, rfl⟩
                                          refine q_iinc F dX9_layWorlds_368 3 rfl e368 [(3, .int (q_I v368)), (0, .ref (q_ad G 0)), (1, .int (q_I v9)), (2, .int (q_I c)), (5, .int (q_I al)), (6, .int (q_I k))] (Nat.le_of_ble_eq_true rfl) rfl ?_
                                          refine q_goto F 102 dX9_layWorlds_371 (by decide) ?_
                                          refine q_drop [1, 2, 3, 0] rfl ?_
                                          exact ih102_4 _ (by omega) v368 M2 ⟨by omega, by
                                                have hnf : (q_efit (M 1) (M 2) (M 3) (M 0 0) (M 0 4) v9 (fun i => M 5 (2 * i)) (fun i => M 5 (2 * i + 1)) (M 0 6)) r = false := by
                                                  unfold q_efit
                                                  rw [← Int.toNat_of_nonneg k1.1]
                                                  rw [Int.toNat_of_nonneg k1.1]
                                                  refine q_fit_mono (k := k.toNat) _ (by omega) ((q_b0 _).mp (by rw [← hal]; exact c218)) 
                                                rw [e368, show (r + 1).toNat = r.toNat + 1 by omega]
                                                refine q_EK_no k3 (by rw [Int.toNat_of_nonneg k1.1]; exact hnf) (by rw [i3 0 (by omega)]) (fun j hj => i3 j (by omega)), fun j a b c dd e => by rw [i3 j b]; exact k4 j a b c dd e, fun i hi => by rw [i3 0 (by omega)]; exact k5 i hi, fun x h0 h1 hx => by rw [hE x h0 h1]; unfold q_E6; rw [hx]; rfl⟩ rfl
                                        · have hkn : M 0 6 ≤ k ∨ al = 0 := by
                                            have := f2 6 (by omega)
                                            first
                                            | exact Or.inl (by omega)
                                            | exact Or.inr (by omega)
                                          have hyf : (q_efit (M 1) (M 2) (M 3) (M 0 0) (M 0 4) v9 (fun i => M 5 (2 * i)) (fun i => M 5 (2 * i + 1)) (M 0 6)) r = true := by
                                            unfold q_efit
                                            have hke : k = M 0 6 := by
                                              have := hi160.1
                                              omega
                                            rw [← hke]
                                            cases hq : q_fit (fun i => M 5 (2 * i)) (fun i => M 5 (2 * i + 1)) (q_eT (M 1) (M 2) (M 3) (M 0 0) (M 0 4) v9 r) k.toNat
                                            · rw [hal, hq] at c218
                                              exact absurd rfl c218
                                            · rfl
                                          have ek := q_EK_R k3
                                          rw [Int.toNat_of_nonneg k1.1] at ek
                                          have ek19 : 0 ≤ M2 0 19 ∧ M2 0 19 ≤ r := by rw [i3 0 (by omega)]; exact ek.1
                                          refine q_aload_n F dX9_layWorlds_221 0 rfl ?_
                                          refine q_dup F dX9_layWorlds_222 rfl ?_
                                          refine q_geti (T := TX9) (ref := "LeastHungryModel") F huX9 rfl hm.1 19 (by decide) (by decide +kernel) rfl 19 rfl rfl dX9_layWorlds_223 (fun h223 => ?_)
                                          refine q_iconst F dX9_layWorlds_226 ?_
                                          refine q_iadd F dX9_layWorlds_227 ?_
                                          refine q_puti (T := TX9) (ref := "LeastHungryModel") F huX9 rfl hm.1 19 (by decide) (by decide +kernel) rfl 19 rfl tyX9 tyX9_ok nmX9 rfl rfl (by decide +kernel) (by omega) dX9_layWorlds_228 (fun N228 eN228 => ?_)
                                          refine q_iconst F dX9_layWorlds_231 ?_
                                          refine q_istore F dX9_layWorlds_232 [(6, .int (q_I 0)), (0, .ref (q_ad G 0)), (1, .int (q_I v9)), (2, .int (q_I c)), (3, .int (q_I r)), (5, .int (q_I al))] (Nat.le_of_ble_eq_true rfl) rfl ?_
                                          have lp234_7 : ∀ (k234_7 : Nat) (x : Int) (M3 : q_M), ((0 ≤ x ∧ x ≤ 6) ∧ (∀ j, j ≠ 12 → j ≠ 13 → M3 j = N228 j) ∧ (∀ y, 0 ≤ y → y < x → M3 12 y = min (M2 12 y) (M2 7 y)) ∧ (∀ y, 0 ≤ y → y < x → M3 13 y = max (M2 13 y) (M2 7 y)) ∧ (∀ y, x ≤ y → y < 6 → M3 12 y = M2 12 y ∧ M3 13 y = M2 13 y)) → (6 - x).toNat = k234_7 → q_Y G E 7 M3 [(0, .ref (q_ad G 0)), (1, .int (q_I v9)), (2, .int (q_I c)), (3, .int (q_I r)), (6, .int (q_I x))] 234 [] := by
                                            intro k234_7
                                            induction k234_7 using Nat.strongRecOn with
                                            | _ k234_7 ih234_7 =>
                                              intro x  M3 hi234 hk234
                                              refine q_MRof (fun hM234 => ?_)
                                              refine q_iload F dX9_layWorlds_234 4 rfl ?_
                                              refine q_bipush F dX9_layWorlds_236 (by decide) ?_
                                              refine q_icmp_ge F 329 dX9_layWorlds_238 (by decide) (by omega) (fun c238 => ?_) (fun c238 => ?_)
                                              · refine q_iconst F dX9_layWorlds_329 ?_
                                                refine q_istore F dX9_layWorlds_330 [(6, .int (q_I 1)), (0, .ref (q_ad G 0)), (1, .int (q_I v9)), (2, .int (q_I c)), (3, .int (q_I r))] (Nat.le_of_ble_eq_true rfl) rfl ?_
                                                have lp332_8 : ∀ (k332_8 : Nat) (p : Int) (M4 : q_M), ((1 ≤ p ∧ p ≤ 10) ∧ (∀ j, j ≠ 14 → M4 j = M3 j) ∧ (∀ y z, 1 ≤ y → y ≤ 9 → 0 ≤ z → z ≤ 63 → M4 14 (64 * y + z) = M3 14 (64 * y + z) + (if y < p ∧ (q_eT (M 1) (M 2) (M 3) (M 0 0) (M 0 4) v9 r) y = z then 1 else 0))) → (10 - p).toNat = k332_8 → q_Y G E 7 M4 [(0, .ref (q_ad G 0)), (1, .int (q_I v9)), (2, .int (q_I c)), (3, .int (q_I r)), (6, .int (q_I p))] 332 [] := by
                                                  intro k332_8
                                                  induction k332_8 using Nat.strongRecOn with
                                                  | _ k332_8 ih332_8 =>
                                                    intro p  M4 hi332 hk332
                                                    refine q_MRof (fun hM332 => ?_)
                                                    refine q_iload F dX9_layWorlds_332 4 rfl ?_
                                                    refine q_bipush F dX9_layWorlds_334 (by decide) ?_
                                                    refine q_icmp_ge F 368 dX9_layWorlds_336 (by decide) (by omega) (fun c336 => ?_) (fun c336 => ?_)
                                                    · obtain ⟨v368, e368⟩ : ∃ z_ : Int, z_ = r + 1 := ⟨_, rfl⟩
                                                      refine q_iinc F dX9_layWorlds_368 3 rfl e368 [(3, .int (q_I v368)), (0, .ref (q_ad G 0)), (1, .int (q_I v9)), (2, .int (q_I c)), (6, .int (q_I p))] (Nat.le_of_ble_eq_true rfl) rfl ?_
                                                      refine q_goto F 102 dX9_layWorlds_371 (by decide) ?_
                                                      refine q_drop [1, 2, 3, 0] rfl ?_
                                                      exact ih102_4 _ (by omega) v368 M4 ⟨by omega, by
                                                            rw [e368, show (r + 1).toNat = r.toNat + 1 by omega]
                                                            obtain ⟨u1, u2, u3, u4, u5⟩ := hi234
                                                            obtain ⟨t1, t2, t3⟩ := hi332
                                                            refine q_EK_yes k3 (by rw [Int.toNat_of_nonneg k1.1]; exact hyf) ?_ (fun x x0 x1 => ?_) (fun x x0 x1 => ?_) (fun y z y0 y1 z0 z1 => ?_)
                                                            · rw [t2 0 (by omega), u2 0 (by omega) (by omega), eN228, q_up_at, if_pos rfl, i3 0 (by omega)]
                                                            · rw [t2 12 (by omega), u3 x x0 (by omega), i3 12 (by omega), Int.toNat_of_nonneg k1.1, ← hE x x0 x1]
                                                            · rw [t2 13 (by omega), u4 x x0 (by omega), i3 13 (by omega), Int.toNat_of_nonneg k1.1, ← hE x x0 x1]
                                                            · rw [t3 y z y0 y1 z0 z1, u2 14 (by omega) (by omega), eN228, q_up_ne (by omega), i3 14 (by omega), Int.toNat_of_nonneg k1.1]
                                                              by_cases hq : (q_eT (M 1) (M 2) (M 3) (M 0 0) (M 0 4) v9 r) y = z
                                                              · rw [if_pos ⟨by omega, hq⟩, if_pos hq]
                                                              · rw [if_neg (fun h => hq h.2), if_neg hq], fun j a b c dd e => by rw [hi332.2.1 j e, hi234.2.1 j c dd, eN228, q_up_ne a, i3 j b]; exact k4 j a b c dd e, fun i hi => by rw [hi332.2.1 0 (by omega), hi234.2.1 0 (by omega) (by omega), eN228, q_up_at, if_neg hi, i3 0 (by omega)]; exact k5 i hi, fun x h0 h1 hx => by rw [hi332.2.1 7 (by omega), hi234.2.1 7 (by omega) (by omega), eN228, q_up_ne (by omega), hE x h0 h1]; unfold q_E6; rw [hx]; rfl⟩ rfl
                                                    · have z14 : ∀ y z, 1 ≤ y → y ≤ 9 → 0 ≤ z → z ≤ 63 → 0 ≤ M3 14 (64 * y + z) ∧ M3 14 (64 * y + z) ≤ r := fun y z y0 y1 z0 z1 => by
                                                        rw [hi234.2.1 14 (by omega) (by omega), eN228, q_up_ne (by omega), i3 14 (by omega)]
                                                        exact ek.2 y z y0 y1 z0 z1
                                                      have e33 : ∀ j, j ≠ 0 → j ≠ 12 → j ≠ 13 → j ≠ 14 → M4 j = M2 j := fun j a b c dd => by rw [hi332.2.1 j dd, hi234.2.1 j b c, eN228, q_up_ne a]
                                                      have e30 : ∀ i, i ≠ 19 → M4 0 i = M2 0 i := fun i hi => by rw [hi332.2.1 0 (by omega), hi234.2.1 0 (by omega) (by omega), eN228, q_up_at, if_neg hi]
                                                      have hE4 : q_set (q_ru (M4 7) (M4 8) (M4 9) (M4 0 0) (M4 0 4) 0 0 p) = (q_eT (M 1) (M 2) (M 3) (M 0 0) (M 0 4) v9 r) p := by
                                                        rw [e33 7 (by omega) (by omega) (by omega) (by omega), e33 8 (by omega) (by omega) (by omega) (by omega), e33 9 (by omega) (by omega) (by omega) (by omega), e30 0 (by omega), e30 4 (by omega)]
                                                        exact hETp p
                                                      have zv4 : q_zv M4 := by
                                                        refine ⟨⟨?_, ?_⟩, ?_, ?_, ?_⟩
                                                        · rw [e30 0 (by omega)]; exact zv2.1.1
                                                        · rw [e30 4 (by omega)]; exact zv2.1.2
                                                        · rw [e33 7 (by omega) (by omega) (by omega) (by omega)]; exact zv2.2.1
                                                        · rw [e33 8 (by omega) (by omega) (by omega) (by omega)]; exact zv2.2.2.1
                                                        · rw [e33 9 (by omega) (by omega) (by omega) (by omega)]; exact zv2.2.2.2
                                                      have hE4R := q_set_R (q_ru (M4 7) (M4 8) (M4 9) (M4 0 0) (M4 0 4) 0 0 p)
                                                      have hETR : 0 ≤ (q_eT (M 1) (M 2) (M 3) (M 0 0) (M 0 4) v9 r) p ∧ (q_eT (M 1) (M 2) (M 3) (M 0 0) (M 0 4) v9 r) p ≤ 63 := by rw [← hE4]; exact hE4R
                                                      have cv := hi332.2.2 p ((q_eT (M 1) (M 2) (M 3) (M 0 0) (M 0 4) v9 r) p) (by omega) (by omega) hETR.1 hETR.2
                                                      rw [if_neg (fun h => by omega)] at cv
                                                      have cvR := z14 p ((q_eT (M 1) (M 2) (M 3) (M 0 0) (M 0 4) v9 r) p) (by omega) (by omega) hETR.1 hETR.2
                                                      refine q_aload_n F dX9_layWorlds_339 0 rfl ?_
                                                      refine q_getr (T := TX9) (ref := "LeastHungryModel") F huX9 rfl hm.1 22 (by decide) (by decide +kernel) rfl rfl dX9_layWorlds_340 ?_
                                                      refine q_bipush F dX9_layWorlds_343 (by decide) ?_
                                                      refine q_iload F dX9_layWorlds_345 4 rfl ?_
                                                      refine q_imul F dX9_layWorlds_347 ?_
                                                      refine q_aload_n F dX9_layWorlds_348 0 rfl ?_
                                                      refine q_iconst F dX9_layWorlds_349 ?_
                                                      refine q_iload F dX9_layWorlds_350 4 rfl ?_
                                                      refine q_iconst F dX9_layWorlds_352 ?_
                                                      refine q_callVP (n := 3) (T := TX9) F (c_X9_servedBy G hI M4 hm 0 p 0 zv4 (by omega)) rfl rfl hm.1 gX9_layWorlds_X9_servedBy rfl ⟨by decide, by decide, by decide +kernel⟩ rfl ⟨rfl, rfl, Nat.le_of_ble_eq_true rfl, Nat.le_of_ble_eq_true rfl⟩ rfl (Nat.le_of_ble_eq_true rfl) dX9_layWorlds_353 (fun h353 => ?_)
                                                      rw [hE4]
                                                      refine q_iadd F dX9_layWorlds_356 ?_
                                                      refine q_dup2 F dX9_layWorlds_357 rfl rfl ?_
                                                      refine q_iald F hm.2.2.2.2.2.2.2.2.2.2.2.2.2.2.1 (Nat.le_of_ble_eq_true rfl) (by omega) dX9_layWorlds_358 (fun h358 => ?_)
                                                      refine q_iconst F dX9_layWorlds_359 ?_
                                                      refine q_iadd F dX9_layWorlds_360 ?_
                                                      refine q_iast F hm.2.2.2.2.2.2.2.2.2.2.2.2.2.2.1 (Nat.le_of_ble_eq_true rfl) (by omega) (by omega) dX9_layWorlds_361 (fun N361 eN361 => ?_)
                                                      obtain ⟨v362, e362⟩ : ∃ z_ : Int, z_ = p + 1 := ⟨_, rfl⟩
                                                      refine q_iinc F dX9_layWorlds_362 4 rfl e362 [(6, .int (q_I v362)), (0, .ref (q_ad G 0)), (1, .int (q_I v9)), (2, .int (q_I c)), (3, .int (q_I r))] (Nat.le_of_ble_eq_true rfl) rfl ?_
                                                      refine q_goto F 332 dX9_layWorlds_365 (by decide) ?_
                                                      refine q_drop [1, 2, 3, 4, 0] rfl ?_
                                                      exact ih332_8 _ (by omega) v362 N361 ⟨by omega, fun j hj => by rw [eN361, q_up_ne hj]; exact hi332.2.1 j hj, fun y z y0 y1 z0 z1 => by
                                                            rw [eN361, q_up_at]
                                                            have hh := hi332.2.2 y z y0 y1 z0 z1
                                                            by_cases hy : y = p
                                                            · by_cases hz : z = (q_eT (M 1) (M 2) (M 3) (M 0 0) (M 0 4) v9 r) p
                                                              · rw [if_pos (by rw [hy, hz]), if_pos ⟨by omega, by rw [hy, hz]⟩, cv, hy, hz]
                                                                omega
                                                              · rw [if_neg (by rw [hy]; omega), hh, if_neg (fun h => by omega), if_neg (fun h => hz (by rw [← h.2, hy]))]
                                                            · rw [if_neg (by omega), hh]
                                                              by_cases hz : (q_eT (M 1) (M 2) (M 3) (M 0 0) (M 0 4) v9 r) y = z
                                                              · by_cases hl : y < p
                                                                · rw [if_pos ⟨hl, hz⟩, if_pos ⟨by omega, hz⟩]
                                                                · rw [if_neg (fun h => hl h.1), if_neg (fun h => by omega)]
                                                              · rw [if_neg (fun h => hz h.2), if_neg (fun h => hz h.2)]⟩ rfl
                                                refine q_drop [1, 2, 3, 4, 0] rfl ?_
                                                exact lp332_8 _ 1 M3 ⟨by omega, fun _ _ => rfl, fun y z y0 y1 z0 z1 => by rw [if_neg (fun h => by omega), Int.add_zero]⟩ rfl
                                              · refine q_aload_n F dX9_layWorlds_241 0 rfl ?_
                                                refine q_getr (T := TX9) (ref := "LeastHungryModel") F huX9 rfl hm.1 20 (by decide) (by decide +kernel) rfl rfl dX9_layWorlds_242 ?_
                                                refine q_iload F dX9_layWorlds_245 4 rfl ?_
                                                refine q_aload_n F dX9_layWorlds_247 0 rfl ?_
                                                refine q_getr (T := TX9) (ref := "LeastHungryModel") F huX9 rfl hm.1 10 (by decide) (by decide +kernel) rfl rfl dX9_layWorlds_248 ?_
                                                refine q_iload F dX9_layWorlds_251 4 rfl ?_
                                                refine q_iald F hm.2.2.2.2.2.2.2.1 (Nat.le_of_ble_eq_true rfl) (by omega) dX9_layWorlds_253 (fun h253 => ?_)
                                                refine q_aload_n F dX9_layWorlds_254 0 rfl ?_
                                                refine q_getr (T := TX9) (ref := "LeastHungryModel") F huX9 rfl hm.1 20 (by decide) (by decide +kernel) rfl rfl dX9_layWorlds_255 ?_
                                                refine q_iload F dX9_layWorlds_258 4 rfl ?_
                                                refine q_iald F hm.2.2.2.2.2.2.2.2.2.2.2.2.1 (Nat.le_of_ble_eq_true rfl) (by omega) dX9_layWorlds_260 (fun h260 => ?_)
                                                refine q_icmp_ge F 274 dX9_layWorlds_261 (by decide) (by omega) (fun c261 => ?_) (fun c261 => ?_)
                                                · refine q_aload_n F dX9_layWorlds_274 0 rfl ?_
                                                  refine q_getr (T := TX9) (ref := "LeastHungryModel") F huX9 rfl hm.1 20 (by decide) (by decide +kernel) rfl rfl dX9_layWorlds_275 ?_
                                                  refine q_iload F dX9_layWorlds_278 4 rfl ?_
                                                  refine q_iald F hm.2.2.2.2.2.2.2.2.2.2.2.2.1 (Nat.le_of_ble_eq_true rfl) (by omega) dX9_layWorlds_280 (fun h280 => ?_)
                                                  refine q_iast F hm.2.2.2.2.2.2.2.2.2.2.2.2.1 (Nat.le_of_ble_eq_true rfl) (by omega) (by omega) dX9_layWorlds_281 (fun N281 eN281 => ?_)
                                                  refine q_aload_n F dX9_layWorlds_282 0 rfl ?_
                                                  refine q_getr (T := TX9) (ref := "LeastHungryModel") F huX9 rfl hm.1 21 (by decide) (by decide +kernel) rfl rfl dX9_layWorlds_283 ?_
                                                  refine q_iload F dX9_layWorlds_286 4 rfl ?_
                                                  refine q_aload_n F dX9_layWorlds_288 0 rfl ?_
                                                  refine q_getr (T := TX9) (ref := "LeastHungryModel") F huX9 rfl hm.1 10 (by decide) (by decide +kernel) rfl rfl dX9_layWorlds_289 ?_
                                                  refine q_iload F dX9_layWorlds_292 4 rfl ?_
                                                  refine q_iald F hm.2.2.2.2.2.2.2.1 (Nat.le_of_ble_eq_true rfl) (by omega) dX9_layWorlds_294 (fun h294 => ?_)
                                                  refine q_aload_n F dX9_layWorlds_295 0 rfl ?_
                                                  refine q_getr (T := TX9) (ref := "LeastHungryModel") F huX9 rfl hm.1 21 (by decide) (by decide +kernel) rfl rfl dX9_layWorlds_296 ?_
                                                  refine q_iload F dX9_layWorlds_299 4 rfl ?_
                                                  refine q_iald F hm.2.2.2.2.2.2.2.2.2.2.2.2.2.1 (Nat.le_of_ble_eq_true rfl) (by omega) dX9_layWorlds_301 (fun h301 => ?_)
                                                  refine q_icmp_le F 315 dX9_layWorlds_302 (by decide) (by omega) (fun c302 => ?_) (fun c302 => ?_)
                                                  · refine q_aload_n F dX9_layWorlds_315 0 rfl ?_
                                                    refine q_getr (T := TX9) (ref := "LeastHungryModel") F huX9 rfl hm.1 21 (by decide) (by decide +kernel) rfl rfl dX9_layWorlds_316 ?_
                                                    refine q_iload F dX9_layWorlds_319 4 rfl ?_
                                                    refine q_iald F hm.2.2.2.2.2.2.2.2.2.2.2.2.2.1 (Nat.le_of_ble_eq_true rfl) (by omega) dX9_layWorlds_321 (fun h321 => ?_)
                                                    refine q_iast F hm.2.2.2.2.2.2.2.2.2.2.2.2.2.1 (Nat.le_of_ble_eq_true rfl) (by omega) (by omega) dX9_layWorlds_322 (fun N322 eN322 => ?_)
                                                    obtain ⟨v323, e323⟩ : ∃ z_ : Int, z_ = x + 1 := ⟨_, rfl⟩
                                                    refine q_iinc F dX9_layWorlds_323 4 rfl e323 [(6, .int (q_I v323)), (0, .ref (q_ad G 0)), (1, .int (q_I v9)), (2, .int (q_I c)), (3, .int (q_I r))] (Nat.le_of_ble_eq_true rfl) rfl ?_
                                                    refine q_goto F 234 dX9_layWorlds_326 (by decide) ?_
                                                    refine q_drop [1, 2, 3, 4, 0] rfl ?_
                                                    obtain ⟨u1, u2, u3, u4, u5⟩ := hi234
                                                    have s7 : M3 7 = M2 7 := by rw [u2 7 (by omega) (by omega), eN228, q_up_ne (by omega)]
                                                    have s12 := (u5 x (by omega) (by omega)).1
                                                    have s13 := (u5 x (by omega) (by omega)).2
                                                    have n7 : N281 7 = M2 7 := by rw [eN281, q_up_ne (by omega), s7]
                                                    have n13 : N281 13 = M3 13 := by rw [eN281, q_up_ne (by omega)]
                                                    have a7 : M3 7 x = M2 7 x := by rw [s7]
                                                    have b7 : N281 7 x = M2 7 x := by rw [n7]
                                                    have b13 : N281 13 x = M2 13 x := by rw [n13, s13]
                                                    exact ih234_7 _ (by omega) v323 N322 ⟨by omega, fun j a b => by rw [eN322, q_up_ne b, eN281, q_up_ne a]; exact u2 j a b, fun y h0 h1 => by
                                                          rw [eN322, q_up_ne (by omega), eN281, q_up_at]
                                                          by_cases hy : y = x
                                                          · rw [if_pos hy, hy]; omega
                                                          · rw [if_neg hy]; exact u3 y h0 (by omega), fun y h0 h1 => by
                                                          rw [eN322, q_up_at]
                                                          by_cases hy : y = x
                                                          · rw [if_pos hy, hy]; omega
                                                          · rw [if_neg hy, eN281, q_up_ne (by omega)]; exact u4 y h0 (by omega), fun y h0 h1 => by
                                                          rw [eN322, q_up_ne (by omega), q_up_at, if_neg (by omega), eN281, q_up_at, if_neg (by omega), q_up_ne (by omega)]
                                                          exact u5 y (by omega) h1⟩ rfl
                                                  · refine q_aload_n F dX9_layWorlds_305 0 rfl ?_
                                                    refine q_getr (T := TX9) (ref := "LeastHungryModel") F huX9 rfl hm.1 10 (by decide) (by decide +kernel) rfl rfl dX9_layWorlds_306 ?_
                                                    refine q_iload F dX9_layWorlds_309 4 rfl ?_
                                                    refine q_iald F hm.2.2.2.2.2.2.2.1 (Nat.le_of_ble_eq_true rfl) (by omega) dX9_layWorlds_311 (fun h311 => ?_)
                                                    refine q_goto F 322 dX9_layWorlds_312 (by decide) ?_
                                                    refine q_iast F hm.2.2.2.2.2.2.2.2.2.2.2.2.2.1 (Nat.le_of_ble_eq_true rfl) (by omega) (by omega) dX9_layWorlds_322 (fun N322 eN322 => ?_)
                                                    obtain ⟨v323, e323⟩ : ∃ z_ : Int, z_ = x + 1 := ⟨_, rfl⟩
                                                    refine q_iinc F dX9_layWorlds_323 4 rfl e323 [(6, .int (q_I v323)), (0, .ref (q_ad G 0)), (1, .int (q_I v9)), (2, .int (q_I c)), (3, .int (q_I r))] (Nat.le_of_ble_eq_true rfl) rfl ?_
                                                    refine q_goto F 234 dX9_layWorlds_326 (by decide) ?_
                                                    refine q_drop [1, 2, 3, 4, 0] rfl ?_
                                                    obtain ⟨u1, u2, u3, u4, u5⟩ := hi234
                                                    have s7 : M3 7 = M2 7 := by rw [u2 7 (by omega) (by omega), eN228, q_up_ne (by omega)]
                                                    have s12 := (u5 x (by omega) (by omega)).1
                                                    have s13 := (u5 x (by omega) (by omega)).2
                                                    have n7 : N281 7 = M2 7 := by rw [eN281, q_up_ne (by omega), s7]
                                                    have n13 : N281 13 = M3 13 := by rw [eN281, q_up_ne (by omega)]
                                                    have a7 : M3 7 x = M2 7 x := by rw [s7]
                                                    have b7 : N281 7 x = M2 7 x := by rw [n7]
                                                    have b13 : N281 13 x = M2 13 x := by rw [n13, s13]
                                                    exact ih234_7 _ (by omega) v323 N322 ⟨by omega, fun j a b => by rw [eN322, q_up_ne b, eN281, q_up_ne a]; exact u2 j a b, fun y h0 h1 => by
                                                          rw [eN322, q_up_ne (by omega), eN281, q_up_at]
                                                          by_cases hy : y = x
                                                          · rw [if_pos hy, hy]; omega
                                                          · rw [if_neg hy]; exact u3 y h0 (by omega), fun y h0 h1 => by
                                                          rw [eN322, q_up_at]
                                                          by_cases hy : y = x
                                                          · rw [if_pos hy, hy]; omega
                                                          · rw [if_neg hy, eN281, q_up_ne (by omega)]; exact u4 y h0 (by omega), fun y h0 h1 => by
                                                          rw [eN322, q_up_ne (by omega), q_up_at, if_neg (by omega), eN281, q_up_at, if_neg (by omega), q_up_ne (by omega)]
                                                          exact u5 y (by omega) h1⟩ rfl
                                                · refine q_aload_n F dX9_layWorlds_264 0 rfl ?_
                                                  refine q_getr (T := TX9) (ref := "LeastHungryModel") F huX9 rfl hm.1 10 (by decide) (by decide +kernel) rfl rfl dX9_layWorlds_265 ?_
                                                  refine q_iload F dX9_layWorlds_268 4 rfl ?_
                                                  refine q_iald F hm.2.2.2.2.2.2.2.1 (Nat.le_of_ble_eq_true rfl) (by omega) dX9_layWorlds_270 (fun h270 => ?_)
                                                  refine q_goto F 281 dX9_layWorlds_271 (by decide) ?_
                                                  refine q_iast F hm.2.2.2.2.2.2.2.2.2.2.2.2.1 (Nat.le_of_ble_eq_true rfl) (by omega) (by omega) dX9_layWorlds_281 (fun N281 eN281 => ?_)
                                                  refine q_aload_n F dX9_layWorlds_282 0 rfl ?_
                                                  refine q_getr (T := TX9) (ref := "LeastHungryModel") F huX9 rfl hm.1 21 (by decide) (by decide +kernel) rfl rfl dX9_layWorlds_283 ?_
                                                  refine q_iload F dX9_layWorlds_286 4 rfl ?_
                                                  refine q_aload_n F dX9_layWorlds_288 0 rfl ?_
                                                  refine q_getr (T := TX9) (ref := "LeastHungryModel") F huX9 rfl hm.1 10 (by decide) (by decide +kernel) rfl rfl dX9_layWorlds_289 ?_
                                                  refine q_iload F dX9_layWorlds_292 4 rfl ?_
                                                  refine q_iald F hm.2.2.2.2.2.2.2.1 (Nat.le_of_ble_eq_true rfl) (by omega) dX9_layWorlds_294 (fun h294 => ?_)
                                                  refine q_aload_n F dX9_layWorlds_295 0 rfl ?_
                                                  refine q_getr (T := TX9) (ref := "LeastHungryModel") F huX9 rfl hm.1 21 (by decide) (by decide +kernel) rfl rfl dX9_layWorlds_296 ?_
                                                  refine q_iload F dX9_layWorlds_299 4 rfl ?_
                                                  refine q_iald F hm.2.2.2.2.2.2.2.2.2.2.2.2.2.1 (Nat.le_of_ble_eq_true rfl) (by omega) dX9_layWorlds_301 (fun h301 => ?_)
                                                  refine q_icmp_le F 315 dX9_layWorlds_302 (by decide) (by omega) (fun c302 => ?_) (fun c302 => ?_)
                                                  · refine q_aload_n F dX9_layWorlds_315 0 rfl ?_
                                                    refine q_getr (T := TX9) (ref := "LeastHungryModel") F huX9 rfl hm.1 21 (by decide) (by decide +kernel) rfl rfl dX9_layWorlds_316 ?_
                                                    refine q_iload F dX9_layWorlds_319 4 rfl ?_
                                                    refine q_iald F hm.2.2.2.2.2.2.2.2.2.2.2.2.2.1 (Nat.le_of_ble_eq_true rfl) (by omega) dX9_layWorlds_321 (fun h321 => ?_)
                                                    refine q_iast F hm.2.2.2.2.2.2.2.2.2.2.2.2.2.1 (Nat.le_of_ble_eq_true rfl) (by omega) (by omega) dX9_layWorlds_322 (fun N322 eN322 => ?_)
                                                    obtain ⟨v323, e323⟩ : ∃ z_ : Int, z_ = x + 1 := ⟨_, rfl⟩
                                                    refine q_iinc F dX9_layWorlds_323 4 rfl e323 [(6, .int (q_I v323)), (0, .ref (q_ad G 0)), (1, .int (q_I v9)), (2, .int (q_I c)), (3, .int (q_I r))] (Nat.le_of_ble_eq_true rfl) rfl ?_
                                                    refine q_goto F 234 dX9_layWorlds_326 (by decide) ?_
                                                    refine q_drop [1, 2, 3, 4, 0] rfl ?_
                                                    obtain ⟨u1, u2, u3, u4, u5⟩ := hi234
                                                    have s7 : M3 7 = M2 7 := by rw [u2 7 (by omega) (by omega), eN228, q_up_ne (by omega)]
                                                    have s12 := (u5 x (by omega) (by omega)).1
                                                    have s13 := (u5 x (by omega) (by omega)).2
                                                    have n7 : N281 7 = M2 7 := by rw [eN281, q_up_ne (by omega), s7]
                                                    have n13 : N281 13 = M3 13 := by rw [eN281, q_up_ne (by omega)]
                                                    have a7 : M3 7 x = M2 7 x := by rw [s7]
                                                    have b7 : N281 7 x = M2 7 x := by rw [n7]
                                                    have b13 : N281 13 x = M2 13 x := by rw [n13, s13]
                                                    exact ih234_7 _ (by omega) v323 N322 ⟨by omega, fun j a b => by rw [eN322, q_up_ne b, eN281, q_up_ne a]; exact u2 j a b, fun y h0 h1 => by
                                                          rw [eN322, q_up_ne (by omega), eN281, q_up_at]
                                                          by_cases hy : y = x
                                                          · rw [if_pos hy, hy]; omega
                                                          · rw [if_neg hy]; exact u3 y h0 (by omega), fun y h0 h1 => by
                                                          rw [eN322, q_up_at]
                                                          by_cases hy : y = x
                                                          · rw [if_pos hy, hy]; omega
                                                          · rw [if_neg hy, eN281, q_up_ne (by omega)]; exact u4 y h0 (by omega), fun y h0 h1 => by
                                                          rw [eN322, q_up_ne (by omega), q_up_at, if_neg (by omega), eN281, q_up_at, if_neg (by omega), q_up_ne (by omega)]
                                                          exact u5 y (by omega) h1⟩ rfl
                                                  · refine q_aload_n F dX9_layWorlds_305 0 rfl ?_
                                                    refine q_getr (T := TX9) (ref := "LeastHungryModel") F huX9 rfl hm.1 10 (by decide) (by decide +kernel) rfl rfl dX9_layWorlds_306 ?_
                                                    refine q_iload F dX9_layWorlds_309 4 rfl ?_
                                                    refine q_iald F hm.2.2.2.2.2.2.2.1 (Nat.le_of_ble_eq_true rfl) (by omega) dX9_layWorlds_311 (fun h311 => ?_)
                                                    refine q_goto F 322 dX9_layWorlds_312 (by decide) ?_
                                                    refine q_iast F hm.2.2.2.2.2.2.2.2.2.2.2.2.2.1 (Nat.le_of_ble_eq_true rfl) (by omega) (by omega) dX9_layWorlds_322 (fun N322 eN322 => ?_)
                                                    obtain ⟨v323, e323⟩ : ∃ z_ : Int, z_ = x + 1 := ⟨_, rfl⟩
                                                    refine q_iinc F dX9_layWorlds_323 4 rfl e323 [(6, .int (q_I v323)), (0, .ref (q_ad G 0)), (1, .int (q_I v9)), (2, .int (q_I c)), (3, .int (q_I r))] (Nat.le_of_ble_eq_true rfl) rfl ?_
                                                    refine q_goto F 234 dX9_layWorlds_326 (by decide) ?_
                                                    refine q_drop [1, 2, 3, 4, 0] rfl ?_
                                                    obtain ⟨u1, u2, u3, u4, u5⟩ := hi234
                                                    have s7 : M3 7 = M2 7 := by rw [u2 7 (by omega) (by omega), eN228, q_up_ne (by omega)]
                                                    have s12 := (u5 x (by omega) (by omega)).1
                                                    have s13 := (u5 x (by omega) (by omega)).2
                                                    have n7 : N281 7 = M2 7 := by rw [eN281, q_up_ne (by omega), s7]
                                                    have n13 : N281 13 = M3 13 := by rw [eN281, q_up_ne (by omega)]
                                                    have a7 : M3 7 x = M2 7 x := by rw [s7]
                                                    have b7 : N281 7 x = M2 7 x := by rw [n7]
                                                    have b13 : N281 13 x = M2 13 x := by rw [n13, s13]
                                                    exact ih234_7 _ (by omega) v323 N322 ⟨by omega, fun j a b => by rw [eN322, q_up_ne b, eN281, q_up_ne a]; exact u2 j a b, fun y h0 h1 => by
                                                          rw [eN322, q_up_ne (by omega), eN281, q_up_at]
                                                          by_cases hy : y = x
                                                          · rw [if_pos hy, hy]; omega
                                                          · rw [if_neg hy]; exact u3 y h0 (by omega), fun y h0 h1 => by
                                                          rw [eN322, q_up_at]
                                                          by_cases hy : y = x
                                                          · rw [if_pos hy, hy]; omega
                                                          · rw [if_neg hy, eN281, q_up_ne (by omega)]; exact u4 y h0 (by omega), fun y h0 h1 => by
                                                          rw [eN322, q_up_ne (by omega), q_up_at, if_neg (by omega), eN281, q_up_at, if_neg (by omega), q_up_ne (by omega)]
                                                          exact u5 y (by omega) h1⟩ rfl
                                          refine q_drop [1, 2, 3, 4, 0] rfl ?_
                                          exact lp234_7 _ 0 N228 ⟨by omega, fun _ _ _ => rfl, fun y h0 h1 => by omega, fun y h0 h1 => by omega, fun y h0 h1 => by rw [eN228, q_up_ne (by omega), q_up_ne (by omega)]; exact ⟨rfl, rfl⟩⟩ rfl
                                      · refine q_iload F dX9_layWorlds_169 4 rfl ?_
                                        refine q_if_eq F 216 dX9_layWorlds_171 (by decide) (by omega) (fun c171 => ?_) (fun c171 => ?_)
                                        · have hal : al = q_b (q_fit (fun i => M 5 (2 * i)) (fun i => M 5 (2 * i + 1)) (q_eT (M 1) (M 2) (M 3) (M 0 0) (M 0 4) v9 r) k.toNat) := hi160.2
                                          refine q_iload F dX9_layWorlds_216 4 rfl ?_
                                          refine q_if_eq F 368 dX9_layWorlds_218 (by decide) (by omega) (fun c218 => ?_) (fun c218 => ?_)
                                          · obtain ⟨v368, e368⟩ : ∃ z_ : Int, z_ = r + 1 := ⟨_, rfl⟩
                                            refine q_iinc F dX9_layWorlds_368 3 rfl e368 [(3, .int (q_I v368)), (0, .ref (q_ad G 0)), (1, .int (q_I v9)), (2, .int (q_I c)), (5, .int (q_I al)), (6, .int (q_I k))] (Nat.le_of_ble_eq_true rfl) rfl ?_
                                            refine q_goto F 102 dX9_layWorlds_371 (by decide) ?_
                                            refine q_drop [1, 2, 3, 0] rfl ?_
                                            exact ih102_4 _ (by omega) v368 M2 ⟨by omega, by
                                                  have hnf : (q_efit (M 1) (M 2) (M 3) (M 0 0) (M 0 4) v9 (fun i => M 5 (2 * i)) (fun i => M 5 (2 * i + 1)) (M 0 6)) r = false := by
                                                    unfold q_efit
                                                    rw [← Int.toNat_of_nonneg k1.1]
                                                    rw [Int.toNat_of_nonneg k1.1]
                                                    refine q_fit_mono (k := k.toNat) _ (by omega) ((q_b0 _).mp (by rw [← hal]; exact c218)) 
                                                  rw [e368, show (r + 1).toNat = r.toNat + 1 by omega]
                                                  refine q_EK_no k3 (by rw [Int.toNat_of_nonneg k1.1]; exact hnf) (by rw [i3 0 (by omega)]) (fun j hj => i3 j (by omega)), fun j a b c dd e => by rw [i3 j b]; exact k4 j a b c dd e, fun i hi => by rw [i3 0 (by omega)]; exact k5 i hi, fun x h0 h1 hx => by rw [hE x h0 h1]; unfold q_E6; rw [hx]; rfl⟩ rfl
                                          · have hkn : M 0 6 ≤ k ∨ al = 0 := by
                                              have := f2 6 (by omega)
                                              first
                                              | exact Or.inl (by omega)
                                              | exact Or.inr (by omega)
                                            have hyf : (q_efit (M 1) (M 2) (M 3) (M 0 0) (M 0 4) v9 (fun i => M 5 (2 * i)) (fun i => M 5 (2 * i + 1)) (M 0 6)) r = true := by
                                              unfold q_efit
                                              have hke : k = M 0 6 := by
                                                have := hi160.1
                                                omega
                                              rw [← hke]
                                              cases hq : q_fit (fun i => M 5 (2 * i)) (fun i => M 5 (2 * i + 1)) (q_eT (M 1) (M 2) (M 3) (M 0 0) (M 0 4) v9 r) k.toNat
                                              · rw [hal, hq] at c218
                                                exact absurd rfl c218
                                              · rfl
                                            have ek := q_EK_R k3
                                            rw [Int.toNat_of_nonneg k1.1] at ek
                                            have ek19 : 0 ≤ M2 0 19 ∧ M2 0 19 ≤ r := by rw [i3 0 (by omega)]; exact ek.1
                                            refine q_aload_n F dX9_layWorlds_221 0 rfl ?_
                                            refine q_dup F dX9_layWorlds_222 rfl ?_
                                            refine q_geti (T := TX9) (ref := "LeastHungryModel") F huX9 rfl hm.1 19 (by decide) (by decide +kernel) rfl 19 rfl rfl dX9_layWorlds_223 (fun h223 => ?_)
                                            refine q_iconst F dX9_layWorlds_226 ?_
                                            refine q_iadd F dX9_layWorlds_227 ?_
                                            refine q_puti (T := TX9) (ref := "LeastHungryModel") F huX9 rfl hm.1 19 (by decide) (by decide +kernel) rfl 19 rfl tyX9 tyX9_ok nmX9 rfl rfl (by decide +kernel) (by omega) dX9_layWorlds_228 (fun N228 eN228 => ?_)
                                            refine q_iconst F dX9_layWorlds_231 ?_
                                            refine q_istore F dX9_layWorlds_232 [(6, .int (q_I 0)), (0, .ref (q_ad G 0)), (1, .int (q_I v9)), (2, .int (q_I c)), (3, .int (q_I r)), (5, .int (q_I al))] (Nat.le_of_ble_eq_true rfl) rfl ?_
                                            have lp234_9 : ∀ (k234_9 : Nat) (x : Int) (M3 : q_M), ((0 ≤ x ∧ x ≤ 6) ∧ (∀ j, j ≠ 12 → j ≠ 13 → M3 j = N228 j) ∧ (∀ y, 0 ≤ y → y < x → M3 12 y = min (M2 12 y) (M2 7 y)) ∧ (∀ y, 0 ≤ y → y < x → M3 13 y = max (M2 13 y) (M2 7 y)) ∧ (∀ y, x ≤ y → y < 6 → M3 12 y = M2 12 y ∧ M3 13 y = M2 13 y)) → (6 - x).toNat = k234_9 → q_Y G E 7 M3 [(0, .ref (q_ad G 0)), (1, .int (q_I v9)), (2, .int (q_I c)), (3, .int (q_I r)), (6, .int (q_I x))] 234 [] := by
                                              intro k234_9
                                              induction k234_9 using Nat.strongRecOn with
                                              | _ k234_9 ih234_9 =>
                                                intro x  M3 hi234 hk234
                                                refine q_MRof (fun hM234 => ?_)
                                                refine q_iload F dX9_layWorlds_234 4 rfl ?_
                                                refine q_bipush F dX9_layWorlds_236 (by decide) ?_
                                                refine q_icmp_ge F 329 dX9_layWorlds_238 (by decide) (by omega) (fun c238 => ?_) (fun c238 => ?_)
                                                · refine q_iconst F dX9_layWorlds_329 ?_
                                                  refine q_istore F dX9_layWorlds_330 [(6, .int (q_I 1)), (0, .ref (q_ad G 0)), (1, .int (q_I v9)), (2, .int (q_I c)), (3, .int (q_I r))] (Nat.le_of_ble_eq_true rfl) rfl ?_
                                                  have lp332_10 : ∀ (k332_10 : Nat) (p : Int) (M4 : q_M), ((1 ≤ p ∧ p ≤ 10) ∧ (∀ j, j ≠ 14 → M4 j = M3 j) ∧ (∀ y z, 1 ≤ y → y ≤ 9 → 0 ≤ z → z ≤ 63 → M4 14 (64 * y + z) = M3 14 (64 * y + z) + (if y < p ∧ (q_eT (M 1) (M 2) (M 3) (M 0 0) (M 0 4) v9 r) y = z then 1 else 0))) → (10 - p).toNat = k332_10 → q_Y G E 7 M4 [(0, .ref (q_ad G 0)), (1, .int (q_I v9)), (2, .int (q_I c)), (3, .int (q_I r)), (6, .int (q_I p))] 332 [] := by
                                                    intro k332_10
                                                    induction k332_10 using Nat.strongRecOn with
                                                    | _ k332_10 ih332_10 =>
                                                      intro p  M4 hi332 hk332
                                                      refine q_MRof (fun hM332 => ?_)
                                                      refine q_iload F dX9_layWorlds_332 4 rfl ?_
                                                      refine q_bipush F dX9_layWorlds_334 (by decide) ?_
                                                      refine q_icmp_ge F 368 dX9_layWorlds_336 (by decide) (by omega) (fun c336 => ?_) (fun c336 => ?_)
                                                      · obtain ⟨v368, e368⟩ : ∃ z_ : Int, z_ = r + 1 := ⟨_, rfl⟩
                                                        refine q_iinc F dX9_layWorlds_368 3 rfl e368 [(3, .int (q_I v368)), (0, .ref (q_ad G 0)), (1, .int (q_I v9)), (2, .int (q_I c)), (6, .int (q_I p))] (Nat.le_of_ble_eq_true rfl) rfl ?_
                                                        refine q_goto F 102 dX9_layWorlds_371 (by decide) ?_
                                                        refine q_drop [1, 2, 3, 0] rfl ?_
                                                        exact ih102_4 _ (by omega) v368 M4 ⟨by omega, by
                                                              rw [e368, show (r + 1).toNat = r.toNat + 1 by omega]
                                                              obtain ⟨u1, u2, u3, u4, u5⟩ := hi234
                                                              obtain ⟨t1, t2, t3⟩ := hi332
                                                              refine q_EK_yes k3 (by rw [Int.toNat_of_nonneg k1.1]; exact hyf) ?_ (fun x x0 x1 => ?_) (fun x x0 x1 => ?_) (fun y z y0 y1 z0 z1 => ?_)
                                                              · rw [t2 0 (by omega), u2 0 (by omega) (by omega), eN228, q_up_at, if_pos rfl, i3 0 (by omega)]
                                                              · rw [t2 12 (by omega), u3 x x0 (by omega), i3 12 (by omega), Int.toNat_of_nonneg k1.1, ← hE x x0 x1]
                                                              · rw [t2 13 (by omega), u4 x x0 (by omega), i3 13 (by omega), Int.toNat_of_nonneg k1.1, ← hE x x0 x1]
                                                              · rw [t3 y z y0 y1 z0 z1, u2 14 (by omega) (by omega), eN228, q_up_ne (by omega), i3 14 (by omega), Int.toNat_of_nonneg k1.1]
                                                                by_cases hq : (q_eT (M 1) (M 2) (M 3) (M 0 0) (M 0 4) v9 r) y = z
                                                                · rw [if_pos ⟨by omega, hq⟩, if_pos hq]
                                                                · rw [if_neg (fun h => hq h.2), if_neg hq], fun j a b c dd e => by rw [hi332.2.1 j e, hi234.2.1 j c dd, eN228, q_up_ne a, i3 j b]; exact k4 j a b c dd e, fun i hi => by rw [hi332.2.1 0 (by omega), hi234.2.1 0 (by omega) (by omega), eN228, q_up_at, if_neg hi, i3 0 (by omega)]; exact k5 i hi, fun x h0 h1 hx => by rw [hi332.2.1 7 (by omega), hi234.2.1 7 (by omega) (by omega), eN228, q_up_ne (by omega), hE x h0 h1]; unfold q_E6; rw [hx]; rfl⟩ rfl
                                                      · have z14 : ∀ y z, 1 ≤ y → y ≤ 9 → 0 ≤ z → z ≤ 63 → 0 ≤ M3 14 (64 * y + z) ∧ M3 14 (64 * y + z) ≤ r := fun y z y0 y1 z0 z1 => by
                                                          rw [hi234.2.1 14 (by omega) (by omega), eN228, q_up_ne (by omega), i3 14 (by omega)]
                                                          exact ek.2 y z y0 y1 z0 z1
                                                        have e33 : ∀ j, j ≠ 0 → j ≠ 12 → j ≠ 13 → j ≠ 14 → M4 j = M2 j := fun j a b c dd => by rw [hi332.2.1 j dd, hi234.2.1 j b c, eN228, q_up_ne a]
                                                        have e30 : ∀ i, i ≠ 19 → M4 0 i = M2 0 i := fun i hi => by rw [hi332.2.1 0 (by omega), hi234.2.1 0 (by omega) (by omega), eN228, q_up_at, if_neg hi]
                                                        have hE4 : q_set (q_ru (M4 7) (M4 8) (M4 9) (M4 0 0) (M4 0 4) 0 0 p) = (q_eT (M 1) (M 2) (M 3) (M 0 0) (M 0 4) v9 r) p := by
                                                          rw [e33 7 (by omega) (by omega) (by omega) (by omega), e33 8 (by omega) (by omega) (by omega) (by omega), e33 9 (by omega) (by omega) (by omega) (by omega), e30 0 (by omega), e30 4 (by omega)]
                                                          exact hETp p
                                                        have zv4 : q_zv M4 := by
                                                          refine ⟨⟨?_, ?_⟩, ?_, ?_, ?_⟩
                                                          · rw [e30 0 (by omega)]; exact zv2.1.1
                                                          · rw [e30 4 (by omega)]; exact zv2.1.2
                                                          · rw [e33 7 (by omega) (by omega) (by omega) (by omega)]; exact zv2.2.1
                                                          · rw [e33 8 (by omega) (by omega) (by omega) (by omega)]; exact zv2.2.2.1
                                                          · rw [e33 9 (by omega) (by omega) (by omega) (by omega)]; exact zv2.2.2.2
                                                        have hE4R := q_set_R (q_ru (M4 7) (M4 8) (M4 9) (M4 0 0) (M4 0 4) 0 0 p)
                                                        have hETR : 0 ≤ (q_eT (M 1) (M 2) (M 3) (M 0 0) (M 0 4) v9 r) p ∧ (q_eT (M 1) (M 2) (M 3) (M 0 0) (M 0 4) v9 r) p ≤ 63 := by rw [← hE4]; exact hE4R
                                                        have cv := hi332.2.2 p ((q_eT (M 1) (M 2) (M 3) (M 0 0) (M 0 4) v9 r) p) (by omega) (by omega) hETR.1 hETR.2
                                                        rw [if_neg (fun h => by omega)] at cv
                                                        have cvR := z14 p ((q_eT (M 1) (M 2) (M 3) (M 0 0) (M 0 4) v9 r) p) (by omega) (by omega) hETR.1 hETR.2
                                                        refine q_aload_n F dX9_layWorlds_339 0 rfl ?_
                                                        refine q_getr (T := TX9) (ref := "LeastHungryModel") F huX9 rfl hm.1 22 (by decide) (by decide +kernel) rfl rfl dX9_layWorlds_340 ?_
                                                        refine q_bipush F dX9_layWorlds_343 (by decide) ?_
                                                        refine q_iload F dX9_layWorlds_345 4 rfl ?_
                                                        refine q_imul F dX9_layWorlds_347 ?_
                                                        refine q_aload_n F dX9_layWorlds_348 0 rfl ?_
                                                        refine q_iconst F dX9_layWorlds_349 ?_
                                                        refine q_iload F dX9_layWorlds_350 4 rfl ?_
                                                        refine q_iconst F dX9_layWorlds_352 ?_
                                                        refine q_callVP (n := 3) (T := TX9) F (c_X9_servedBy G hI M4 hm 0 p 0 zv4 (by omega)) rfl rfl hm.1 gX9_layWorlds_X9_servedBy rfl ⟨by decide, by decide, by decide +kernel⟩ rfl ⟨rfl, rfl, Nat.le_of_ble_eq_true rfl, Nat.le_of_ble_eq_true rfl⟩ rfl (Nat.le_of_ble_eq_true rfl) dX9_layWorlds_353 (fun h353 => ?_)
                                                        rw [hE4]
                                                        refine q_iadd F dX9_layWorlds_356 ?_
                                                        refine q_dup2 F dX9_layWorlds_357 rfl rfl ?_
                                                        refine q_iald F hm.2.2.2.2.2.2.2.2.2.2.2.2.2.2.1 (Nat.le_of_ble_eq_true rfl) (by omega) dX9_layWorlds_358 (fun h358 => ?_)
                                                        refine q_iconst F dX9_layWorlds_359 ?_
                                                        refine q_iadd F dX9_layWorlds_360 ?_
                                                        refine q_iast F hm.2.2.2.2.2.2.2.2.2.2.2.2.2.2.1 (Nat.le_of_ble_eq_true rfl) (by omega) (by omega) dX9_layWorlds_361 (fun N361 eN361 => ?_)
                                                        obtain ⟨v362, e362⟩ : ∃ z_ : Int, z_ = p + 1 := ⟨_, rfl⟩
                                                        refine q_iinc F dX9_layWorlds_362 4 rfl e362 [(6, .int (q_I v362)), (0, .ref (q_ad G 0)), (1, .int (q_I v9)), (2, .int (q_I c)), (3, .int (q_I r))] (Nat.le_of_ble_eq_true rfl) rfl ?_
                                                        refine q_goto F 332 dX9_layWorlds_365 (by decide) ?_
                                                        refine q_drop [1, 2, 3, 4, 0] rfl ?_
                                                        exact ih332_10 _ (by omega) v362 N361 ⟨by omega, fun j hj => by rw [eN361, q_up_ne hj]; exact hi332.2.1 j hj, fun y z y0 y1 z0 z1 => by
                                                              rw [eN361, q_up_at]
                                                              have hh := hi332.2.2 y z y0 y1 z0 z1
                                                              by_cases hy : y = p
                                                              · by_cases hz : z = (q_eT (M 1) (M 2) (M 3) (M 0 0) (M 0 4) v9 r) p
                                                                · rw [if_pos (by rw [hy, hz]), if_pos ⟨by omega, by rw [hy, hz]⟩, cv, hy, hz]
                                                                  omega
                                                                · rw [if_neg (by rw [hy]; omega), hh, if_neg (fun h => by omega), if_neg (fun h => hz (by rw [← h.2, hy]))]
                                                              · rw [if_neg (by omega), hh]
                                                                by_cases hz : (q_eT (M 1) (M 2) (M 3) (M 0 0) (M 0 4) v9 r) y = z
                                                                · by_cases hl : y < p
                                                                  · rw [if_pos ⟨hl, hz⟩, if_pos ⟨by omega, hz⟩]
                                                                  · rw [if_neg (fun h => hl h.1), if_neg (fun h => by omega)]
                                                                · rw [if_neg (fun h => hz h.2), if_neg (fun h => hz h.2)]⟩ rfl
                                                  refine q_drop [1, 2, 3, 4, 0] rfl ?_
                                                  exact lp332_10 _ 1 M3 ⟨by omega, fun _ _ => rfl, fun y z y0 y1 z0 z1 => by rw [if_neg (fun h => by omega), Int.add_zero]⟩ rfl
                                                · refine q_aload_n F dX9_layWorlds_241 0 rfl ?_
                                                  refine q_getr (T := TX9) (ref := "LeastHungryModel") F huX9 rfl hm.1 20 (by decide) (by decide +kernel) rfl rfl dX9_layWorlds_242 ?_
                                                  refine q_iload F dX9_layWorlds_245 4 rfl ?_
                                                  refine q_aload_n F dX9_layWorlds_247 0 rfl ?_
                                                  refine q_getr (T := TX9) (ref := "LeastHungryModel") F huX9 rfl hm.1 10 (by decide) (by decide +kernel) rfl rfl dX9_layWorlds_248 ?_
                                                  refine q_iload F dX9_layWorlds_251 4 rfl ?_
                                                  refine q_iald F hm.2.2.2.2.2.2.2.1 (Nat.le_of_ble_eq_true rfl) (by omega) dX9_layWorlds_253 (fun h253 => ?_)
                                                  refine q_aload_n F dX9_layWorlds_254 0 rfl ?_
                                                  refine q_getr (T := TX9) (ref := "LeastHungryModel") F huX9 rfl hm.1 20 (by decide) (by decide +kernel) rfl rfl dX9_layWorlds_255 ?_
                                                  refine q_iload F dX9_layWorlds_258 4 rfl ?_
                                                  refine q_iald F hm.2.2.2.2.2.2.2.2.2.2.2.2.1 (Nat.le_of_ble_eq_true rfl) (by omega) dX9_layWorlds_260 (fun h260 => ?_)
                                                  refine q_icmp_ge F 274 dX9_layWorlds_261 (by decide) (by omega) (fun c261 => ?_) (fun c261 => ?_)
                                                  · refine q_aload_n F dX9_layWorlds_274 0 rfl ?_
                                                    refine q_getr (T := TX9) (ref := "LeastHungryModel") F huX9 rfl hm.1 20 (by decide) (by decide +kernel) rfl rfl dX9_layWorlds_275 ?_
                                                    refine q_iload F dX9_layWorlds_278 4 rfl ?_
                                                    refine q_iald F hm.2.2.2.2.2.2.2.2.2.2.2.2.1 (Nat.le_of_ble_eq_true rfl) (by omega) dX9_layWorlds_280 (fun h280 => ?_)
                                                    refine q_iast F hm.2.2.2.2.2.2.2.2.2.2.2.2.1 (Nat.le_of_ble_eq_true rfl) (by omega) (by omega) dX9_layWorlds_281 (fun N281 eN281 => ?_)
                                                    refine q_aload_n F dX9_layWorlds_282 0 rfl ?_
                                                    refine q_getr (T := TX9) (ref := "LeastHungryModel") F huX9 rfl hm.1 21 (by decide) (by decide +kernel) rfl rfl dX9_layWorlds_283 ?_
                                                    refine q_iload F dX9_layWorlds_286 4 rfl ?_
                                                    refine q_aload_n F dX9_layWorlds_288 0 rfl ?_
                                                    refine q_getr (T := TX9) (ref := "LeastHungryModel") F huX9 rfl hm.1 10 (by decide) (by decide +kernel) rfl rfl dX9_layWorlds_289 ?_
                                                    refine q_iload F dX9_layWorlds_292 4 rfl ?_
                                                    refine q_iald F hm.2.2.2.2.2.2.2.1 (Nat.le_of_ble_eq_true rfl) (by omega) dX9_layWorlds_294 (fun h294 => ?_)
                                                    refine q_aload_n F dX9_layWorlds_295 0 rfl ?_
                                                    refine q_getr (T := TX9) (ref := "LeastHungryModel") F huX9 rfl hm.1 21 (by decide) (by decide +kernel) rfl rfl dX9_layWorlds_296 ?_
                                                    refine q_iload F dX9_layWorlds_299 4 rfl ?_
                                                    refine q_iald F hm.2.2.2.2.2.2.2.2.2.2.2.2.2.1 (Nat.le_of_ble_eq_true rfl) (by omega) dX9_layWorlds_301 (fun h301 => ?_)
                                                    refine q_icmp_le F 315 dX9_layWorlds_302 (by decide) (by omega) (fun c302 => ?_) (fun c302 => ?_)
                                                    · refine q_aload_n F dX9_layWorlds_315 0 rfl ?_
                                                      refine q_getr (T := TX9) (ref := "LeastHungryModel") F huX9 rfl hm.1 21 (by decide) (by decide +kernel) rfl rfl dX9_layWorlds_316 ?_
                                                      refine q_iload F dX9_layWorlds_319 4 rfl ?_
                                                      refine q_iald F hm.2.2.2.2.2.2.2.2.2.2.2.2.2.1 (Nat.le_of_ble_eq_true rfl) (by omega) dX9_layWorlds_321 (fun h321 => ?_)
                                                      refine q_iast F hm.2.2.2.2.2.2.2.2.2.2.2.2.2.1 (Nat.le_of_ble_eq_true rfl) (by omega) (by omega) dX9_layWorlds_322 (fun N322 eN322 => ?_)
                                                      obtain ⟨v323, e323⟩ : ∃ z_ : Int, z_ = x + 1 := ⟨_, rfl⟩
                                                      refine q_iinc F dX9_layWorlds_323 4 rfl e323 [(6, .int (q_I v323)), (0, .ref (q_ad G 0)), (1, .int (q_I v9)), (2, .int (q_I c)), (3, .int (q_I r))] (Nat.le_of_ble_eq_true rfl) rfl ?_
                                                      refine q_goto F 234 dX9_layWorlds_326 (by decide) ?_
                                                      refine q_drop [1, 2, 3, 4, 0] rfl ?_
                                                      obtain ⟨u1, u2, u3, u4, u5⟩ := hi234
                                                      have s7 : M3 7 = M2 7 := by rw [u2 7 (by omega) (by omega), eN228, q_up_ne (by omega)]
                                                      have s12 := (u5 x (by omega) (by omega)).1
                                                      have s13 := (u5 x (by omega) (by omega)).2
                                                      have n7 : N281 7 = M2 7 := by rw [eN281, q_up_ne (by omega), s7]
                                                      have n13 : N281 13 = M3 13 := by rw [eN281, q_up_ne (by omega)]
                                                      have a7 : M3 7 x = M2 7 x := by rw [s7]
                                                      have b7 : N281 7 x = M2 7 x := by rw [n7]
                                                      have b13 : N281 13 x = M2 13 x := by rw [n13, s13]
                                                      exact ih234_9 _ (by omega) v323 N322 ⟨by omega, fun j a b => by rw [eN322, q_up_ne b, eN281, q_up_ne a]; exact u2 j a b, fun y h0 h1 => by
                                                            rw [eN322, q_up_ne (by omega), eN281, q_up_at]
                                                            by_cases hy : y = x
                                                            · rw [if_pos hy, hy]; omega
                                                            · rw [if_neg hy]; exact u3 y h0 (by omega), fun y h0 h1 => by
                                                            rw [eN322, q_up_at]
                                                            by_cases hy : y = x
                                                            · rw [if_pos hy, hy]; omega
                                                            · rw [if_neg hy, eN281, q_up_ne (by omega)]; exact u4 y h0 (by omega), fun y h0 h1 => by
                                                            rw [eN322, q_up_ne (by omega), q_up_at, if_neg (by omega), eN281, q_up_at, if_neg (by omega), q_up_ne (by omega)]
                                                            exact u5 y (by omega) h1⟩ rfl
                                                    · refine q_aload_n F dX9_layWorlds_305 0 rfl ?_
                                                      refine q_getr (T := TX9) (ref := "LeastHungryModel") F huX9 rfl hm.1 10 (by decide) (by decide +kernel) rfl rfl dX9_layWorlds_306 ?_
                                                      refine q_iload F dX9_layWorlds_309 4 rfl ?_
                                                      refine q_iald F hm.2.2.2.2.2.2.2.1 (Nat.le_of_ble_eq_true rfl) (by omega) dX9_layWorlds_311 (fun h311 => ?_)
                                                      refine q_goto F 322 dX9_layWorlds_312 (by decide) ?_
                                                      refine q_iast F hm.2.2.2.2.2.2.2.2.2.2.2.2.2.1 (Nat.le_of_ble_eq_true rfl) (by omega) (by omega) dX9_layWorlds_322 (fun N322 eN322 => ?_)
                                                      obtain ⟨v323, e323⟩ : ∃ z_ : Int, z_ = x + 1 := ⟨_, rfl⟩
                                                      refine q_iinc F dX9_layWorlds_323 4 rfl e323 [(6, .int (q_I v323)), (0, .ref (q_ad G 0)), (1, .int (q_I v9)), (2, .int (q_I c)), (3, .int (q_I r))] (Nat.le_of_ble_eq_true rfl) rfl ?_
                                                      refine q_goto F 234 dX9_layWorlds_326 (by decide) ?_
                                                      refine q_drop [1, 2, 3, 4, 0] rfl ?_
                                                      obtain ⟨u1, u2, u3, u4, u5⟩ := hi234
                                                      have s7 : M3 7 = M2 7 := by rw [u2 7 (by omega) (by omega), eN228, q_up_ne (by omega)]
                                                      have s12 := (u5 x (by omega) (by omega)).1
                                                      have s13 := (u5 x (by omega) (by omega)).2
                                                      have n7 : N281 7 = M2 7 := by rw [eN281, q_up_ne (by omega), s7]
                                                      have n13 : N281 13 = M3 13 := by rw [eN281, q_up_ne (by omega)]
                                                      have a7 : M3 7 x = M2 7 x := by rw [s7]
                                                      have b7 : N281 7 x = M2 7 x := by rw [n7]
                                                      have b13 : N281 13 x = M2 13 x := by rw [n13, s13]
                                                      exact ih234_9 _ (by omega) v323 N322 ⟨by omega, fun j a b => by rw [eN322, q_up_ne b, eN281, q_up_ne a]; exact u2 j a b, fun y h0 h1 => by
                                                            rw [eN322, q_up_ne (by omega), eN281, q_up_at]
                                                            by_cases hy : y = x
                                                            · rw [if_pos hy, hy]; omega
                                                            · rw [if_neg hy]; exact u3 y h0 (by omega), fun y h0 h1 => by
                                                            rw [eN322, q_up_at]
                                                            by_cases hy : y = x
                                                            · rw [if_pos hy, hy]; omega
                                                            · rw [if_neg hy, eN281, q_up_ne (by omega)]; exact u4 y h0 (by omega), fun y h0 h1 => by
                                                            rw [eN322, q_up_ne (by omega), q_up_at, if_neg (by omega), eN281, q_up_at, if_neg (by omega), q_up_ne (by omega)]
                                                            exact u5 y (by omega) h1⟩ rfl
                                                  · refine q_aload_n F dX9_layWorlds_264 0 rfl ?_
                                                    refine q_getr (T := TX9) (ref := "LeastHungryModel") F huX9 rfl hm.1 10 (by decide) (by decide +kernel) rfl rfl dX9_layWorlds_265 ?_
                                                    refine q_iload F dX9_layWorlds_268 4 rfl ?_
                                                    refine q_iald F hm.2.2.2.2.2.2.2.1 (Nat.le_of_ble_eq_true rfl) (by omega) dX9_layWorlds_270 (fun h270 => ?_)
                                                    refine q_goto F 281 dX9_layWorlds_271 (by decide) ?_
                                                    refine q_iast F hm.2.2.2.2.2.2.2.2.2.2.2.2.1 (Nat.le_of_ble_eq_true rfl) (by omega) (by omega) dX9_layWorlds_281 (fun N281 eN281 => ?_)
                                                    refine q_aload_n F dX9_layWorlds_282 0 rfl ?_
                                                    refine q_getr (T := TX9) (ref := "LeastHungryModel") F huX9 rfl hm.1 21 (by decide) (by decide +kernel) rfl rfl dX9_layWorlds_283 ?_
                                                    refine q_iload F dX9_layWorlds_286 4 rfl ?_
                                                    refine q_aload_n F dX9_layWorlds_288 0 rfl ?_
                                                    refine q_getr (T := TX9) (ref := "LeastHungryModel") F huX9 rfl hm.1 10 (by decide) (by decide +kernel) rfl rfl dX9_layWorlds_289 ?_
                                                    refine q_iload F dX9_layWorlds_292 4 rfl ?_
                                                    refine q_iald F hm.2.2.2.2.2.2.2.1 (Nat.le_of_ble_eq_true rfl) (by omega) dX9_layWorlds_294 (fun h294 => ?_)
                                                    refine q_aload_n F dX9_layWorlds_295 0 rfl ?_
                                                    refine q_getr (T := TX9) (ref := "LeastHungryModel") F huX9 rfl hm.1 21 (by decide) (by decide +kernel) rfl rfl dX9_layWorlds_296 ?_
                                                    refine q_iload F dX9_layWorlds_299 4 rfl ?_
                                                    refine q_iald F hm.2.2.2.2.2.2.2.2.2.2.2.2.2.1 (Nat.le_of_ble_eq_true rfl) (by omega) dX9_layWorlds_301 (fun h301 => ?_)
                                                    refine q_icmp_le F 315 dX9_layWorlds_302 (by decide) (by omega) (fun c302 => ?_) (fun c302 => ?_)
                                                    · refine q_aload_n F dX9_layWorlds_315 0 rfl ?_
                                                      refine q_getr (T := TX9) (ref := "LeastHungryModel") F huX9 rfl hm.1 21 (by decide) (by decide +kernel) rfl rfl dX9_layWorlds_316 ?_
                                                      refine q_iload F dX9_layWorlds_319 4 rfl ?_
                                                      refine q_iald F hm.2.2.2.2.2.2.2.2.2.2.2.2.2.1 (Nat.le_of_ble_eq_true rfl) (by omega) dX9_layWorlds_321 (fun h321 => ?_)
                                                      refine q_iast F hm.2.2.2.2.2.2.2.2.2.2.2.2.2.1 (Nat.le_of_ble_eq_true rfl) (by omega) (by omega) dX9_layWorlds_322 (fun N322 eN322 => ?_)
                                                      obtain ⟨v323, e323⟩ : ∃ z_ : Int, z_ = x + 1 := ⟨_, rfl⟩
                                                      refine q_iinc F dX9_layWorlds_323 4 rfl e323 [(6, .int (q_I v323)), (0, .ref (q_ad G 0)), (1, .int (q_I v9)), (2, .int (q_I c)), (3, .int (q_I r))] (Nat.le_of_ble_eq_true rfl) rfl ?_
                                                      refine q_goto F 234 dX9_layWorlds_326 (by decide) ?_
                                                      refine q_drop [1, 2, 3, 4, 0] rfl ?_
                                                      obtain ⟨u1, u2, u3, u4, u5⟩ := hi234
                                                      have s7 : M3 7 = M2 7 := by rw [u2 7 (by omega) (by omega), eN228, q_up_ne (by omega)]
                                                      have s12 := (u5 x (by omega) (by omega)).1
                                                      have s13 := (u5 x (by omega) (by omega)).2
                                                      have n7 : N281 7 = M2 7 := by rw [eN281, q_up_ne (by omega), s7]
                                                      have n13 : N281 13 = M3 13 := by rw [eN281, q_up_ne (by omega)]
                                                      have a7 : M3 7 x = M2 7 x := by rw [s7]
                                                      have b7 : N281 7 x = M2 7 x := by rw [n7]
                                                      have b13 : N281 13 x = M2 13 x := by rw [n13, s13]
                                                      exact ih234_9 _ (by omega) v323 N322 ⟨by omega, fun j a b => by rw [eN322, q_up_ne b, eN281, q_up_ne a]; exact u2 j a b, fun y h0 h1 => by
                                                            rw [eN322, q_up_ne (by omega), eN281, q_up_at]
                                                            by_cases hy : y = x
                                                            · rw [if_pos hy, hy]; omega
                                                            · rw [if_neg hy]; exact u3 y h0 (by omega), fun y h0 h1 => by
                                                            rw [eN322, q_up_at]
                                                            by_cases hy : y = x
                                                            · rw [if_pos hy, hy]; omega
                                                            · rw [if_neg hy, eN281, q_up_ne (by omega)]; exact u4 y h0 (by omega), fun y h0 h1 => by
                                                            rw [eN322, q_up_ne (by omega), q_up_at, if_neg (by omega), eN281, q_up_at, if_neg (by omega), q_up_ne (by omega)]
                                                            exact u5 y (by omega) h1⟩ rfl
                                                    · refine q_aload_n F dX9_layWorlds_305 0 rfl ?_
                                                      refine q_getr (T := TX9) (ref := "LeastHungryModel") F huX9 rfl hm.1 10 (by decide) (by decide +kernel) rfl rfl dX9_layWorlds_306 ?_
                                                      refine q_iload F dX9_layWorlds_309 4 rfl ?_
                                                      refine q_iald F hm.2.2.2.2.2.2.2.1 (Nat.le_of_ble_eq_true rfl) (by omega) dX9_layWorlds_311 (fun h311 => ?_)
                                                      refine q_goto F 322 dX9_layWorlds_312 (by decide) ?_
                                                      refine q_iast F hm.2.2.2.2.2.2.2.2.2.2.2.2.2.1 (Nat.le_of_ble_eq_true rfl) (by omega) (by omega) dX9_layWorlds_322 (fun N322 eN322 => ?_)
                                                      obtain ⟨v323, e323⟩ : ∃ z_ : Int, z_ = x + 1 := ⟨_, rfl⟩
                                                      refine q_iinc F dX9_layWorlds_323 4 rfl e323 [(6, .int (q_I v323)), (0, .ref (q_ad G 0)), (1, .int (q_I v9)), (2, .int (q_I c)), (3, .int (q_I r))] (Nat.le_of_ble_eq_true rfl) rfl ?_
                                                      refine q_goto F 234 dX9_layWorlds_326 (by decide) ?_
                                                      refine q_drop [1, 2, 3, 4, 0] rfl ?_
                                                      obtain ⟨u1, u2, u3, u4, u5⟩ := hi234
                                                      have s7 : M3 7 = M2 7 := by rw [u2 7 (by omega) (by omega), eN228, q_up_ne (by omega)]
                                                      have s12 := (u5 x (by omega) (by omega)).1
                                                      have s13 := (u5 x (by omega) (by omega)).2
                                                      have n7 : N281 7 = M2 7 := by rw [eN281, q_up_ne (by omega), s7]
                                                      have n13 : N281 13 = M3 13 := by rw [eN281, q_up_ne (by omega)]
                                                      have a7 : M3 7 x = M2 7 x := by rw [s7]
                                                      have b7 : N281 7 x = M2 7 x := by rw [n7]
                                                      have b13 : N281 13 x = M2 13 x := by rw [n13, s13]
                                                      exact ih234_9 _ (by omega) v323 N322 ⟨by omega, fun j a b => by rw [eN322, q_up_ne b, eN281, q_up_ne a]; exact u2 j a b, fun y h0 h1 => by
                                                            rw [eN322, q_up_ne (by omega), eN281, q_up_at]
                                                            by_cases hy : y = x
                                                            · rw [if_pos hy, hy]; omega
                                                            · rw [if_neg hy]; exact u3 y h0 (by omega), fun y h0 h1 => by
                                                            rw [eN322, q_up_at]
                                                            by_cases hy : y = x
                                                            · rw [if_pos hy, hy]; omega
                                                            · rw [if_neg hy, eN281, q_up_ne (by omega)]; exact u4 y h0 (by omega), fun y h0 h1 => by
                                                            rw [eN322, q_up_ne (by omega), q_up_at, if_neg (by omega), eN281, q_up_at, if_neg (by omega), q_up_ne (by omega)]
                                                            exact u5 y (by omega) h1⟩ rfl
                                            refine q_drop [1, 2, 3, 4, 0] rfl ?_
                                            exact lp234_9 _ 0 N228 ⟨by omega, fun _ _ _ => rfl, fun y h0 h1 => by omega, fun y h0 h1 => by omega, fun y h0 h1 => by rw [eN228, q_up_ne (by omega), q_up_ne (by omega)]; exact ⟨rfl, rfl⟩⟩ rfl
                                        · have hk6 : k < M 0 6 := by rw [← f2 6 (by omega)]; exact c166
                                          have hsg := xs.2 k w1.1 (by omega)
                                          have halt : q_fit (fun i => M 5 (2 * i)) (fun i => M 5 (2 * i + 1)) (q_eT (M 1) (M 2) (M 3) (M 0 0) (M 0 4) v9 r) k.toNat = true := by
                                            cases hq : q_fit (fun i => M 5 (2 * i)) (fun i => M 5 (2 * i + 1)) (q_eT (M 1) (M 2) (M 3) (M 0 0) (M 0 4) v9 r) k.toNat
                                            · rw [w2, hq] at c171
                                              exact absurd rfl c171
                                            · rfl
                                          have s4 : M2 5 (2 * k) = M 5 (2 * k) := by rw [m5]
                                          have s5 : M2 5 (2 * k + 1) = M 5 (2 * k + 1) := by rw [m5]
                                          have hsR : 0 ≤ M2 5 (2 * k) ∧ M2 5 (2 * k) ≤ 9 := by rw [s4]; exact hsg.1
                                          refine q_aload_n F dX9_layWorlds_174 0 rfl ?_
                                          refine q_iconst F dX9_layWorlds_175 ?_
                                          refine q_aload_n F dX9_layWorlds_176 0 rfl ?_
                                          refine q_getr (T := TX9) (ref := "LeastHungryModel") F huX9 rfl hm.1 7 (by decide) (by decide +kernel) rfl rfl dX9_layWorlds_177 ?_
                                          refine q_iconst F dX9_layWorlds_180 ?_
                                          refine q_iload F dX9_layWorlds_181 5 rfl ?_
                                          refine q_imul F dX9_layWorlds_183 ?_
                                          refine q_iald F hm.2.2.2.2.2.1 (Nat.le_of_ble_eq_true rfl) (by omega) dX9_layWorlds_184 (fun h184 => ?_)
                                          refine q_iconst F dX9_layWorlds_185 ?_
                                          refine q_callVP (n := 3) (T := TX9) F (c_X9_servedBy G hI M2 hm 0 _ 0 zv2 (by omega)) rfl rfl hm.1 gX9_layWorlds_X9_servedBy rfl ⟨by decide, by decide, by decide +kernel⟩ rfl ⟨rfl, rfl, Nat.le_of_ble_eq_true rfl, Nat.le_of_ble_eq_true rfl⟩ rfl (Nat.le_of_ble_eq_true rfl) dX9_layWorlds_186 (fun h186 => ?_)
                                          have heT : q_set (q_ru (M2 7) (M2 8) (M2 9) (M2 0 0) (M2 0 4) 0 0 (M2 5 (2 * k))) = (q_eT (M 1) (M 2) (M 3) (M 0 0) (M 0 4) v9 r) (M 5 (2 * k)) := by rw [s4]; exact hETp _
                                          have heTR := q_set_R (q_ru (M2 7) (M2 8) (M2 9) (M2 0 0) (M2 0 4) 0 0 (M2 5 (2 * k)))
                                          refine q_aload_n F dX9_layWorlds_189 0 rfl ?_
                                          refine q_getr (T := TX9) (ref := "LeastHungryModel") F huX9 rfl hm.1 7 (by decide) (by decide +kernel) rfl rfl dX9_layWorlds_190 ?_
                                          refine q_iconst F dX9_layWorlds_193 ?_
                                          refine q_iload F dX9_layWorlds_194 5 rfl ?_
                                          refine q_imul F dX9_layWorlds_196 ?_
                                          refine q_iconst F dX9_layWorlds_197 ?_
                                          refine q_iadd F dX9_layWorlds_198 ?_
                                          refine q_iald F hm.2.2.2.2.2.1 (Nat.le_of_ble_eq_true rfl) (by omega) dX9_layWorlds_199 (fun h199 => ?_)
                                          refine q_icmp_ne F 207 dX9_layWorlds_200 (by decide) (by omega) (fun c200 => ?_) (fun c200 => ?_)
                                          · refine q_iconst F dX9_layWorlds_207 ?_
                                            refine q_istore F dX9_layWorlds_208 [(5, .int (q_I 0)), (0, .ref (q_ad G 0)), (1, .int (q_I v9)), (2, .int (q_I c)), (3, .int (q_I r)), (6, .int (q_I k))] (Nat.le_of_ble_eq_true rfl) rfl ?_
                                            obtain ⟨v210, e210⟩ : ∃ z_ : Int, z_ = k + 1 := ⟨_, rfl⟩
                                            refine q_iinc F dX9_layWorlds_210 5 rfl e210 [(6, .int (q_I v210)), (5, .int (q_I 0)), (0, .ref (q_ad G 0)), (1, .int (q_I v9)), (2, .int (q_I c)), (3, .int (q_I r))] (Nat.le_of_ble_eq_true rfl) rfl ?_
                                            refine q_goto F 160 dX9_layWorlds_213 (by decide) ?_
                                            refine q_drop [2, 3, 4, 5, 1, 0] rfl ?_
                                            exact ih160_6 _ (by omega) 0 v210 ⟨by omega, by
                                                  rw [e210, show (k + 1).toNat = k.toNat + 1 by omega, q_fit_s, Int.toNat_of_nonneg w1.1, halt]
                                                  rw [Bool.true_and, decide_eq_false (by rw [← heT, ← s5]; exact c200)]
                                                  rfl⟩ rfl
                                          · refine q_iconst F dX9_layWorlds_203 ?_
                                            refine q_goto F 208 dX9_layWorlds_204 (by decide) ?_
                                            refine q_istore F dX9_layWorlds_208 [(5, .int (q_I 1)), (0, .ref (q_ad G 0)), (1, .int (q_I v9)), (2, .int (q_I c)), (3, .int (q_I r)), (6, .int (q_I k))] (Nat.le_of_ble_eq_true rfl) rfl ?_
                                            obtain ⟨v210, e210⟩ : ∃ z_ : Int, z_ = k + 1 := ⟨_, rfl⟩
                                            refine q_iinc F dX9_layWorlds_210 5 rfl e210 [(6, .int (q_I v210)), (5, .int (q_I 1)), (0, .ref (q_ad G 0)), (1, .int (q_I v9)), (2, .int (q_I c)), (3, .int (q_I r))] (Nat.le_of_ble_eq_true rfl) rfl ?_
                                            refine q_goto F 160 dX9_layWorlds_213 (by decide) ?_
                                            refine q_drop [2, 3, 4, 5, 1, 0] rfl ?_
                                            exact ih160_6 _ (by omega) 1 v210 ⟨by omega, by
                                                  rw [e210, show (k + 1).toNat = k.toNat + 1 by omega, q_fit_s, Int.toNat_of_nonneg w1.1, halt]
                                                  rw [Bool.true_and, decide_eq_true (by rw [← heT, ← s5]; exact c200)]
                                                  rfl⟩ rfl
                                  refine q_drop [2, 3, 4, 5, 1, 0] rfl ?_
                                  exact lp160_6 _ 1 0 ⟨by omega, rfl⟩ rfl
                                · refine q_iload_n F dX9_layWorlds_120 1 rfl ?_
                                  refine q_iload F dX9_layWorlds_121 5 rfl ?_
                                  refine q_callSP (n := 2) F (c_X9_has G hI M2 v9 g (by omega)) rfl gX9_layWorlds_X9_has ⟨by decide, by decide, by decide +kernel⟩ rfl ⟨rfl, rfl, Nat.le_of_ble_eq_true rfl, Nat.le_of_ble_eq_true rfl⟩ rfl (Nat.le_of_ble_eq_true rfl) dX9_layWorlds_123 (fun h123 => ?_)
                                  refine q_ifb_eq F 148 dX9_layWorlds_126 (by decide) (fun c126 => ?_) (fun c126 => ?_)
                                  · obtain ⟨v148, e148⟩ : ∃ z_ : Int, z_ = g + 1 := ⟨_, rfl⟩
                                    refine q_iinc F dX9_layWorlds_148 5 rfl e148 [(5, .int (q_I v148)), (0, .ref (q_ad G 0)), (1, .int (q_I v9)), (2, .int (q_I c)), (3, .int (q_I r)), (4, .int (q_I l))] (Nat.le_of_ble_eq_true rfl) rfl ?_
                                    refine q_goto F 113 dX9_layWorlds_151 (by decide) ?_
                                    refine q_drop [1, 2, 3, 4, 5, 0] rfl ?_
                                    exact ih113_5 _ (by omega) l v148 M2 ⟨by omega, by rw [e148, q_be_step hS.1 hS.2 i1.1 c117, if_neg (by rw [c126]; decide), Nat.add_zero]; exact i2, i3, fun x => by
                                          rw [i4, e148]
                                          by_cases hx : x = g
                                          · rw [if_neg (fun h => by omega), if_neg (fun h => by rw [hx, c126] at h; exact absurd h.2 (by decide))]
                                          · by_cases hl : (0 ≤ x ∧ x < g) ∧ q_has v9 x = true
                                            · rw [if_pos hl, if_pos ⟨by omega, hl.2⟩]
                                            · rw [if_neg hl, if_neg (fun h => hl ⟨by omega, h.2⟩)]⟩ rfl
                                  · refine q_aload_n F dX9_layWorlds_129 0 rfl ?_
                                    refine q_getr (T := TX9) (ref := "LeastHungryModel") F huX9 rfl hm.1 10 (by decide) (by decide +kernel) rfl rfl dX9_layWorlds_130 ?_
                                    refine q_iload F dX9_layWorlds_133 5 rfl ?_
                                    refine q_iload F dX9_layWorlds_135 4 rfl ?_
                                    refine q_bipush F dX9_layWorlds_137 (by decide) ?_
                                    refine q_irem F dX9_layWorlds_139 (by omega) ?_
                                    refine q_iast F hm.2.2.2.2.2.2.2.1 (Nat.le_of_ble_eq_true rfl) (by omega) (by omega) dX9_layWorlds_140 (fun N140 eN140 => ?_)
                                    refine q_iload F dX9_layWorlds_141 4 rfl ?_
                                    refine q_bipush F dX9_layWorlds_143 (by decide) ?_
                                    refine q_idiv F dX9_layWorlds_145 (by omega) ?_
                                    refine q_nm (fun v146 e146 => ?_)
                                    refine q_istore F dX9_layWorlds_146 [(4, .int (q_I v146)), (0, .ref (q_ad G 0)), (1, .int (q_I v9)), (2, .int (q_I c)), (3, .int (q_I r)), (5, .int (q_I g))] (Nat.le_of_ble_eq_true rfl) rfl ?_
                                    obtain ⟨v148, e148⟩ : ∃ z_ : Int, z_ = g + 1 := ⟨_, rfl⟩
                                    refine q_iinc F dX9_layWorlds_148 5 rfl e148 [(5, .int (q_I v148)), (4, .int (q_I v146)), (0, .ref (q_ad G 0)), (1, .int (q_I v9)), (2, .int (q_I c)), (3, .int (q_I r))] (Nat.le_of_ble_eq_true rfl) rfl ?_
                                    refine q_goto F 113 dX9_layWorlds_151 (by decide) ?_
                                    refine q_drop [2, 3, 4, 5, 1, 0] rfl ?_
                                    exact ih113_5 _ (by omega) v146 v148 N140 ⟨by omega, by rw [e148, q_be_step hS.1 hS.2 i1.1 c117, if_pos c126, e146, i2, q_pw_div (by omega)], fun j hj => by rw [eN140, q_up_ne hj]; exact i3 j hj, fun x => by
                                          rw [eN140, q_up_at, e148]
                                          by_cases hx : x = g
                                          · rw [if_pos hx, hx, if_pos ⟨by omega, c126⟩, i2]
                                          · rw [if_neg hx, i4]
                                            by_cases hl : (0 ≤ x ∧ x < g) ∧ q_has v9 x = true
                                            · rw [if_pos hl, if_pos ⟨by omega, hl.2⟩]
                                            · rw [if_neg hl, if_neg (fun h => hl ⟨by omega, h.2⟩)]⟩ rfl
                            refine q_drop [2, 3, 4, 5, 1, 0] rfl ?_
                            exact lp113_5 _ r 0 M1 ⟨by omega, by rw [q_be_0 hS.1 hS.2]; exact (Int.ediv_one r).symm, fun _ _ => rfl, fun x => by rw [if_neg (fun h => by omega)]⟩ rfl
                      refine q_drop [1, 2, 3, 0] rfl ?_
                      exact lp102_4 _ 0 Mb ⟨by omega, ek0, fr0.1, fr0.2, h70⟩ rfl
                    · refine q_aload_n F dX9_layWorlds_78 0 rfl ?_
                      refine q_getr (T := TX9) (ref := "LeastHungryModel") F huX9 rfl hm.1 20 (by decide) (by decide +kernel) rfl rfl dX9_layWorlds_79 ?_
                      refine q_iload_n F dX9_layWorlds_82 3 rfl ?_
                      refine q_ldc (n := 1000000) F dX9_layWorlds_83 (by decide +kernel) ?_
                      refine q_iast F hm.2.2.2.2.2.2.2.2.2.2.2.2.1 (Nat.le_of_ble_eq_true rfl) (by omega) (by omega) dX9_layWorlds_85 (fun N85 eN85 => ?_)
                      refine q_aload_n F dX9_layWorlds_86 0 rfl ?_
                      refine q_getr (T := TX9) (ref := "LeastHungryModel") F huX9 rfl hm.1 21 (by decide) (by decide +kernel) rfl rfl dX9_layWorlds_87 ?_
                      refine q_iload_n F dX9_layWorlds_90 3 rfl ?_
                      refine q_bipush F dX9_layWorlds_91 (by decide) ?_
                      refine q_iast F hm.2.2.2.2.2.2.2.2.2.2.2.2.2.1 (Nat.le_of_ble_eq_true rfl) (by omega) (by omega) dX9_layWorlds_93 (fun N93 eN93 => ?_)
                      obtain ⟨v94, e94⟩ : ∃ z_ : Int, z_ = k3 + 1 := ⟨_, rfl⟩
                      refine q_iinc F dX9_layWorlds_94 3 rfl e94 [(3, .int (q_I v94)), (0, .ref (q_ad G 0)), (1, .int (q_I v9)), (2, .int (q_I c))] (Nat.le_of_ble_eq_true rfl) rfl ?_
                      refine q_goto F 72 dX9_layWorlds_97 (by decide) ?_
                      refine q_drop [1, 2, 3, 0] rfl ?_
                      exact ih72_3 _ (by omega) v94 N93 ⟨by omega, fun j a b => by rw [eN93, q_up_ne b, eN85, q_up_ne a]; exact hi72.2.1 j a b, fun x h0 h1 => by
                            rw [eN93, q_up_ne (by omega), q_up_at, eN85, q_up_at, q_up_ne (by omega)]
                            by_cases hx : x = k3
                            · rw [if_pos hx, if_pos hx]; exact ⟨rfl, rfl⟩
                            · rw [if_neg hx, if_neg hx]; exact hi72.2.2 x h0 (by omega)⟩ rfl
                refine q_drop [1, 2, 3, 0] rfl ?_
                exact lp72_3 _ 0 Ma ⟨by omega, fun _ _ _ => rfl, fun x h0 h1 => by omega⟩ rfl
              · refine q_aload_n F dX9_layWorlds_57 0 rfl ?_
                refine q_getr (T := TX9) (ref := "LeastHungryModel") F huX9 rfl hm.1 22 (by decide) (by decide +kernel) rfl rfl dX9_layWorlds_58 ?_
                refine q_iload_n F dX9_layWorlds_61 3 rfl ?_
                refine q_iconst F dX9_layWorlds_62 ?_
                refine q_iast F hm.2.2.2.2.2.2.2.2.2.2.2.2.2.2.1 (Nat.le_of_ble_eq_true rfl) (by omega) (by omega) dX9_layWorlds_63 (fun N63 eN63 => ?_)
                obtain ⟨v64, e64⟩ : ∃ z_ : Int, z_ = k2 + 1 := ⟨_, rfl⟩
                refine q_iinc F dX9_layWorlds_64 3 rfl e64 [(3, .int (q_I v64)), (0, .ref (q_ad G 0)), (1, .int (q_I v9)), (2, .int (q_I c))] (Nat.le_of_ble_eq_true rfl) rfl ?_
                refine q_goto F 50 dX9_layWorlds_67 (by decide) ?_
                refine q_drop [1, 2, 3, 0] rfl ?_
                exact ih50_2 _ (by omega) v64 N63 ⟨by omega, fun j hj => by rw [eN63, q_up_ne hj]; exact hi50.2.1 j hj, fun x h0 h1 => by rw [eN63, q_up_at]; split; rfl; exact hi50.2.2 x h0 (by omega)⟩ rfl
          refine q_drop [1, 2, 3, 0] rfl ?_
          exact lp50_2 _ 0 N45 ⟨by omega, fun _ _ => rfl, fun x h0 h1 => by omega⟩ rfl
        · refine q_iload_n F dX9_layWorlds_32 2 rfl ?_
          refine q_bipush F dX9_layWorlds_33 (by decide) ?_
          refine q_imul F dX9_layWorlds_35 ?_
          refine q_nm (fun v36 e36 => ?_)
          refine q_istore_n F dX9_layWorlds_36 [(2, .int (q_I v36)), (0, .ref (q_ad G 0)), (1, .int (q_I v9)), (3, .int (q_I k))] (Nat.le_of_ble_eq_true rfl) rfl ?_
          obtain ⟨v37, e37⟩ : ∃ z_ : Int, z_ = k + 1 := ⟨_, rfl⟩
          refine q_iinc F dX9_layWorlds_37 3 rfl e37 [(3, .int (q_I v37)), (2, .int (q_I v36)), (0, .ref (q_ad G 0)), (1, .int (q_I v9))] (Nat.le_of_ble_eq_true rfl) rfl ?_
          refine q_goto F 24 dX9_layWorlds_40 (by decide) ?_
          refine q_drop [2, 3, 1, 0] rfl ?_
          exact ih24_1 _ (by omega) v36 v37 ⟨by omega, by rw [e36, hi24.2, show v37.toNat = k.toNat + 1 by omega]; rfl⟩ rfl
    refine q_drop [3, 2, 1, 0] rfl ?_
    exact lp24_1 _ 1 0 ⟨by omega, rfl⟩ rfl
  · refine q_iconst F dX9_layWorlds_18 ?_
    exact q_zret F FI dX9_layWorlds_19 (by first | exact q_b01 _ | omega) ⟨false, rfl, kz1, fun _ => by rw [← hv9]; omega, fun h => absurd h (by decide)⟩

set_option maxHeartbeats 4000000 in
set_option maxRecDepth 100000 in
theorem c_X9_worlds (G : q_G) (hI : q_inj G) (M : q_M) (hm : q_mo G) (g : Int) (w : Int) (hgR : -2147483648 ≤ g ∧ g ≤ 2147483647) (hwR : -2147483648 ≤ w ∧ w ≤ 2147483647) (hZ : q_Z M) : q_CI G yX9_worlds wsX9_worlds ({ frames := 4, cells := 0, slots := 0, locals := 97 } : Room) [.ref (q_ad G 0), .int (q_I g), .int (q_I w)] M (fun z M' => z = S9_worlds (M 1) (M 2) (M 3) (M 0 0) (M 0 4) (fun i => M 5 (2 * i)) (fun i => M 5 (2 * i + 1)) (M 0 6) g w ∧ q_kz M M') := by
  refine q_CI.of hI (by decide) rfl RX9 rfl [(0, .ref (q_ad G 0)), (1, .int (q_I g)), (2, .int (q_I w))] rfl (Nat.le_of_ble_eq_true rfl) (fun E F FI => ?_)
  have huX9 : ∀ w ∈ wsX90, w ∈ wsX9_worlds := by decide +kernel
  refine q_MRof (fun hM => ?_)
  obtain ⟨⟨xt, xk⟩, ⟨xh, xf, xa⟩, xF, xs, xp⟩ := id hZ
  have hz := hZ.1
  refine q_iload_n F dX9_worlds_0 1 rfl ?_
  refine q_iconst F dX9_worlds_1 ?_
  refine q_icmp_eq F 24 dX9_worlds_2 (by decide) (by omega) (fun c2 => ?_) (fun c2 => ?_)
  · have hg : g = -1 ∨ q_ins (M 3) (M 0 0) 0 g = true := Or.inl c2
    refine q_iload_n F dX9_worlds_24 2 rfl ?_
    refine q_iconst F dX9_worlds_25 ?_
    refine q_iconst F dX9_worlds_26 ?_
    refine q_callSP (n := 3) F (c_X9_in G hI M w 0 1 (by omega)) rfl gX9_worlds_X9_in ⟨by decide, by decide, by decide +kernel⟩ rfl ⟨rfl, rfl, Nat.le_of_ble_eq_true rfl, Nat.le_of_ble_eq_true rfl⟩ rfl (Nat.le_of_ble_eq_true rfl) dX9_worlds_27 (fun h27 => ?_)
    refine q_ifb_ne F 36 dX9_worlds_30 (by decide) (fun c30 => ?_) (fun c30 => ?_)
    · have d2 := q_dt c30
      refine q_aload_n F dX9_worlds_36 0 rfl ?_
      refine q_callVI (n := 0) (T := TX9) F (c_X9_layWorlds G hI M hm (by assumption)) rfl rfl hm.1 gX9_worlds_X9_layWorlds rfl ⟨by decide, by decide, by decide +kernel⟩ rfl ⟨rfl, rfl, Nat.le_of_ble_eq_true rfl, Nat.le_of_ble_eq_true rfl⟩ rfl (Nat.le_of_ble_eq_true rfl) dX9_worlds_37 (fun r37 N37 h37 p37 => ?_)
      obtain ⟨b37, rfl, p37⟩ := p37
      have hkz := p37.1
      have hno := p37.2.1
      have hyes := p37.2.2
      refine q_ifb_ne F 46 dX9_worlds_40 (by decide) (fun c40 => ?_) (fun c40 => ?_)
      · obtain ⟨h4, ek⟩ := hyes c40
        refine q_iload_n F dX9_worlds_46 1 rfl ?_
        refine q_if_ge F 55 dX9_worlds_47 (by decide) (by omega) (fun c47 => ?_) (fun c47 => ?_)
        · have hgn : ¬ g = -1 := by omega
          have hgi2 : 0 ≤ g ∧ g < 6 := by
            rcases hg with h | h
            · exact absurd h hgn
            · exact q_ins_in h
          have he19 : N37 0 19 = q_eWc (M 1) (M 2) (M 3) (M 0 0) (M 0 4) (fun i => M 5 (2 * i)) (fun i => M 5 (2 * i + 1)) (M 0 6) := ek.1
          refine q_aload_n F dX9_worlds_55 0 rfl ?_
          refine q_geti (T := TX9) (ref := "LeastHungryModel") F huX9 rfl hm.1 19 (by decide) (by decide +kernel) rfl 19 rfl rfl dX9_worlds_56 (fun h56 => ?_)
          refine q_if_ne F 67 dX9_worlds_59 (by decide) (by omega) (fun c59 => ?_) (fun c59 => ?_)
          · refine q_iload_n F dX9_worlds_67 2 rfl ?_
            refine q_if_ne F 80 dX9_worlds_68 (by decide) (by omega) (fun c68 => ?_) (fun c68 => ?_)
            · refine q_aload_n F dX9_worlds_80 0 rfl ?_
              refine q_getr (T := TX9) (ref := "LeastHungryModel") F huX9 rfl hm.1 21 (by decide) (by decide +kernel) rfl rfl dX9_worlds_81 ?_
              refine q_iload_n F dX9_worlds_84 1 rfl ?_
              refine q_iald F hm.2.2.2.2.2.2.2.2.2.2.2.2.2.1 (Nat.le_of_ble_eq_true rfl) (by omega) dX9_worlds_85 (fun h85 => ?_)
              exact q_iret F FI dX9_worlds_86 (by omega) ⟨by unfold S9_worlds; rw [if_pos hg, if_pos d2, if_neg (by omega), if_neg hgn, if_neg (by rw [← he19]; exact c59), if_neg c68]; exact (ek.2.1 g hgi2.1 hgi2.2).2, hkz⟩
            · refine q_aload_n F dX9_worlds_71 0 rfl ?_
              refine q_getr (T := TX9) (ref := "LeastHungryModel") F huX9 rfl hm.1 20 (by decide) (by decide +kernel) rfl rfl dX9_worlds_72 ?_
              refine q_iload_n F dX9_worlds_75 1 rfl ?_
              refine q_iald F hm.2.2.2.2.2.2.2.2.2.2.2.2.1 (Nat.le_of_ble_eq_true rfl) (by omega) dX9_worlds_76 (fun h76 => ?_)
              refine q_goto F 86 dX9_worlds_77 (by decide) ?_
              exact q_iret F FI dX9_worlds_86 (by omega) ⟨by unfold S9_worlds; rw [if_pos hg, if_pos d2, if_neg (by omega), if_neg hgn, if_neg (by rw [← he19]; exact c59), if_pos c68]; exact (ek.2.1 g hgi2.1 hgi2.2).1, hkz⟩
          · refine q_bipush F dX9_worlds_62 (by decide) ?_
            refine q_goto F 86 dX9_worlds_64 (by decide) ?_
            exact q_iret F FI dX9_worlds_86 (by omega) ⟨by unfold S9_worlds; rw [if_pos hg, if_pos d2, if_neg (by omega), if_neg hgn, if_pos (by rw [← he19]; exact c59)], hkz⟩
        · have hgm : g = -1 := by
            rcases hg with h | h
            · exact h
            · have := q_ins_in h
              omega
          refine q_aload_n F dX9_worlds_50 0 rfl ?_
          refine q_geti (T := TX9) (ref := "LeastHungryModel") F huX9 rfl hm.1 19 (by decide) (by decide +kernel) rfl 19 rfl rfl dX9_worlds_51 (fun h51 => ?_)
          exact q_iret F FI dX9_worlds_54 (by omega) ⟨by unfold S9_worlds; rw [if_pos hg, if_pos d2, if_neg (by omega), if_pos hgm]; exact ek.1, hkz⟩
      · have h4 := hno c40
        refine q_bipush F dX9_worlds_43 (by decide) ?_
        exact q_iret F FI dX9_worlds_45 (by omega) ⟨by unfold S9_worlds; rw [if_pos hg, if_pos d2, if_pos h4], hkz⟩
    · refine q_bipush F dX9_worlds_33 (by decide) ?_
      exact q_iret F FI dX9_worlds_35 (by omega) ⟨by unfold S9_worlds; rw [if_pos hg, if_neg (q_df c30)], q_kz_rf⟩
  · refine q_aload_n F dX9_worlds_5 0 rfl ?_
    refine q_iload_n F dX9_worlds_6 1 rfl ?_
    refine q_callVP (n := 1) (T := TX9) F (c_X9_isThere G hI M hm g (by omega) (by assumption)) rfl rfl hm.1 gX9_worlds_X9_isThere rfl ⟨by decide, by decide, by decide +kernel⟩ rfl ⟨rfl, rfl, Nat.le_of_ble_eq_true rfl, Nat.le_of_ble_eq_true rfl⟩ rfl (Nat.le_of_ble_eq_true rfl) dX9_worlds_7 (fun h7 => ?_)
    refine q_ifb_eq F 22 dX9_worlds_10 (by decide) (fun c10 => ?_) (fun c10 => ?_)
    · refine q_iconst F dX9_worlds_22 ?_
      exact q_iret F FI dX9_worlds_23 (by omega) ⟨by unfold S9_worlds; rw [if_neg (fun h => by rcases h with h | h; exact c2 h; unfold q_ins at h; rw [c10] at h; simp at h)], q_kz_rf⟩
    · have hgi := q_has_in c10
      refine q_aload_n F dX9_worlds_13 0 rfl ?_
      refine q_getr (T := TX9) (ref := "LeastHungryModel") F huX9 rfl hm.1 3 (by decide) (by decide +kernel) rfl rfl dX9_worlds_14 ?_
      refine q_iload_n F dX9_worlds_17 1 rfl ?_
      refine q_iald F hm.2.2.2.1 (Nat.le_of_ble_eq_true rfl) (by omega) dX9_worlds_18 (fun h18 => ?_)
      refine q_if_eq F 24 dX9_worlds_19 (by decide) (by omega) (fun c19 => ?_) (fun c19 => ?_)
      · have hg : g = -1 ∨ q_ins (M 3) (M 0 0) 0 g = true := Or.inr (by unfold q_ins; rw [c10, decide_eq_true c19]; rfl)
        refine q_iload_n F dX9_worlds_24 2 rfl ?_
        refine q_iconst F dX9_worlds_25 ?_
        refine q_iconst F dX9_worlds_26 ?_
        refine q_callSP (n := 3) F (c_X9_in G hI M w 0 1 (by omega)) rfl gX9_worlds_X9_in ⟨by decide, by decide, by decide +kernel⟩ rfl ⟨rfl, rfl, Nat.le_of_ble_eq_true rfl, Nat.le_of_ble_eq_true rfl⟩ rfl (Nat.le_of_ble_eq_true rfl) dX9_worlds_27 (fun h27 => ?_)
        refine q_ifb_ne F 36 dX9_worlds_30 (by decide) (fun c30 => ?_) (fun c30 => ?_)
        · have d2 := q_dt c30
          refine q_aload_n F dX9_worlds_36 0 rfl ?_
          refine q_callVI (n := 0) (T := TX9) F (c_X9_layWorlds G hI M hm (by assumption)) rfl rfl hm.1 gX9_worlds_X9_layWorlds rfl ⟨by decide, by decide, by decide +kernel⟩ rfl ⟨rfl, rfl, Nat.le_of_ble_eq_true rfl, Nat.le_of_ble_eq_true rfl⟩ rfl (Nat.le_of_ble_eq_true rfl) dX9_worlds_37 (fun r37 N37 h37 p37 => ?_)
          obtain ⟨b37, rfl, p37⟩ := p37
          have hkz := p37.1
          have hno := p37.2.1
          have hyes := p37.2.2
          refine q_ifb_ne F 46 dX9_worlds_40 (by decide) (fun c40 => ?_) (fun c40 => ?_)
          · obtain ⟨h4, ek⟩ := hyes c40
            refine q_iload_n F dX9_worlds_46 1 rfl ?_
            refine q_if_ge F 55 dX9_worlds_47 (by decide) (by omega) (fun c47 => ?_) (fun c47 => ?_)
            · have hgn : ¬ g = -1 := by omega
              have hgi2 : 0 ≤ g ∧ g < 6 := by
                rcases hg with h | h
                · exact absurd h hgn
                · exact q_ins_in h
              have he19 : N37 0 19 = q_eWc (M 1) (M 2) (M 3) (M 0 0) (M 0 4) (fun i => M 5 (2 * i)) (fun i => M 5 (2 * i + 1)) (M 0 6) := ek.1
              refine q_aload_n F dX9_worlds_55 0 rfl ?_
              refine q_geti (T := TX9) (ref := "LeastHungryModel") F huX9 rfl hm.1 19 (by decide) (by decide +kernel) rfl 19 rfl rfl dX9_worlds_56 (fun h56 => ?_)
              refine q_if_ne F 67 dX9_worlds_59 (by decide) (by omega) (fun c59 => ?_) (fun c59 => ?_)
              · refine q_iload_n F dX9_worlds_67 2 rfl ?_
                refine q_if_ne F 80 dX9_worlds_68 (by decide) (by omega) (fun c68 => ?_) (fun c68 => ?_)
                · refine q_aload_n F dX9_worlds_80 0 rfl ?_
                  refine q_getr (T := TX9) (ref := "LeastHungryModel") F huX9 rfl hm.1 21 (by decide) (by decide +kernel) rfl rfl dX9_worlds_81 ?_
                  refine q_iload_n F dX9_worlds_84 1 rfl ?_
                  refine q_iald F hm.2.2.2.2.2.2.2.2.2.2.2.2.2.1 (Nat.le_of_ble_eq_true rfl) (by omega) dX9_worlds_85 (fun h85 => ?_)
                  exact q_iret F FI dX9_worlds_86 (by omega) ⟨by unfold S9_worlds; rw [if_pos hg, if_pos d2, if_neg (by omega), if_neg hgn, if_neg (by rw [← he19]; exact c59), if_neg c68]; exact (ek.2.1 g hgi2.1 hgi2.2).2, hkz⟩
                · refine q_aload_n F dX9_worlds_71 0 rfl ?_
                  refine q_getr (T := TX9) (ref := "LeastHungryModel") F huX9 rfl hm.1 20 (by decide) (by decide +kernel) rfl rfl dX9_worlds_72 ?_
                  refine q_iload_n F dX9_worlds_75 1 rfl ?_
                  refine q_iald F hm.2.2.2.2.2.2.2.2.2.2.2.2.1 (Nat.le_of_ble_eq_true rfl) (by omega) dX9_worlds_76 (fun h76 => ?_)
                  refine q_goto F 86 dX9_worlds_77 (by decide) ?_
                  exact q_iret F FI dX9_worlds_86 (by omega) ⟨by unfold S9_worlds; rw [if_pos hg, if_pos d2, if_neg (by omega), if_neg hgn, if_neg (by rw [← he19]; exact c59), if_pos c68]; exact (ek.2.1 g hgi2.1 hgi2.2).1, hkz⟩
              · refine q_bipush F dX9_worlds_62 (by decide) ?_
                refine q_goto F 86 dX9_worlds_64 (by decide) ?_
                exact q_iret F FI dX9_worlds_86 (by omega) ⟨by unfold S9_worlds; rw [if_pos hg, if_pos d2, if_neg (by omega), if_neg hgn, if_pos (by rw [← he19]; exact c59)], hkz⟩
            · have hgm : g = -1 := by
                rcases hg with h | h
                · exact h
                · have := q_ins_in h
                  omega
              refine q_aload_n F dX9_worlds_50 0 rfl ?_
              refine q_geti (T := TX9) (ref := "LeastHungryModel") F huX9 rfl hm.1 19 (by decide) (by decide +kernel) rfl 19 rfl rfl dX9_worlds_51 (fun h51 => ?_)
              exact q_iret F FI dX9_worlds_54 (by omega) ⟨by unfold S9_worlds; rw [if_pos hg, if_pos d2, if_neg (by omega), if_pos hgm]; exact ek.1, hkz⟩
          · have h4 := hno c40
            refine q_bipush F dX9_worlds_43 (by decide) ?_
            exact q_iret F FI dX9_worlds_45 (by omega) ⟨by unfold S9_worlds; rw [if_pos hg, if_pos d2, if_pos h4], hkz⟩
        · refine q_bipush F dX9_worlds_33 (by decide) ?_
          exact q_iret F FI dX9_worlds_35 (by omega) ⟨by unfold S9_worlds; rw [if_pos hg, if_neg (q_df c30)], q_kz_rf⟩
      · refine q_iconst F dX9_worlds_22 ?_
        exact q_iret F FI dX9_worlds_23 (by omega) ⟨by unfold S9_worlds; rw [if_neg (fun h => by rcases h with h | h; exact c2 h; unfold q_ins at h; simp only [Bool.and_eq_true, decide_eq_true_eq] at h; exact c19 h.1)], q_kz_rf⟩

set_option maxHeartbeats 4000000 in
set_option maxRecDepth 100000 in
theorem c_X9_tells (G : q_G) (hI : q_inj G) (M : q_M) (hm : q_mo G) (w : Int) (hwR : -2147483648 ≤ w ∧ w ≤ 2147483647) (hZ : q_Z M) : q_CI G yX9_tells wsX9_tells ({ frames := 4, cells := 0, slots := 0, locals := 97 } : Room) [.ref (q_ad G 0), .int (q_I w)] M (fun z M' => z = S9_tells (M 1) (M 2) (M 3) (M 0 0) (M 0 4) (fun i => M 5 (2 * i)) (fun i => M 5 (2 * i + 1)) (M 0 6) w ∧ q_kz M M') := by
  refine q_CI.of hI (by decide) rfl RX9 rfl [(0, .ref (q_ad G 0)), (1, .int (q_I w))] rfl (Nat.le_of_ble_eq_true rfl) (fun E F FI => ?_)
  have huX9 : ∀ w ∈ wsX90, w ∈ wsX9_tells := by decide +kernel
  refine q_MRof (fun hM => ?_)
  obtain ⟨⟨xt, xk⟩, ⟨xh, xf, xa⟩, xF, xs, xp⟩ := id hZ
  have hz := hZ.1
  refine q_iload_n F dX9_tells_0 1 rfl ?_
  refine q_iconst F dX9_tells_1 ?_
  refine q_iconst F dX9_tells_2 ?_
  refine q_callSP (n := 3) F (c_X9_in G hI M w 0 1 (by omega)) rfl gX9_tells_X9_in ⟨by decide, by decide, by decide +kernel⟩ rfl ⟨rfl, rfl, Nat.le_of_ble_eq_true rfl, Nat.le_of_ble_eq_true rfl⟩ rfl (Nat.le_of_ble_eq_true rfl) dX9_tells_3 (fun h3 => ?_)
  refine q_ifb_ne F 12 dX9_tells_6 (by decide) (fun c6 => ?_) (fun c6 => ?_)
  · have d2 := q_dt c6
    refine q_aload_n F dX9_tells_12 0 rfl ?_
    refine q_callVI (n := 0) (T := TX9) F (c_X9_layWorlds G hI M hm (by assumption)) rfl rfl hm.1 gX9_tells_X9_layWorlds rfl ⟨by decide, by decide, by decide +kernel⟩ rfl ⟨rfl, rfl, Nat.le_of_ble_eq_true rfl, Nat.le_of_ble_eq_true rfl⟩ rfl (Nat.le_of_ble_eq_true rfl) dX9_tells_13 (fun r13 N13 h13 p13 => ?_)
    obtain ⟨b13, rfl, p13⟩ := p13
    have hkz := p13.1
    have hno := p13.2.1
    have hyes := p13.2.2
    refine q_MRof (fun hMR => ?_)
    refine q_ifb_ne F 22 dX9_tells_16 (by decide) (fun c16 => ?_) (fun c16 => ?_)
    · obtain ⟨h4, ek⟩ := hyes c16
      have he19 : N13 0 19 = q_eWc (M 1) (M 2) (M 3) (M 0 0) (M 0 4) (fun i => M 5 (2 * i)) (fun i => M 5 (2 * i + 1)) (M 0 6) := ek.1
      have hcR := q_ctN_R (q_eWf (M 1) (M 2) (M 3) (M 0 0) (M 0 4) (fun i => M 5 (2 * i)) (fun i => M 5 (2 * i + 1)) (M 0 6)) (q_WN (M 3) (M 0 0))
      have hMN : ∀ i, -2147483648 ≤ N13 14 i ∧ N13 14 i ≤ 2147483647 := fun i => hMR 14 i
      refine q_ldc (n := 1000000) F dX9_tells_22 (by decide +kernel) ?_
      refine q_istore_n F dX9_tells_24 [(2, .int (q_I 1000000)), (0, .ref (q_ad G 0)), (1, .int (q_I w))] (Nat.le_of_ble_eq_true rfl) rfl ?_
      refine q_bipush F dX9_tells_25 (by decide) ?_
      refine q_istore_n F dX9_tells_27 [(3, .int (q_I (-6))), (2, .int (q_I 1000000)), (0, .ref (q_ad G 0)), (1, .int (q_I w))] (Nat.le_of_ble_eq_true rfl) rfl ?_
      refine q_iconst F dX9_tells_28 ?_
      refine q_istore F dX9_tells_29 [(4, .int (q_I 1)), (3, .int (q_I (-6))), (2, .int (q_I 1000000)), (0, .ref (q_ad G 0)), (1, .int (q_I w))] (Nat.le_of_ble_eq_true rfl) rfl ?_
      have lp31_1 : ∀ (k31_1 : Nat) (fw : Int) (fd : Int) (p : Int), ((1 ≤ p ∧ p ≤ 10) ∧ (fd, fw) = q_fb (q_eWm (M 1) (M 2) (M 3) (M 0 0) (M 0 4) (fun i => M 5 (2 * i)) (fun i => M 5 (2 * i + 1)) (M 0 6)) (p - 1).toNat ∧ (1 ≤ p ∧ (p = 1 ∨ 0 < N13 0 19) ∧ (-2147483648 ≤ fw ∧ fw ≤ 2147483647))) → (10 - p).toNat = k31_1 → q_Y G E 7 N13 [(0, .ref (q_ad G 0)), (1, .int (q_I w)), (2, .int (q_I fw)), (3, .int (q_I fd)), (4, .int (q_I p))] 31 [] := by
        intro k31_1
        induction k31_1 using Nat.strongRecOn with
        | _ k31_1 ih31_1 =>
          intro fw fd p   hi31 hk31
          have hfb := q_fb_R (f := (q_eWm (M 1) (M 2) (M 3) (M 0 0) (M 0 4) (fun i => M 5 (2 * i)) (fun i => M 5 (2 * i + 1)) (M 0 6))) (p - 1).toNat
          rw [← hi31.2.1] at hfb
          have hfb1 : -6 ≤ fd ∧ fd ≤ ((p - 1).toNat : Int) ∧ (fd = -6 ∨ 1 ≤ fd) := hfb
          have hfwR : -2147483648 ≤ fw ∧ fw ≤ 2147483647 := hi31.2.2.2.2
          refine q_iload F dX9_tells_31 4 rfl ?_
          refine q_bipush F dX9_tells_33 (by decide) ?_
          refine q_icmp_ge F 134 dX9_tells_35 (by decide) (by omega) (fun c35 => ?_) (fun c35 => ?_)
          · refine q_iload_n F dX9_tells_134 3 rfl ?_
            refine q_if_lt F 142 dX9_tells_135 (by decide) (by omega) (fun c135 => ?_) (fun c135 => ?_)
            · refine q_iload_n F dX9_tells_142 3 rfl ?_
              refine q_goto F 147 dX9_tells_143 (by decide) ?_
              exact q_iret F FI dX9_tells_147 (by omega) ⟨by
                    have hp10 : p = 10 := by omega
                    have hn0 : ¬ q_eWc (M 1) (M 2) (M 3) (M 0 0) (M 0 4) (fun i => M 5 (2 * i)) (fun i => M 5 (2 * i + 1)) (M 0 6) = 0 := by rw [← he19]; omega
                    have hr := hi31.2.1
                    rw [hp10] at hr
                    unfold S9_tells
                    rw [if_pos d2, if_neg (by omega), if_neg hn0]
                    exfalso
                    have h1 : (fd, fw) = (q_best (q_eWm (M 1) (M 2) (M 3) (M 0 0) (M 0 4) (fun i => M 5 (2 * i)) (fun i => M 5 (2 * i + 1)) (M 0 6)) 8, (q_eWm (M 1) (M 2) (M 3) (M 0 0) (M 0 4) (fun i => M 5 (2 * i)) (fun i => M 5 (2 * i + 1)) (M 0 6)) (q_best (q_eWm (M 1) (M 2) (M 3) (M 0 0) (M 0 4) (fun i => M 5 (2 * i)) (fun i => M 5 (2 * i + 1)) (M 0 6)) 8)) := by
                      rw [hr]
                      exact q_fb_best (q_eWm_R h4) 8
                    have h2 := q_best_R (q_eWm (M 1) (M 2) (M 3) (M 0 0) (M 0 4) (fun i => M 5 (2 * i)) (fun i => M 5 (2 * i + 1)) (M 0 6)) 8
                    have h3 := congrArg Prod.fst h1
                    have h4 : fd = q_best (q_eWm (M 1) (M 2) (M 3) (M 0 0) (M 0 4) (fun i => M 5 (2 * i)) (fun i => M 5 (2 * i + 1)) (M 0 6)) 8 := h3
                    omega, hkz⟩
            · refine q_iload_n F dX9_tells_138 1 rfl ?_
              refine q_if_ne F 146 dX9_tells_139 (by decide) (by omega) (fun c139 => ?_) (fun c139 => ?_)
              · refine q_iload_n F dX9_tells_146 2 rfl ?_
                exact q_iret F FI dX9_tells_147 (by omega) ⟨by
                      have hp10 : p = 10 := by omega
                      have hn0 : ¬ q_eWc (M 1) (M 2) (M 3) (M 0 0) (M 0 4) (fun i => M 5 (2 * i)) (fun i => M 5 (2 * i + 1)) (M 0 6) = 0 := by rw [← he19]; omega
                      have hr := hi31.2.1
                      rw [hp10] at hr
                      unfold S9_tells
                      rw [if_pos d2, if_neg (by omega), if_neg hn0]
                      rw [if_neg c139]
                      exact congrArg Prod.snd hr, hkz⟩
              · refine q_iload_n F dX9_tells_142 3 rfl ?_
                refine q_goto F 147 dX9_tells_143 (by decide) ?_
                exact q_iret F FI dX9_tells_147 (by omega) ⟨by
                      have hp10 : p = 10 := by omega
                      have hn0 : ¬ q_eWc (M 1) (M 2) (M 3) (M 0 0) (M 0 4) (fun i => M 5 (2 * i)) (fun i => M 5 (2 * i + 1)) (M 0 6) = 0 := by rw [← he19]; omega
                      have hr := hi31.2.1
                      rw [hp10] at hr
                      unfold S9_tells
                      rw [if_pos d2, if_neg (by omega), if_neg hn0]
                      rw [if_pos c139]
                      exact congrArg Prod.fst hr, hkz⟩
          · refine q_aload_n F dX9_tells_38 0 rfl ?_
            refine q_geti (T := TX9) (ref := "LeastHungryModel") F huX9 rfl hm.1 19 (by decide) (by decide +kernel) rfl 19 rfl rfl dX9_tells_39 (fun h39 => ?_)
            refine q_if_le F 134 dX9_tells_42 (by decide) (by omega) (fun c42 => ?_) (fun c42 => ?_)
            · refine q_iload_n F dX9_tells_134 3 rfl ?_
              refine q_if_lt F 142 dX9_tells_135 (by decide) (by omega) (fun c135 => ?_) (fun c135 => ?_)
              · refine q_iload_n F dX9_tells_142 3 rfl ?_
                refine q_goto F 147 dX9_tells_143 (by decide) ?_
                exact q_iret F FI dX9_tells_147 (by omega) ⟨by
                      have hz0 : q_eWc (M 1) (M 2) (M 3) (M 0 0) (M 0 4) (fun i => M 5 (2 * i)) (fun i => M 5 (2 * i + 1)) (M 0 6) = 0 := by
                        rw [← he19]
                        have : 0 ≤ N13 0 19 := by rw [he19]; exact hcR.1
                        omega
                      have hp1 : p = 1 := by omega
                      have hr := hi31.2.1
                      rw [hp1] at hr
                      have hfd : fd = -6 := congrArg Prod.fst hr
                      unfold S9_tells
                      rw [if_pos d2, if_neg (by omega), if_pos hz0]
                      omega, hkz⟩
              · refine q_iload_n F dX9_tells_138 1 rfl ?_
                refine q_if_ne F 146 dX9_tells_139 (by decide) (by omega) (fun c139 => ?_) (fun c139 => ?_)
                · refine q_iload_n F dX9_tells_146 2 rfl ?_
                  exact q_iret F FI dX9_tells_147 (by omega) ⟨by
                        have hz0 : q_eWc (M 1) (M 2) (M 3) (M 0 0) (M 0 4) (fun i => M 5 (2 * i)) (fun i => M 5 (2 * i + 1)) (M 0 6) = 0 := by
                          rw [← he19]
                          have : 0 ≤ N13 0 19 := by rw [he19]; exact hcR.1
                          omega
                        have hp1 : p = 1 := by omega
                        have hr := hi31.2.1
                        rw [hp1] at hr
                        have hfd : fd = -6 := congrArg Prod.fst hr
                        unfold S9_tells
                        rw [if_pos d2, if_neg (by omega), if_pos hz0]
                        omega, hkz⟩
                · refine q_iload_n F dX9_tells_142 3 rfl ?_
                  refine q_goto F 147 dX9_tells_143 (by decide) ?_
                  exact q_iret F FI dX9_tells_147 (by omega) ⟨by
                        have hz0 : q_eWc (M 1) (M 2) (M 3) (M 0 0) (M 0 4) (fun i => M 5 (2 * i)) (fun i => M 5 (2 * i + 1)) (M 0 6) = 0 := by
                          rw [← he19]
                          have : 0 ≤ N13 0 19 := by rw [he19]; exact hcR.1
                          omega
                        have hp1 : p = 1 := by omega
                        have hr := hi31.2.1
                        rw [hp1] at hr
                        have hfd : fd = -6 := congrArg Prod.fst hr
                        unfold S9_tells
                        rw [if_pos d2, if_neg (by omega), if_pos hz0]
                        omega, hkz⟩
            · refine q_iconst F dX9_tells_45 ?_
              refine q_istore F dX9_tells_46 [(5, .int (q_I 0)), (0, .ref (q_ad G 0)), (1, .int (q_I w)), (2, .int (q_I fw)), (3, .int (q_I fd)), (4, .int (q_I p))] (Nat.le_of_ble_eq_true rfl) rfl ?_
              refine q_iconst F dX9_tells_48 ?_
              refine q_istore F dX9_tells_49 [(6, .int (q_I 0)), (5, .int (q_I 0)), (0, .ref (q_ad G 0)), (1, .int (q_I w)), (2, .int (q_I fw)), (3, .int (q_I fd)), (4, .int (q_I p))] (Nat.le_of_ble_eq_true rfl) rfl ?_
              have lp51_2 : ∀ (k51_2 : Nat) (ws : Int) (x : Int), ((0 ≤ x ∧ x ≤ 64) ∧ ws = q_mxN (q_eWt (M 1) (M 2) (M 3) (M 0 0) (M 0 4) (fun i => M 5 (2 * i)) (fun i => M 5 (2 * i + 1)) (M 0 6) p) x.toNat ∧ (0 ≤ ws ∧ ws ≤ 2147483647)) → (64 - x).toNat = k51_2 → q_Y G E 7 N13 [(0, .ref (q_ad G 0)), (1, .int (q_I w)), (2, .int (q_I fw)), (3, .int (q_I fd)), (4, .int (q_I p)), (5, .int (q_I ws)), (6, .int (q_I x))] 51 [] := by
                intro k51_2
                induction k51_2 using Nat.strongRecOn with
                | _ k51_2 ih51_2 =>
                  intro ws x   hi51 hk51
                  have htx : 0 ≤ x → x < 64 → N13 14 (64 * p + x) = q_eWt (M 1) (M 2) (M 3) (M 0 0) (M 0 4) (fun i => M 5 (2 * i)) (fun i => M 5 (2 * i + 1)) (M 0 6) p x := fun h0 h1 => ek.2.2 p x (by omega) (by omega) h0 (by omega)
                  have hM14 := hMN (64 * p + x)
                  refine q_iload F dX9_tells_51 6 rfl ?_
                  refine q_bipush F dX9_tells_53 (by decide) ?_
                  refine q_icmp_ge F 102 dX9_tells_55 (by decide) (by omega) (fun c55 => ?_) (fun c55 => ?_)
                  · have hws : ws = (q_eWm (M 1) (M 2) (M 3) (M 0 0) (M 0 4) (fun i => M 5 (2 * i)) (fun i => M 5 (2 * i + 1)) (M 0 6)) p := by rw [hi51.2.1, show x = 64 by omega]; rfl
                    refine q_iload F dX9_tells_102 5 rfl ?_
                    refine q_iload_n F dX9_tells_104 2 rfl ?_
                    refine q_icmp_ge F 113 dX9_tells_105 (by decide) (by omega) (fun c105 => ?_) (fun c105 => ?_)
                    · refine q_iload_n F dX9_tells_113 3 rfl ?_
                      refine q_istore_n F dX9_tells_114 [(3, .int (q_I fd)), (0, .ref (q_ad G 0)), (1, .int (q_I w)), (2, .int (q_I fw)), (4, .int (q_I p)), (5, .int (q_I ws)), (6, .int (q_I x))] (Nat.le_of_ble_eq_true rfl) rfl ?_
                      refine q_iload F dX9_tells_115 5 rfl ?_
                      refine q_iload_n F dX9_tells_117 3 rfl ?_
                      refine q_icmp_ge F 126 dX9_tells_118 (by decide) (by omega) (fun c118 => ?_) (fun c118 => ?_)
                      rotate_left
                      · exfalso; omega
                      refine q_iload_n F dX9_tells_126 3 rfl ?_
                      refine q_istore_n F dX9_tells_127 [(2, .int (q_I fw)), (3, .int (q_I fd)), (0, .ref (q_ad G 0)), (1, .int (q_I w)), (4, .int (q_I p)), (5, .int (q_I ws)), (6, .int (q_I x))] (Nat.le_of_ble_eq_true rfl) rfl ?_
                      obtain ⟨v128, e128⟩ : ∃ z_ : Int, z_ = p + 1 := ⟨_, rfl⟩
                      refine q_iinc F dX9_tells_128 4 rfl e128 [(4, .int (q_I v128)), (2, .int (q_I fw)), (3, .int (q_I fd)), (0, .ref (q_ad G 0)), (1, .int (q_I w)), (5, .int (q_I ws)), (6, .int (q_I x))] (Nat.le_of_ble_eq_true rfl) rfl ?_
                      refine q_goto F 31 dX9_tells_131 (by decide) ?_
                      refine q_drop [3, 4, 1, 2, 0] rfl ?_
                      exact ih31_1 _ (by omega) fw fd v128 ⟨by omega, by
                            rw [show (v128 - 1).toNat = (p - 1).toNat + 1 by omega, q_fb_s, ← hi31.2.1, show (((p - 1).toNat : Nat) : Int) + 1 = p by omega, ← hws]
                            rw [if_neg (by show ¬ ws < fw; omega)], by omega, Or.inr c42, by omega⟩ rfl
                    · refine q_iload F dX9_tells_108 4 rfl ?_
                      refine q_goto F 114 dX9_tells_110 (by decide) ?_
                      refine q_istore_n F dX9_tells_114 [(3, .int (q_I p)), (0, .ref (q_ad G 0)), (1, .int (q_I w)), (2, .int (q_I fw)), (4, .int (q_I p)), (5, .int (q_I ws)), (6, .int (q_I x))] (Nat.le_of_ble_eq_true rfl) rfl ?_
                      refine q_iload F dX9_tells_115 5 rfl ?_
                      refine q_iload_n F dX9_tells_117 3 rfl ?_
                      refine q_icmp_ge F 126 dX9_tells_118 (by decide) (by omega) (fun c118 => ?_) (fun c118 => ?_)
                      · exfalso; omega
                      refine q_iload F dX9_tells_121 5 rfl ?_
                      refine q_goto F 127 dX9_tells_123 (by decide) ?_
                      refine q_istore_n F dX9_tells_127 [(2, .int (q_I ws)), (3, .int (q_I p)), (0, .ref (q_ad G 0)), (1, .int (q_I w)), (4, .int (q_I p)), (5, .int (q_I ws)), (6, .int (q_I x))] (Nat.le_of_ble_eq_true rfl) rfl ?_
                      obtain ⟨v128, e128⟩ : ∃ z_ : Int, z_ = p + 1 := ⟨_, rfl⟩
                      refine q_iinc F dX9_tells_128 4 rfl e128 [(4, .int (q_I v128)), (2, .int (q_I ws)), (3, .int (q_I p)), (0, .ref (q_ad G 0)), (1, .int (q_I w)), (5, .int (q_I ws)), (6, .int (q_I x))] (Nat.le_of_ble_eq_true rfl) rfl ?_
                      refine q_goto F 31 dX9_tells_131 (by decide) ?_
                      refine q_drop [3, 4, 1, 2, 0] rfl ?_
                      exact ih31_1 _ (by omega) ws p v128 ⟨by omega, by
                            rw [show (v128 - 1).toNat = (p - 1).toNat + 1 by omega, q_fb_s, ← hi31.2.1, show (((p - 1).toNat : Nat) : Int) + 1 = p by omega, ← hws]
                            rw [if_pos (by show ws < fw; omega)], by omega, Or.inr c42, by omega⟩ rfl
                  · have ixR : 64 ≤ 64 * p ∧ 64 * p ≤ 576 := by omega
                    refine q_aload_n F dX9_tells_58 0 rfl ?_
                    refine q_getr (T := TX9) (ref := "LeastHungryModel") F huX9 rfl hm.1 22 (by decide) (by decide +kernel) rfl rfl dX9_tells_59 ?_
                    refine q_bipush F dX9_tells_62 (by decide) ?_
                    refine q_iload F dX9_tells_64 4 rfl ?_
                    refine q_imul F dX9_tells_66 ?_
                    refine q_iload F dX9_tells_67 6 rfl ?_
                    refine q_iadd F dX9_tells_69 ?_
                    refine q_iald F hm.2.2.2.2.2.2.2.2.2.2.2.2.2.2.1 (Nat.le_of_ble_eq_true rfl) (by omega) dX9_tells_70 (fun h70 => ?_)
                    refine q_iload F dX9_tells_71 5 rfl ?_
                    refine q_icmp_le F 92 dX9_tells_73 (by decide) (by omega) (fun c73 => ?_) (fun c73 => ?_)
                    · refine q_iload F dX9_tells_92 5 rfl ?_
                      refine q_istore F dX9_tells_94 [(5, .int (q_I ws)), (0, .ref (q_ad G 0)), (1, .int (q_I w)), (2, .int (q_I fw)), (3, .int (q_I fd)), (4, .int (q_I p)), (6, .int (q_I x))] (Nat.le_of_ble_eq_true rfl) rfl ?_
                      obtain ⟨v96, e96⟩ : ∃ z_ : Int, z_ = x + 1 := ⟨_, rfl⟩
                      refine q_iinc F dX9_tells_96 6 rfl e96 [(6, .int (q_I v96)), (5, .int (q_I ws)), (0, .ref (q_ad G 0)), (1, .int (q_I w)), (2, .int (q_I fw)), (3, .int (q_I fd)), (4, .int (q_I p))] (Nat.le_of_ble_eq_true rfl) rfl ?_
                      refine q_goto F 51 dX9_tells_99 (by decide) ?_
                      refine q_drop [2, 3, 4, 5, 6, 1, 0] rfl ?_
                      exact ih51_2 _ (by omega) ws v96 ⟨by omega, by
                            have hu : q_mxN (q_eWt (M 1) (M 2) (M 3) (M 0 0) (M 0 4) (fun i => M 5 (2 * i)) (fun i => M 5 (2 * i + 1)) (M 0 6) p) (x.toNat + 1) = max (q_mxN (q_eWt (M 1) (M 2) (M 3) (M 0 0) (M 0 4) (fun i => M 5 (2 * i)) (fun i => M 5 (2 * i + 1)) (M 0 6) p) x.toNat) (q_eWt (M 1) (M 2) (M 3) (M 0 0) (M 0 4) (fun i => M 5 (2 * i)) (fun i => M 5 (2 * i + 1)) (M 0 6) p x.toNat) := rfl
                            rw [e96, show (x + 1).toNat = x.toNat + 1 by omega, hu, ← hi51.2.1, Int.toNat_of_nonneg hi51.1.1, ← htx hi51.1.1 (by omega)]
                            omega, by omega⟩ rfl
                    · refine q_aload_n F dX9_tells_76 0 rfl ?_
                      refine q_getr (T := TX9) (ref := "LeastHungryModel") F huX9 rfl hm.1 22 (by decide) (by decide +kernel) rfl rfl dX9_tells_77 ?_
                      refine q_bipush F dX9_tells_80 (by decide) ?_
                      refine q_iload F dX9_tells_82 4 rfl ?_
                      refine q_imul F dX9_tells_84 ?_
                      refine q_iload F dX9_tells_85 6 rfl ?_
                      refine q_iadd F dX9_tells_87 ?_
                      refine q_iald F hm.2.2.2.2.2.2.2.2.2.2.2.2.2.2.1 (Nat.le_of_ble_eq_true rfl) (by omega) dX9_tells_88 (fun h88 => ?_)
                      refine q_goto F 94 dX9_tells_89 (by decide) ?_
                      refine q_nm (fun v94 e94 => ?_)
                      refine q_istore F dX9_tells_94 [(5, .int (q_I v94)), (0, .ref (q_ad G 0)), (1, .int (q_I w)), (2, .int (q_I fw)), (3, .int (q_I fd)), (4, .int (q_I p)), (6, .int (q_I x))] (Nat.le_of_ble_eq_true rfl) rfl ?_
                      obtain ⟨v96, e96⟩ : ∃ z_ : Int, z_ = x + 1 := ⟨_, rfl⟩
                      refine q_iinc F dX9_tells_96 6 rfl e96 [(6, .int (q_I v96)), (5, .int (q_I v94)), (0, .ref (q_ad G 0)), (1, .int (q_I w)), (2, .int (q_I fw)), (3, .int (q_I fd)), (4, .int (q_I p))] (Nat.le_of_ble_eq_true rfl) rfl ?_
                      refine q_goto F 51 dX9_tells_99 (by decide) ?_
                      refine q_drop [2, 3, 4, 5, 6, 1, 0] rfl ?_
                      exact ih51_2 _ (by omega) v94 v96 ⟨by omega, by
                            have hu : q_mxN (q_eWt (M 1) (M 2) (M 3) (M 0 0) (M 0 4) (fun i => M 5 (2 * i)) (fun i => M 5 (2 * i + 1)) (M 0 6) p) (x.toNat + 1) = max (q_mxN (q_eWt (M 1) (M 2) (M 3) (M 0 0) (M 0 4) (fun i => M 5 (2 * i)) (fun i => M 5 (2 * i + 1)) (M 0 6) p) x.toNat) (q_eWt (M 1) (M 2) (M 3) (M 0 0) (M 0 4) (fun i => M 5 (2 * i)) (fun i => M 5 (2 * i + 1)) (M 0 6) p x.toNat) := rfl
                            rw [e96, show (x + 1).toNat = x.toNat + 1 by omega, hu, ← hi51.2.1, Int.toNat_of_nonneg hi51.1.1, ← htx hi51.1.1 (by omega)]
                            omega, by omega⟩ rfl
              refine q_drop [2, 3, 4, 5, 6, 1, 0] rfl ?_
              exact lp51_2 _ 0 0 ⟨by omega, rfl, by omega⟩ rfl
      refine q_drop [3, 4, 2, 1, 0] rfl ?_
      exact lp31_1 _ 1000000 (-6) 1 ⟨by omega, rfl, by omega, Or.inl rfl, by omega⟩ rfl
    · have h4 := hno c16
      refine q_bipush F dX9_tells_19 (by decide) ?_
      exact q_iret F FI dX9_tells_21 (by omega) ⟨by unfold S9_tells; rw [if_pos d2, if_pos h4], hkz⟩
  · refine q_bipush F dX9_tells_9 (by decide) ?_
    exact q_iret F FI dX9_tells_11 (by omega) ⟨by unfold S9_tells; rw [if_neg (q_df c6)], q_kz_rf⟩
