/-! SETS of six as numbers, counts, sums and greatest of six -/
def q_has (s g : Int) : Bool := decide (0 ≤ g ∧ g < 6) && s.toNat.testBit g.toNat
def q_set (P : Int → Bool) : Int := q_b (P 0) + 2 * q_b (P 1) + 4 * q_b (P 2) + 8 * q_b (P 3) + 16 * q_b (P 4) + 32 * q_b (P 5)
def q_s6 (f : Int → Int) : Int := f 0 + f 1 + f 2 + f 3 + f 4 + f 5
def q_cnt (P : Int → Bool) : Int := q_s6 (fun x => q_b (P x))
def q_m6 (f : Int → Int) : Int := max (max (max (max (max (max 0 (f 0)) (f 1)) (f 2)) (f 3)) (f 4)) (f 5)
def q_lt (P : Int → Bool) (g : Int) : Int → Bool := fun x => decide (x < g) && P x
def q_lz (f : Int → Int) (g : Int) : Int → Int := fun x => if x < g then f x else 0
theorem q_g6 {g : Int} (h0 : 0 ≤ g) (h1 : g < 6) : g = 0 ∨ g = 1 ∨ g = 2 ∨ g = 3 ∨ g = 4 ∨ g = 5 := by omega
theorem q_bB (b : Bool) : 0 ≤ q_b b ∧ q_b b ≤ 1 := by cases b <;> simp [q_b]
theorem q_set_R (P : Int → Bool) : 0 ≤ q_set P ∧ q_set P ≤ 63 := by
  unfold q_set
  have h0 := q_bB (P 0)
  have h1 := q_bB (P 1)
  have h2 := q_bB (P 2)
  have h3 := q_bB (P 3)
  have h4 := q_bB (P 4)
  have h5 := q_bB (P 5)
  omega
theorem q_has_set {P : Int → Bool} {g : Int} (h0 : 0 ≤ g) (h1 : g < 6) : q_has (q_set P) g = P g := by
  unfold q_set
  rcases q_g6 h0 h1 with rfl | rfl | rfl | rfl | rfl | rfl <;> (generalize P 0 = a0; generalize P 1 = a1; generalize P 2 = a2; generalize P 3 = a3; generalize P 4 = a4; generalize P 5 = a5) <;> revert a0 a1 a2 a3 a4 a5 <;> decide
theorem q_has_out {s g : Int} (h : ¬ (0 ≤ g ∧ g < 6)) : q_has s g = false := by simp [q_has, h]
theorem q_has_in {s g : Int} (h : q_has s g = true) : 0 ≤ g ∧ g < 6 := by
  unfold q_has at h
  simp only [Bool.and_eq_true, decide_eq_true_eq] at h
  exact h.1
theorem q_set_congr {P Q : Int → Bool} (h : ∀ g, 0 ≤ g → g < 6 → P g = Q g) : q_set P = q_set Q := by
  unfold q_set
  rw [h 0 (by omega) (by omega), h 1 (by omega) (by omega), h 2 (by omega) (by omega), h 3 (by omega) (by omega), h 4 (by omega) (by omega), h 5 (by omega) (by omega)]
theorem q_s6_congr {f k : Int → Int} (h : ∀ g, 0 ≤ g → g < 6 → f g = k g) : q_s6 f = q_s6 k := by
  unfold q_s6
  rw [h 0 (by omega) (by omega), h 1 (by omega) (by omega), h 2 (by omega) (by omega), h 3 (by omega) (by omega), h 4 (by omega) (by omega), h 5 (by omega) (by omega)]
theorem q_m6_congr {f k : Int → Int} (h : ∀ g, 0 ≤ g → g < 6 → f g = k g) : q_m6 f = q_m6 k := by
  unfold q_m6
  rw [h 0 (by omega) (by omega), h 1 (by omega) (by omega), h 2 (by omega) (by omega), h 3 (by omega) (by omega), h 4 (by omega) (by omega), h 5 (by omega) (by omega)]
theorem q_cnt_congr {P Q : Int → Bool} (h : ∀ g, 0 ≤ g → g < 6 → P g = Q g) : q_cnt P = q_cnt Q := q_s6_congr (fun g h0 h1 => by rw [h g h0 h1])
theorem q_dec64 {p : Int → Prop} (h : ∀ n : Nat, n < 64 → p (n : Int)) {s : Int} (h0 : 0 ≤ s) (h1 : s ≤ 63) : p s := by
  have := h s.toNat (by omega)
  rwa [Int.toNat_of_nonneg h0] at this
theorem q_dec6 {p : Int → Prop} (h : ∀ n : Nat, n < 6 → p (n : Int)) {s : Int} (h0 : 0 ≤ s) (h1 : s < 6) : p s := by
  have := h s.toNat (by omega)
  rwa [Int.toNat_of_nonneg h0] at this
theorem q_set_has {s : Int} (h0 : 0 ≤ s) (h1 : s ≤ 63) : q_set (q_has s) = s := q_dec64 (p := fun s => q_set (q_has s) = s) (by decide +kernel) h0 h1
theorem q_set_eq {s : Int} {P : Int → Bool} (h0 : 0 ≤ s) (h1 : s ≤ 63) (h : ∀ g, 0 ≤ g → g < 6 → q_has s g = P g) : s = q_set P := by
  rw [← q_set_has h0 h1]
  exact q_set_congr h
theorem q_bit {s g : Int} (h0 : 0 ≤ s) (h1 : s ≤ 63) (g0 : 0 ≤ g) (g1 : g < 6) : q_and (q_shr s g) 1 = q_b (q_has s g) :=
  q_dec64 (p := fun s => q_and (q_shr s g) 1 = q_b (q_has s g)) (q_dec6 (p := fun g => ∀ n : Nat, n < 64 → q_and (q_shr (n : Int) g) 1 = q_b (q_has (n : Int) g)) (by decide +kernel) g0 g1) h0 h1
theorem q_orb {s g : Int} (h0 : 0 ≤ s) (h1 : s ≤ 63) (g0 : 0 ≤ g) (g1 : g < 6) : q_or s (q_shl 1 g) = q_set (fun x => q_has s x || decide (x = g)) :=
  q_dec64 (p := fun s => q_or s (q_shl 1 g) = q_set (fun x => q_has s x || decide (x = g))) (q_dec6 (p := fun g => ∀ n : Nat, n < 64 → q_or (n : Int) (q_shl 1 g) = q_set (fun x => q_has (n : Int) x || decide (x = g))) (by decide +kernel) g0 g1) h0 h1
theorem q_andn {s t : Int} (h0 : 0 ≤ s) (h1 : s ≤ 63) (t0 : 0 ≤ t) (t1 : t ≤ 63) : q_and s (q_xor t (-1)) = q_set (fun x => q_has s x && !q_has t x) :=
  q_dec64 (p := fun s => q_and s (q_xor t (-1)) = q_set (fun x => q_has s x && !q_has t x)) (q_dec64 (p := fun t => ∀ n : Nat, n < 64 → q_and (n : Int) (q_xor t (-1)) = q_set (fun x => q_has (n : Int) x && !q_has t x)) (by decide +kernel) t0 t1) h0 h1
theorem q_ands {s t : Int} (h0 : 0 ≤ s) (h1 : s ≤ 63) (t0 : 0 ≤ t) (t1 : t ≤ 63) : q_and s t = q_set (fun x => q_has s x && q_has t x) :=
  q_dec64 (p := fun s => q_and s t = q_set (fun x => q_has s x && q_has t x)) (q_dec64 (p := fun t => ∀ n : Nat, n < 64 → q_and (n : Int) t = q_set (fun x => q_has (n : Int) x && q_has t x)) (by decide +kernel) t0 t1) h0 h1
theorem q_andb {s g : Int} (h0 : 0 ≤ s) (h1 : s ≤ 63) (g0 : 0 ≤ g) (g1 : g < 6) : q_and s (q_xor (q_shl 1 g) (-1)) = q_set (fun x => q_has s x && !decide (x = g)) :=
  q_dec64 (p := fun s => q_and s (q_xor (q_shl 1 g) (-1)) = q_set (fun x => q_has s x && !decide (x = g))) (q_dec6 (p := fun g => ∀ n : Nat, n < 64 → q_and (n : Int) (q_xor (q_shl 1 g) (-1)) = q_set (fun x => q_has (n : Int) x && !decide (x = g))) (by decide +kernel) g0 g1) h0 h1
theorem q_set_0 (P : Int → Bool) : q_set (q_lt P 0) = 0 := by simp [q_set, q_lt, q_b]
theorem q_cnt_0 (P : Int → Bool) : q_cnt (q_lt P 0) = 0 := by simp [q_cnt, q_s6, q_lt, q_b]
theorem q_s6_0 (f : Int → Int) : q_s6 (q_lz f 0) = 0 := by simp [q_s6, q_lz]
theorem q_m6_0 (f : Int → Int) : q_m6 (q_lz f 0) = 0 := by simp [q_m6, q_lz]
theorem q_set_6 (P : Int → Bool) : q_set (q_lt P 6) = q_set P := q_set_congr (fun g h0 h1 => by simp [q_lt, h1])
theorem q_cnt_6 (P : Int → Bool) : q_cnt (q_lt P 6) = q_cnt P := q_cnt_congr (fun g h0 h1 => by simp [q_lt, h1])
theorem q_s6_6 (f : Int → Int) : q_s6 (q_lz f 6) = q_s6 f := q_s6_congr (fun g h0 h1 => by simp [q_lz, h1])
theorem q_m6_6 (f : Int → Int) : q_m6 (q_lz f 6) = q_m6 f := q_m6_congr (fun g h0 h1 => by simp [q_lz, h1])
theorem q_set_step (P : Int → Bool) {g : Int} (g0 : 0 ≤ g) (g1 : g < 6) : q_set (q_lt P (g + 1)) = if P g = true then q_or (q_set (q_lt P g)) (q_shl 1 g) else q_set (q_lt P g) := by
  have hr := q_set_R (q_lt P g)
  by_cases h : P g = true
  · rw [if_pos h, q_orb hr.1 hr.2 g0 g1]
    refine q_set_congr (fun x x0 x1 => ?_)
    rw [q_has_set x0 x1]
    unfold q_lt
    by_cases hx : x = g
    · subst hx; simp [h]; omega
    · by_cases hl : x < g
      · simp [hx, hl]; omega
      · have : ¬ x < g + 1 := by omega
        simp [hx, hl, this]
  · rw [if_neg h]
    refine q_set_congr (fun x x0 x1 => ?_)
    unfold q_lt
    by_cases hx : x = g
    · subst hx; simp [h]
    · by_cases hl : x < g
      · have : x < g + 1 := by omega
        simp [hl, this]
      · have : ¬ x < g + 1 := by omega
        simp [hl, this]
theorem q_s6_step (f : Int → Int) {g : Int} (g0 : 0 ≤ g) (g1 : g < 6) : q_s6 (q_lz f (g + 1)) = q_s6 (q_lz f g) + f g := by
  unfold q_s6 q_lz
  rcases q_g6 g0 g1 with rfl | rfl | rfl | rfl | rfl | rfl <;> simp
theorem q_cnt_lz (P : Int → Bool) (g : Int) : q_cnt (q_lt P g) = q_s6 (q_lz (fun x => q_b (P x)) g) := by
  unfold q_cnt
  refine q_s6_congr (fun x _ _ => ?_)
  unfold q_lt q_lz
  by_cases h : x < g <;> simp [h, q_b]
theorem q_cnt_step (P : Int → Bool) {g : Int} (g0 : 0 ≤ g) (g1 : g < 6) : q_cnt (q_lt P (g + 1)) = if P g = true then q_cnt (q_lt P g) + 1 else q_cnt (q_lt P g) := by
  rw [q_cnt_lz, q_s6_step _ g0 g1, ← q_cnt_lz]
  by_cases h : P g = true <;> simp [h, q_b]
theorem q_m6_step (f : Int → Int) {g : Int} (hf : ∀ x, 0 ≤ x → x < 6 → 0 ≤ f x) (g0 : 0 ≤ g) (g1 : g < 6) : q_m6 (q_lz f (g + 1)) = max (q_m6 (q_lz f g)) (f g) := by
  have h0 := hf 0 (by omega) (by omega)
  have h1 := hf 1 (by omega) (by omega)
  have h2 := hf 2 (by omega) (by omega)
  have h3 := hf 3 (by omega) (by omega)
  have h4 := hf 4 (by omega) (by omega)
  have h5 := hf 5 (by omega) (by omega)
  unfold q_m6 q_lz
  rcases q_g6 g0 g1 with rfl | rfl | rfl | rfl | rfl | rfl <;> simp <;> omega
theorem q_cnt_R (P : Int → Bool) : 0 ≤ q_cnt P ∧ q_cnt P ≤ 6 := by
  simp only [q_cnt, q_s6]
  have h0 := q_bB (P 0)
  have h1 := q_bB (P 1)
  have h2 := q_bB (P 2)
  have h3 := q_bB (P 3)
  have h4 := q_bB (P 4)
  have h5 := q_bB (P 5)
  omega
/-- frames: all cells but one, but some -/
def q_fr (k : Nat) (M M' : q_M) : Prop := ∀ j, j ≠ k → M' j = M j
theorem q_fr_up {M M' : q_M} {k : Nat} {i v : Int} (h : M' = q_up M k i v) : q_fr k M M' := fun j hj => by rw [h, q_up_ne hj]
theorem q_fr_rf {M : q_M} {k : Nat} : q_fr k M M := fun _ _ => rfl
theorem q_fr_tr {M M1 M2 : q_M} {k : Nat} (h1 : q_fr k M M1) (h2 : q_fr k M1 M2) : q_fr k M M2 := fun j hj => (h2 j hj).trans (h1 j hj)
