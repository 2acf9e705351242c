/-! seats: rows by their numbers -/
theorem q_smN_add (F K : Int → Int) : ∀ n : Nat, q_smN (fun c => F c + K c) n = q_smN F n + q_smN K n
  | 0 => rfl
  | n + 1 => by
    rw [q_smN_s, q_smN_s, q_smN_s, q_smN_add F K n]
    omega
theorem q_smN_app (F : Int → Int) (a : Nat) : ∀ b : Nat, q_smN F (a + b) = q_smN F a + q_smN (fun c => F (a + c)) b
  | 0 => by simp [q_smN]
  | b + 1 => by
    rw [← Nat.add_assoc, q_smN_s, q_smN_s, q_smN_app F a b, Int.natCast_add]
    omega
theorem q_ctN_sm (P : Int → Bool) : ∀ n : Nat, q_ctN P n = q_smN (fun c => q_b (P c)) n
  | 0 => rfl
  | n + 1 => by
    rw [q_ctN_s, q_smN_s, q_ctN_sm P n]
/-- sums by the highest digit -/
theorem q_smN_6 (F : Int → Int) (N : Nat) : q_smN F (6 * N) = q_s6 (fun d => q_smN (fun c => F (d * N + c)) N) := by
  have e : 6 * N = N + N + N + N + N + N := by omega
  rw [e, q_smN_app, q_smN_app, q_smN_app, q_smN_app, q_smN_app]
  unfold q_s6
  have c0 : q_smN F N = q_smN (fun c => F (0 * (N : Int) + c)) N := q_smN_congr N (fun r _ _ => by rw [Int.zero_mul, Int.zero_add])
  have c1 : q_smN (fun c => F ((N : Int) + c)) N = q_smN (fun c => F (1 * (N : Int) + c)) N := q_smN_congr N (fun r _ _ => by rw [Int.one_mul])
  have c2 : q_smN (fun c => F (((N + N : Nat) : Int) + c)) N = q_smN (fun c => F (2 * (N : Int) + c)) N := q_smN_congr N (fun r _ _ => by rw [show (((N + N : Nat) : Int)) = 2 * (N : Int) by omega])
  have c3 : q_smN (fun c => F (((N + N + N : Nat) : Int) + c)) N = q_smN (fun c => F (3 * (N : Int) + c)) N := q_smN_congr N (fun r _ _ => by rw [show (((N + N + N : Nat) : Int)) = 3 * (N : Int) by omega])
  have c4 : q_smN (fun c => F (((N + N + N + N : Nat) : Int) + c)) N = q_smN (fun c => F (4 * (N : Int) + c)) N := q_smN_congr N (fun r _ _ => by rw [show (((N + N + N + N : Nat) : Int)) = 4 * (N : Int) by omega])
  have c5 : q_smN (fun c => F (((N + N + N + N + N : Nat) : Int) + c)) N = q_smN (fun c => F (5 * (N : Int) + c)) N := q_smN_congr N (fun r _ _ => by rw [show (((N + N + N + N + N : Nat) : Int)) = 5 * (N : Int) by omega])
  rw [c0, c1, c2, c3, c4, c5]
theorem q_pw_add (b : Int) (x : Nat) : ∀ y : Nat, q_pw b (x + y) = q_pw b x * q_pw b y
  | 0 => by simp [q_pw]
  | y + 1 => by
    rw [← Nat.add_assoc, q_pw_s, q_pw_s, q_pw_add b x y, Int.mul_assoc]
theorem q_dg_add {c d : Int} {n m : Nat} (h : n < m) : (c + d * q_pw 6 m) / q_pw 6 n % 6 = c / q_pw 6 n % 6 := by
  have hp := q_pw_pos (b := 6) (by omega) n
  have e : d * q_pw 6 m = d * q_pw 6 (m - n - 1) * 6 * q_pw 6 n := by
    rw [show m = (m - n - 1) + 1 + n by omega, q_pw_add, q_pw_s, ← Int.mul_assoc, ← Int.mul_assoc, show m - n - 1 + 1 + n - n - 1 = m - n - 1 by omega]
  rw [e, Int.add_mul_ediv_right _ _ (by omega), Int.add_mul_emod_self_right]
theorem q_dg_top {c d : Int} {n : Nat} (h0 : 0 ≤ c) (h1 : c < q_pw 6 n) (d0 : 0 ≤ d) (d1 : d < 6) : (d * q_pw 6 n + c) / q_pw 6 n % 6 = d := by
  have hp := q_pw_pos (b := 6) (by omega) n
  rw [Int.add_comm, Int.add_mul_ediv_right _ _ (by omega), Int.ediv_eq_zero_of_lt h0 h1]
  omega
def q_vd (F : Int → Int) : Nat → Int → Int → Int → Bool
  | 0, _, _, _ => true
  | n + 1, S, fo, c => q_has S (c / q_pw 6 n % 6) && !q_has fo (c / q_pw 6 n % 6) && q_vd F n (q_minus S (c / q_pw 6 n % 6)) (F (c / q_pw 6 n % 6)) c
theorem q_vd_s (F : Int → Int) (n : Nat) (S fo c : Int) : q_vd F (n + 1) S fo c = (q_has S (c / q_pw 6 n % 6) && !q_has fo (c / q_pw 6 n % 6) && q_vd F n (q_minus S (c / q_pw 6 n % 6)) (F (c / q_pw 6 n % 6)) c) := rfl
theorem q_vd_add {F : Int → Int} {c d : Int} {m : Nat} : ∀ (n : Nat) (S fo : Int), n ≤ m → q_vd F n S fo (c + d * q_pw 6 m) = q_vd F n S fo c
  | 0, _, _, _ => rfl
  | n + 1, S, fo, h => by
    rw [q_vd_s, q_vd_s, q_dg_add (show n < m by omega), q_vd_add n _ _ (by omega)]
theorem q_vd_top {F : Int → Int} {c d S fo : Int} {n : Nat} (h0 : 0 ≤ c) (h1 : c < q_pw 6 n) (d0 : 0 ≤ d) (d1 : d < 6) : q_vd F (n + 1) S fo (d * q_pw 6 n + c) = (q_has S d && !q_has fo d && q_vd F n (q_minus S d) (F d) c) := by
  rw [q_vd_s, q_dg_top h0 h1 d0 d1, Int.add_comm (d * q_pw 6 n) c, q_vd_add n _ _ (by omega)]
theorem q_pwN (n : Nat) : (((q_pw 6 n).toNat : Nat) : Int) = q_pw 6 n := Int.toNat_of_nonneg (Int.le_of_lt (q_pw_pos (by omega) n))
theorem q_pwN_s (n : Nat) : (q_pw 6 (n + 1)).toNat = 6 * (q_pw 6 n).toNat := by
  have := q_pwN n
  have h2 := q_pwN (n + 1)
  rw [q_pw_s] at h2 ⊢
  omega
theorem q_smN_0 {F : Int → Int} : ∀ n : Nat, (∀ r : Int, 0 ≤ r → r < n → F r = 0) → q_smN F n = 0
  | 0, _ => rfl
  | n + 1, h => by
    rw [q_smN_s, q_smN_0 n (fun r h0 h1 => h r h0 (by omega)), h n (by omega) (by omega)]
    rfl
theorem q_minus_0 {s g : Int} (h : 0 ≤ s ∧ s ≤ 63) (hg : q_has s g = true) : q_minus s g = 0 ↔ q_cnt (q_has s) = 1 := by
  have hi := q_has_in hg
  have h1 := q_minus_lt h hg
  rw [← q_cnt_0s (q_minus_R h hi.1 hi.2)]
  omega
/-- how many rows there are: the class's count -/
theorem q_vd_cnt {F : Int → Int} (hF : q_fm F) : ∀ (n : Nat) (S fo : Int), 0 ≤ S ∧ S ≤ 63 → 0 ≤ fo ∧ fo ≤ 63 → q_cnt (q_has S) = n → q_ctN (q_vd F n S fo) (q_pw 6 n).toNat = if n = 0 then 1 else q_rb F S fo
  | 0, _, _, _, _, _ => rfl
  | n + 1, S, fo, hS, hfo, hn => by
    rw [q_ctN_sm, q_pwN_s, q_smN_6, if_neg (by omega)]
    unfold q_rb
    refine q_s6_congr (fun d d0 d1 => ?_)
    rw [q_has_and hS hfo d0 d1]
    have e : q_smN (fun c => q_b (q_vd F (n + 1) S fo (d * ((q_pw 6 n).toNat : Int) + c))) (q_pw 6 n).toNat = q_smN (fun c => q_b (q_has S d && !q_has fo d && q_vd F n (q_minus S d) (F d) c)) (q_pw 6 n).toNat := q_smN_congr _ (fun c c0 c1 => by
      rw [q_pwN] at c1 ⊢
      rw [q_vd_top c0 c1 d0 d1])
    rw [e]
    cases hb : (q_has S d && !q_has fo d)
    · rw [if_neg (by decide)]
      exact q_smN_0 _ (fun r _ _ => rfl)
    · rw [if_pos rfl]
      have hd : q_has S d = true := by
        simp only [Bool.and_eq_true] at hb
        exact hb.1
      have h1 := q_minus_lt hS hd
      have ih := q_vd_cnt hF n (q_minus S d) (F d) (q_minus_R hS d0 d1) (hF d d0 d1) (by omega)
      rw [q_ctN_sm] at ih
      have e2 : q_smN (fun c => q_b (true && q_vd F n (q_minus S d) (F d) c)) (q_pw 6 n).toNat = q_smN (fun c => q_b (q_vd F n (q_minus S d) (F d) c)) (q_pw 6 n).toNat := q_smN_congr _ (fun c _ _ => by rw [Bool.true_and])
      rw [e2, ih, q_wy_6 hF hS hd]
      have hz := q_minus_0 hS hd
      by_cases h0 : n = 0
      · rw [if_pos h0, if_pos (hz.mpr (by omega))]
      · rw [if_neg h0, if_neg (fun q => h0 (by have := hz.mp q; omega))]
theorem q_ctN_pos {P : Int → Bool} : ∀ n : Nat, 0 < q_ctN P n → ∃ c : Int, 0 ≤ c ∧ c < n ∧ P c = true
  | 0, h => by simp [q_ctN] at h
  | n + 1, h => by
    by_cases hp : P n = true
    · exact ⟨n, by omega, by omega, hp⟩
    · rw [q_ctN_s, show P n = false from by simpa using hp] at h
      obtain ⟨c, c0, c1, hc⟩ := q_ctN_pos n (by simpa [q_b] using h)
      exact ⟨c, c0, by omega, hc⟩
theorem q_ctN_mem {P : Int → Bool} {c : Int} : ∀ n : Nat, 0 ≤ c → c < n → P c = true → 0 < q_ctN P n
  | 0, h0, h1, _ => by omega
  | n + 1, h0, h1, hp => by
    rw [q_ctN_s]
    have := q_ctN_R P n
    have := q_bB (P n)
    by_cases hc : c = n
    · rw [← hc, hp]
      simp only [q_b]
      simp
      omega
    · have := q_ctN_mem n h0 (by omega) hp
      omega
theorem q_first_is {P : Int → Bool} {d : Int} : ∀ (n : Nat) (k : Int), k ≤ d → d < k + n → P d = true → (∀ x, k ≤ x → x < d → P x = false) → q_first P n k = d
  | 0, k, h0, h1, _, _ => by omega
  | n + 1, k, h0, h1, hp, hl => by
    rw [q_first_u]
    by_cases hk : k = d
    · rw [hk, if_pos hp]
    · rw [if_neg (by rw [hl k (by omega) (by omega)]; decide)]
      exact q_first_is n (k + 1) (by omega) (by omega) hp (fun x x0 x1 => hl x (by omega) x1)
/-- who sits, from a set and foes on -/
def q_tp (F : Int → Int) (y : Int × Int × Int) : Int × Int × Int := (q_minus y.1 (q_first (q_fsP F y.1 y.2.1) 6 0), F (q_first (q_fsP F y.1 y.2.1) 6 0), q_first (q_fsP F y.1 y.2.1) 6 0)
def q_itr (F : Int → Int) : Nat → Int × Int × Int → Int × Int × Int
  | 0, y => y
  | n + 1, y => q_tp F (q_itr F n y)
theorem q_itr_s (F : Int → Int) : ∀ (n : Nat) (y : Int × Int × Int), q_itr F (n + 1) y = q_itr F n (q_tp F y)
  | 0, _ => rfl
  | n + 1, y => by
    show q_tp F (q_itr F (n + 1) y) = q_tp F (q_itr F n (q_tp F y))
    rw [q_itr_s F n y]
theorem q_sit_it (F : Int → Int) (s : Int) : ∀ n : Nat, q_sit F s n = q_itr F n (s, 0, -6)
  | 0 => rfl
  | n + 1 => by
    show q_tp F (q_sit F s n) = q_tp F (q_itr F n (s, 0, -6))
    rw [q_sit_it F s n]
/-- the first row by letters is the least number -/
theorem q_vd_first {F : Int → Int} (hF : q_fm F) : ∀ (n : Nat) (S fo z c0 : Int) (k : Nat), 0 ≤ S ∧ S ≤ 63 → 0 ≤ fo ∧ fo ≤ 63 → q_cnt (q_has S) = n → 0 ≤ c0 → c0 < q_pw 6 n → q_vd F n S fo c0 = true → (∀ c, 0 ≤ c → c < c0 → q_vd F n S fo c = false) → k < n → (q_itr F (k + 1) (S, fo, z)).2.2 = c0 / q_pw 6 (n - 1 - k) % 6
  | 0, _, _, _, _, _, _, _, _, _, _, _, _, hk => by omega
  | n + 1, S, fo, z, c0, k, hS, hfo, hn, h0, h1, hv, hl, hk => by
    have hp := q_pw_pos (b := 6) (by omega) n
    obtain ⟨d, hd⟩ : ∃ d : Int, d = c0 / q_pw 6 n := ⟨_, rfl⟩
    obtain ⟨c', hc'⟩ : ∃ c' : Int, c' = c0 % q_pw 6 n := ⟨_, rfl⟩
    have hc : c0 = d * q_pw 6 n + c' := by
      rw [hd, hc', Int.mul_comm]
      exact (Int.mul_ediv_add_emod c0 (q_pw 6 n)).symm
    have hc0 : 0 ≤ c' := by rw [hc']; exact Int.emod_nonneg _ (by omega)
    have hc1 : c' < q_pw 6 n := by rw [hc']; exact Int.emod_lt_of_pos _ hp
    have hd0 : 0 ≤ d := by rw [hd]; exact Int.ediv_nonneg h0 (by omega)
    have hd1 : d < 6 := by
      rw [hd]
      rw [q_pw_s] at h1
      exact Int.ediv_lt_of_lt_mul hp (by rw [Int.mul_comm]; exact h1)
    rw [hc, q_vd_top hc0 hc1 hd0 hd1] at hv
    simp only [Bool.and_eq_true] at hv
    obtain ⟨⟨hv1, hv2⟩, hv3⟩ := hv
    have hm := q_minus_lt hS hv1
    have hMR := q_minus_R hS hd0 hd1
    have pos : ∀ x, 0 ≤ x → x < 6 → q_has S x = true → (0 < q_wy F 6 S x ↔ ∃ c, 0 ≤ c ∧ c < q_pw 6 n ∧ q_vd F n (q_minus S x) (F x) c = true) := fun x x0 x1 hx => by
      have hm' := q_minus_lt hS hx
      have hcn := q_vd_cnt hF n (q_minus S x) (F x) (q_minus_R hS x0 x1) (hF x x0 x1) (by omega)
      have hz := q_minus_0 hS hx
      have e : q_wy F 6 S x = q_ctN (q_vd F n (q_minus S x) (F x)) (q_pw 6 n).toNat := by
        rw [hcn, q_wy_6 hF hS hx]
        by_cases hn0 : n = 0
        · rw [if_pos hn0, if_pos (hz.mpr (by omega))]
        · rw [if_neg hn0, if_neg (fun q => hn0 (by have := hz.mp q; omega))]
      rw [e]
      constructor
      · intro h
        obtain ⟨c, a, b, q⟩ := q_ctN_pos _ h
        rw [q_pwN] at b
        exact ⟨c, a, b, q⟩
      · rintro ⟨c, a, b, q⟩
        exact q_ctN_mem _ a (by rw [q_pwN]; exact b) q
    have hfs : ∀ x, 0 ≤ x → x < 6 → q_fsP F S fo x = (q_has S x && !q_has fo x && decide (0 < q_wy F 6 S x)) := fun x x0 x1 => by
      unfold q_fsP
      rw [q_has_and hS hfo x0 x1]
    have hfirst : q_first (q_fsP F S fo) 6 0 = d := q_first_is 6 0 hd0 (by omega) (by
      rw [hfs d hd0 hd1, hv1, hv2, decide_eq_true ((pos d hd0 hd1 hv1).mpr ⟨c', hc0, hc1, hv3⟩)]
      rfl) (fun x x0 x1 => by
      rw [hfs x x0 (by omega)]
      cases hx : (q_has S x && !q_has fo x)
      · rfl
      · rw [Bool.true_and]
        refine decide_eq_false (fun hw => ?_)
        simp only [Bool.and_eq_true] at hx
        obtain ⟨c, a, b, q⟩ := (pos x x0 (by omega) hx.1).mp hw
        have := hl (x * q_pw 6 n + c) (by have := Int.mul_nonneg x0 (Int.le_of_lt hp); omega) (by
          rw [hc]
          have h3 : (x + 1) * q_pw 6 n ≤ d * q_pw 6 n := Int.mul_le_mul_of_nonneg_right (by omega) (by omega)
          rw [Int.add_mul, Int.one_mul] at h3
          omega)
        rw [q_vd_top a b x0 (by omega), hx.1, hx.2, q] at this
        cases this)
    rw [q_itr_s]
    have htp : q_tp F (S, fo, z) = (q_minus S d, F d, d) := by
      unfold q_tp
      show (q_minus S (q_first (q_fsP F S fo) 6 0), F (q_first (q_fsP F S fo) 6 0), q_first (q_fsP F S fo) 6 0) = _
      rw [hfirst]
    rw [htp]
    by_cases hk0 : k = 0
    · subst hk0
      show d = _
      rw [hc, show n + 1 - 1 - 0 = n by omega, q_dg_top hc0 hc1 hd0 hd1]
    · have ih := q_vd_first hF n (q_minus S d) (F d) d c' (k - 1) hMR (hF d hd0 hd1) (by omega) hc0 hc1 hv3 (fun c a b => by
        have := hl (d * q_pw 6 n + c) (by have := Int.mul_nonneg hd0 (Int.le_of_lt hp); omega) (by omega)
        rw [q_vd_top a (by omega) hd0 hd1, hv1, hv2] at this
        simpa using this) (by omega)
      rw [show k - 1 + 1 = k by omega] at ih
      rw [ih, hc, Int.add_comm (d * q_pw 6 n) c', show n + 1 - 1 - k = n - 1 - (k - 1) by omega, q_dg_add (by omega)]
