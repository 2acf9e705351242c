/-! the two orders of worlds are one -/
def q_rv : Nat → Int → Int
  | 0, _ => 0
  | n + 1, r => (r % 6) * q_pw 6 n + q_rv n (r / 6)
theorem q_rv_s (n : Nat) (r : Int) : q_rv (n + 1) r = (r % 6) * q_pw 6 n + q_rv n (r / 6) := rfl
theorem q_rv_R : ∀ (n : Nat) (r : Int), 0 ≤ q_rv n r ∧ q_rv n r < q_pw 6 n
  | 0, _ => by simp [q_rv, q_pw]
  | n + 1, r => by
    have h := q_rv_R n (r / 6)
    have hp := q_pw_pos (b := 6) (by omega) n
    rw [q_rv_s, q_pw_s]
    have h6 : 0 ≤ r % 6 ∧ r % 6 ≤ 5 := by omega
    have h1 := Int.mul_nonneg h6.1 (Int.le_of_lt hp)
    have h2 : r % 6 * q_pw 6 n ≤ 5 * q_pw 6 n := Int.mul_le_mul_of_nonneg_right h6.2 (by omega)
    omega
theorem q_rv_d : ∀ (n : Nat) (r : Int) (j : Nat), 0 ≤ r → j < n → q_rv n r / q_pw 6 (n - 1 - j) % 6 = r / q_pw 6 j % 6
  | 0, _, _, _, h => by omega
  | n + 1, r, j, hr, h => by
    have hR := q_rv_R n (r / 6)
    rw [q_rv_s]
    by_cases hj : j = 0
    · subst hj
      rw [show n + 1 - 1 - 0 = n by omega, q_dg_top hR.1 hR.2 (by omega) (by omega)]
      show r % 6 = r / 1 % 6
      rw [Int.ediv_one]
    · rw [Int.add_comm, show n + 1 - 1 - j = n - 1 - (j - 1) by omega, q_dg_add (by omega), q_rv_d n (r / 6) (j - 1) (by omega) (by omega)]
      have e : r / q_pw 6 j = r / 6 / q_pw 6 (j - 1) := by
        rw [Int.ediv_ediv_of_nonneg (by omega), show j = (j - 1) + 1 by omega, q_pw_s, show j - 1 + 1 - 1 = j - 1 by omega, Int.mul_comm]
      rw [e]
theorem q_smN_b1 (G : Int → Int) : ∀ N : Nat, q_smN G (N * 6) = q_smN (fun c => q_s6 (fun d => G (6 * c + d))) N
  | 0 => rfl
  | N + 1 => by
    have e : (N + 1) * 6 = N * 6 + 1 + 1 + 1 + 1 + 1 + 1 := by omega
    rw [e, q_smN_s, q_smN_s, q_smN_s, q_smN_s, q_smN_s, q_smN_s, q_smN_b1 G N, q_smN_s]
    simp only [q_s6]
    have c0 : ((N * 6 : Nat) : Int) = 6 * (N : Int) + 0 := by omega
    have c1 : ((N * 6 + 1 : Nat) : Int) = 6 * (N : Int) + 1 := by omega
    have c2 : ((N * 6 + 1 + 1 : Nat) : Int) = 6 * (N : Int) + 2 := by omega
    have c3 : ((N * 6 + 1 + 1 + 1 : Nat) : Int) = 6 * (N : Int) + 3 := by omega
    have c4 : ((N * 6 + 1 + 1 + 1 + 1 : Nat) : Int) = 6 * (N : Int) + 4 := by omega
    have c5 : ((N * 6 + 1 + 1 + 1 + 1 + 1 : Nat) : Int) = 6 * (N : Int) + 5 := by omega
    rw [c0, c1, c2, c3, c4, c5]
    omega
theorem q_smN_sw (K : Int → Int → Int) : ∀ N : Nat, q_smN (fun c => q_s6 (fun d => K d c)) N = q_s6 (fun d => q_smN (fun c => K d c) N)
  | 0 => rfl
  | N + 1 => by
    rw [q_smN_s, q_smN_sw K N, ← q_s6_add]
    rfl
theorem q_rv_sum : ∀ (n : Nat) (F : Int → Int), q_smN (fun r => F (q_rv n r)) (q_pw 6 n).toNat = q_smN F (q_pw 6 n).toNat
  | 0, F => rfl
  | n + 1, F => by
    have hN := q_pwN n
    rw [q_pwN_s, q_smN_6 F, Nat.mul_comm 6, q_smN_b1 (fun r => F (q_rv (n + 1) r))]
    have e : q_smN (fun c => q_s6 (fun d => F (q_rv (n + 1) (6 * c + d)))) (q_pw 6 n).toNat = q_smN (fun c => q_s6 (fun d => F (d * ((q_pw 6 n).toNat : Int) + q_rv n c))) (q_pw 6 n).toNat := q_smN_congr _ (fun c _ _ => q_s6_congr (fun d d0 d1 => by
      rw [q_rv_s, show (6 * c + d) % 6 = d by omega, show (6 * c + d) / 6 = c by omega, hN]))
    rw [e, q_smN_sw (fun d c => F (d * ((q_pw 6 n).toNat : Int) + q_rv n c))]
    exact q_s6_congr (fun d _ _ => q_rv_sum n (fun c => F (d * ((q_pw 6 n).toNat : Int) + c)))
theorem q_mn_ch (P : Int → Bool) (v : Int → Int) (i : Int) : ∀ n : Nat, (∀ r : Int, 0 ≤ r → r < n → P r = true → q_mnN P v i n ≤ v r) ∧ q_mnN P v i n ≤ i ∧ (q_mnN P v i n = i ∨ ∃ r : Int, 0 ≤ r ∧ r < n ∧ P r = true ∧ v r = q_mnN P v i n)
  | 0 => ⟨fun r h0 h1 => by omega, Int.le_refl _, Or.inl rfl⟩
  | n + 1 => by
    obtain ⟨h1, h2, h3⟩ := q_mn_ch P v i n
    rw [q_mnN_s]
    by_cases hp : P n = true
    · rw [if_pos hp]
      refine ⟨fun r r0 r1 hr => ?_, by omega, ?_⟩
      · by_cases hn : r = n
        · rw [hn]; omega
        · have := h1 r r0 (by omega) hr
          omega
      · by_cases hm : v n ≤ q_mnN P v i n
        · exact Or.inr ⟨n, by omega, by omega, hp, by omega⟩
        · rcases h3 with h3 | ⟨r, a, b, c, d⟩
          · exact Or.inl (by omega)
          · exact Or.inr ⟨r, a, by omega, c, by omega⟩
    · rw [if_neg hp]
      refine ⟨fun r r0 r1 hr => ?_, h2, ?_⟩
      · by_cases hn : r = n
        · rw [hn] at hr
          exact absurd hr hp
        · exact h1 r r0 (by omega) hr
      · rcases h3 with h3 | ⟨r, a, b, c⟩
        · exact Or.inl h3
        · exact Or.inr ⟨r, a, by omega, c⟩
theorem q_mx_ch (P : Int → Bool) (v : Int → Int) (i : Int) : ∀ n : Nat, (∀ r : Int, 0 ≤ r → r < n → P r = true → v r ≤ q_mxP P v i n) ∧ i ≤ q_mxP P v i n ∧ (q_mxP P v i n = i ∨ ∃ r : Int, 0 ≤ r ∧ r < n ∧ P r = true ∧ v r = q_mxP P v i n)
  | 0 => ⟨fun r h0 h1 => by omega, Int.le_refl _, Or.inl rfl⟩
  | n + 1 => by
    obtain ⟨h1, h2, h3⟩ := q_mx_ch P v i n
    rw [q_mxP_s]
    by_cases hp : P n = true
    · rw [if_pos hp]
      refine ⟨fun r r0 r1 hr => ?_, by omega, ?_⟩
      · by_cases hn : r = n
        · rw [hn]; omega
        · have := h1 r r0 (by omega) hr
          omega
      · by_cases hm : q_mxP P v i n ≤ v n
        · exact Or.inr ⟨n, by omega, by omega, hp, by omega⟩
        · rcases h3 with h3 | ⟨r, a, b, c, d⟩
          · exact Or.inl (by omega)
          · exact Or.inr ⟨r, a, by omega, c, by omega⟩
    · rw [if_neg hp]
      refine ⟨fun r r0 r1 hr => ?_, h2, ?_⟩
      · by_cases hn : r = n
        · rw [hn] at hr
          exact absurd hr hp
        · exact h1 r r0 (by omega) hr
      · rcases h3 with h3 | ⟨r, a, b, c⟩
        · exact Or.inl h3
        · exact Or.inr ⟨r, a, by omega, c⟩
theorem q_mn_eq {P Q : Int → Bool} {v u : Int → Int} {i j : Int} {n : Nat} (hPQ : ∀ r : Int, 0 ≤ r → r < n → P r = true → ∃ q : Int, 0 ≤ q ∧ q < n ∧ Q q = true ∧ u q = v r) (hQP : ∀ q : Int, 0 ≤ q → q < n → Q q = true → ∃ r : Int, 0 ≤ r ∧ r < n ∧ P r = true ∧ v r = u q)
    (hv : ∀ r : Int, 0 ≤ r → r < n → P r = true → v r ≤ i ∧ v r ≤ j) (ex : ∃ r : Int, 0 ≤ r ∧ r < n ∧ P r = true) : q_mnN P v i n = q_mnN Q u j n := by
  obtain ⟨a1, a2, a3⟩ := q_mn_ch P v i n
  obtain ⟨b1, b2, b3⟩ := q_mn_ch Q u j n
  obtain ⟨r0, x0, x1, x2⟩ := ex
  have k := hv r0 x0 x1 x2
  have ka := a1 r0 x0 x1 x2
  obtain ⟨q0, y0, y1, y2, y3⟩ := hPQ r0 x0 x1 x2
  have kb := b1 q0 y0 y1 y2
  have le1 : q_mnN P v i n ≤ q_mnN Q u j n := by
    rcases b3 with b3 | ⟨q, c0, c1, c2, c3⟩
    · omega
    · obtain ⟨r, d0, d1, d2, d3⟩ := hQP q c0 c1 c2
      have := a1 r d0 d1 d2
      omega
  have le2 : q_mnN Q u j n ≤ q_mnN P v i n := by
    rcases a3 with a3 | ⟨r, c0, c1, c2, c3⟩
    · omega
    · obtain ⟨q, d0, d1, d2, d3⟩ := hPQ r c0 c1 c2
      have := b1 q d0 d1 d2
      omega
  omega
theorem q_mx_eq {P Q : Int → Bool} {v u : Int → Int} {i j : Int} {n : Nat} (hPQ : ∀ r : Int, 0 ≤ r → r < n → P r = true → ∃ q : Int, 0 ≤ q ∧ q < n ∧ Q q = true ∧ u q = v r) (hQP : ∀ q : Int, 0 ≤ q → q < n → Q q = true → ∃ r : Int, 0 ≤ r ∧ r < n ∧ P r = true ∧ v r = u q)
    (hv : ∀ r : Int, 0 ≤ r → r < n → P r = true → i ≤ v r ∧ j ≤ v r) (ex : ∃ r : Int, 0 ≤ r ∧ r < n ∧ P r = true) : q_mxP P v i n = q_mxP Q u j n := by
  obtain ⟨a1, a2, a3⟩ := q_mx_ch P v i n
  obtain ⟨b1, b2, b3⟩ := q_mx_ch Q u j n
  obtain ⟨r0, x0, x1, x2⟩ := ex
  have k := hv r0 x0 x1 x2
  have ka := a1 r0 x0 x1 x2
  obtain ⟨q0, y0, y1, y2, y3⟩ := hPQ r0 x0 x1 x2
  have kb := b1 q0 y0 y1 y2
  have le1 : q_mxP Q u j n ≤ q_mxP P v i n := by
    rcases b3 with b3 | ⟨q, c0, c1, c2, c3⟩
    · omega
    · obtain ⟨r, d0, d1, d2, d3⟩ := hQP q c0 c1 c2
      have := a1 r d0 d1 d2
      omega
  have le2 : q_mxP P v i n ≤ q_mxP Q u j n := by
    rcases a3 with a3 | ⟨r, c0, c1, c2, c3⟩
    · omega
    · obtain ⟨q, d0, d1, d2, d3⟩ := hPQ r c0 c1 c2
      have := b1 q d0 d1 d2
      omega
  omega
theorem q_E6_rv {S r : Int} {h : Int → Int} (hS : 0 ≤ S ∧ S ≤ 63) (hr : 0 ≤ r) : q_E6 S h (q_rv (q_cnt (q_has S)).toNat r) = q_H6 S h r := by
  funext x
  unfold q_E6 q_H6
  by_cases hx : q_has S x = true
  · rw [if_pos hx, if_pos hx]
    have hb := q_be_ab hS.1 hS.2 hx
    unfold q_dig
    rw [show q_be S x = (q_cnt (q_has S)).toNat - 1 - q_ab S x by omega, q_rv_d _ _ _ hr (by omega), Int.mul_one]
  · rw [if_neg hx, if_neg hx]
theorem q_H6_rv {S r : Int} {h : Int → Int} (hS : 0 ≤ S ∧ S ≤ 63) (hr : 0 ≤ r) : q_H6 S h (q_rv (q_cnt (q_has S)).toNat r) = q_E6 S h r := by
  funext x
  unfold q_E6 q_H6
  by_cases hx : q_has S x = true
  · rw [if_pos hx, if_pos hx]
    have hb := q_be_ab hS.1 hS.2 hx
    unfold q_dig
    rw [show q_ab S x = (q_cnt (q_has S)).toNat - 1 - q_be S x by omega, q_rv_d _ _ _ hr (by omega), Int.mul_one]
  · rw [if_neg hx, if_neg hx]
theorem q_efit_rv {h f a : Int → Int} {th ke S n r : Int} {d s : Int → Int} (hS : 0 ≤ S ∧ S ≤ 63) (hr : 0 ≤ r) : q_efit h f a th ke S d s n (q_rv (q_cnt (q_has S)).toNat r) = q_fitR h f a th ke S d s n r ∧ ∀ p, q_eT h f a th ke S (q_rv (q_cnt (q_has S)).toNat r) p = q_T6 h f a th ke S r p := by
  have e : q_eT h f a th ke S (q_rv (q_cnt (q_has S)).toNat r) = q_T6 h f a th ke S r := by
    funext p
    unfold q_eT q_T6
    rw [q_E6_rv hS hr]
  refine ⟨?_, fun p => by rw [e]⟩
  unfold q_efit q_fitR
  rw [e]
theorem q_fit_rv {h f a : Int → Int} {th ke S n r : Int} {d s : Int → Int} (hS : 0 ≤ S ∧ S ≤ 63) (hr : 0 ≤ r) : q_fitR h f a th ke S d s n (q_rv (q_cnt (q_has S)).toNat r) = q_efit h f a th ke S d s n r := by
  have e : q_T6 h f a th ke S (q_rv (q_cnt (q_has S)).toNat r) = q_eT h f a th ke S r := by
    funext p
    unfold q_eT q_T6
    rw [q_H6_rv hS hr]
  unfold q_efit q_fitR
  rw [e]
theorem q_W_cnt {h f a : Int → Int} {th ke n : Int} {d s : Int → Int} : q_eWc h f a th ke d s n = q_Wc h f a th ke d s n := by
  have hS := q_set_R (q_ins a th 0)
  unfold q_eWc q_Wc q_WN
  rw [q_ctN_sm, q_ctN_sm, ← q_rv_sum]
  refine q_smN_congr _ (fun r r0 _ => ?_)
  unfold q_eWf q_Wf
  rw [(q_efit_rv hS r0).1]
theorem q_W_tal {h f a : Int → Int} {th ke n p q : Int} {d s : Int → Int} : q_eWt h f a th ke d s n p q = q_Wt h f a th ke d s n p q := by
  have hS := q_set_R (q_ins a th 0)
  unfold q_eWt q_Wt q_WN
  rw [q_ctN_sm, q_ctN_sm, ← q_rv_sum]
  refine q_smN_congr _ (fun r r0 _ => ?_)
  unfold q_eWf q_Wf
  rw [(q_efit_rv hS r0).1, (q_efit_rv (d := d) (s := s) (n := n) hS r0).2]
theorem q_W_most {h f a : Int → Int} {th ke n : Int} {d s : Int → Int} : q_eWm h f a th ke d s n = q_Wm h f a th ke d s n := by
  funext p
  unfold q_eWm q_Wm
  exact q_mxN_congr 64 (fun x _ _ => q_W_tal)
theorem q_H6_v2 {S r x : Int} {h : Int → Int} (hh : q_hv h) (x0 : 0 ≤ x) (x1 : x < 6) : 0 ≤ q_H6 S h r x ∧ q_H6 S h r x ≤ 20 := q_H6_v hh x x0 x1
theorem q_W_lg {h f a : Int → Int} {th ke n g : Int} {d s : Int → Int} (hh : q_hv h) (g0 : 0 ≤ g) (g1 : g < 6) (hc : ¬ q_Wc h f a th ke d s n = 0) : q_eWl h f a th ke d s n g = q_Wl h f a th ke d s n g ∧ q_eWg h f a th ke d s n g = q_Wg h f a th ke d s n g := by
  have hS := q_set_R (q_ins a th 0)
  have hex : ∃ r : Int, 0 ≤ r ∧ r < q_WN a th ∧ q_Wf h f a th ke d s n r = true := by
    have := q_ctN_R (q_Wf h f a th ke d s n) (q_WN a th)
    exact q_ctN_pos _ (by unfold q_Wc at hc; omega)
  have hNN : ((q_WN a th : Nat) : Int) = q_pw 6 (q_cnt (q_has (q_set (q_ins a th 0)))).toNat := q_pwN _
  have hPQ : ∀ r : Int, 0 ≤ r → r < q_WN a th → q_Wf h f a th ke d s n r = true → ∃ q : Int, 0 ≤ q ∧ q < q_WN a th ∧ q_eWf h f a th ke d s n q = true ∧ q_E6 (q_set (q_ins a th 0)) h q g = q_H6 (q_set (q_ins a th 0)) h r g := fun r r0 r1 hr => by
    have hR := q_rv_R (q_cnt (q_has (q_set (q_ins a th 0)))).toNat r
    refine ⟨q_rv (q_cnt (q_has (q_set (q_ins a th 0)))).toNat r, hR.1, by rw [hNN]; exact hR.2, ?_, ?_⟩
    · unfold q_eWf
      rw [(q_efit_rv hS r0).1]
      exact hr
    · rw [q_E6_rv hS r0]
  have hQP : ∀ q : Int, 0 ≤ q → q < q_WN a th → q_eWf h f a th ke d s n q = true → ∃ r : Int, 0 ≤ r ∧ r < q_WN a th ∧ q_Wf h f a th ke d s n r = true ∧ q_H6 (q_set (q_ins a th 0)) h r g = q_E6 (q_set (q_ins a th 0)) h q g := fun q r0 r1 hr => by
    have hR := q_rv_R (q_cnt (q_has (q_set (q_ins a th 0)))).toNat q
    refine ⟨q_rv (q_cnt (q_has (q_set (q_ins a th 0)))).toNat q, hR.1, by rw [hNN]; exact hR.2, ?_, ?_⟩
    · unfold q_Wf
      rw [q_fit_rv hS r0]
      exact hr
    · rw [q_H6_rv hS r0]
  refine ⟨Eq.symm (q_mn_eq hPQ hQP (fun r _ _ _ => ?_) hex), Eq.symm (q_mx_eq hPQ hQP (fun r _ _ _ => ?_) hex)⟩
  · have := q_H6_v2 (S := q_set (q_ins a th 0)) (r := r) hh g0 g1
    exact ⟨this.2, by omega⟩
  · have := q_H6_v2 (S := q_set (q_ins a th 0)) (r := r) hh g0 g1
    exact ⟨this.1, by omega⟩
theorem q_S9_worlds {h f a : Int → Int} {th ke n g w : Int} {d s : Int → Int} (hh : q_hv h) : S9_worlds h f a th ke d s n g w = S_worlds h f a th ke d s n g w := by
  unfold S9_worlds S_worlds
  by_cases h1 : g = -1 ∨ q_ins a th 0 g = true
  · rw [if_pos h1, if_pos h1]
    by_cases h2 : 0 ≤ w ∧ w ≤ 1
    · rw [if_pos h2, if_pos h2, q_W_cnt]
      by_cases h3 : 4 < q_cnt (q_has (q_set (q_ins a th 0)))
      · rw [if_pos h3, if_pos h3]
      · rw [if_neg h3, if_neg h3]
        by_cases h4 : g = -1
        · rw [if_pos h4, if_pos h4]
        · rw [if_neg h4, if_neg h4]
          by_cases h5 : q_Wc h f a th ke d s n = 0
          · rw [if_pos h5, if_pos h5]
          · have hi := q_ins_in (h1.resolve_left h4)
            rw [if_neg h5, if_neg h5, (q_W_lg hh hi.1 hi.2 h5).1, (q_W_lg hh hi.1 hi.2 h5).2]
    · rw [if_neg h2, if_neg h2]
  · rw [if_neg h1, if_neg h1]
theorem q_S9_tells {h f a : Int → Int} {th ke n w : Int} {d s : Int → Int} : S9_tells h f a th ke d s n w = S_tells h f a th ke d s n w := by
  unfold S9_tells S_tells
  by_cases h2 : 0 ≤ w ∧ w ≤ 1
  · rw [if_pos h2, if_pos h2, q_W_cnt]
    by_cases h3 : 4 < q_cnt (q_has (q_set (q_ins a th 0)))
    · rw [if_pos h3, if_pos h3]
    · rw [if_neg h3, if_neg h3]
      have hb := q_fb_best (f := q_eWm h f a th ke d s n) (q_eWm_R (by omega)) 8
      rw [hb, q_W_most]
  · rw [if_neg h2, if_neg h2]
