/-! the reference: what it keeps; what its nights see -/
def q_v9 (M : q_M) : q_T := (M 7, M 8, M 9, M 10, M 11, M 0 15, M 0 17, M 0 18)
def q_z0 (M : q_M) : Prop := (0 ≤ M 0 0 ∧ M 0 0 ≤ 63) ∧ (0 ≤ M 0 4 ∧ M 0 4 ≤ 9)
def q_zv (M : q_M) : Prop := q_z0 M ∧ q_hv (M 7) ∧ q_fvv (M 8) ∧ q_av (M 9)
def q_Z (M : q_M) : Prop := q_z0 M ∧ (q_hv (M 1) ∧ q_fvv (M 2) ∧ q_av (M 3)) ∧ q_fm (M 4) ∧ ((0 ≤ M 0 6 ∧ M 0 6 ≤ 8) ∧ ∀ i, 0 ≤ i → i < 8 → (0 ≤ M 5 (2 * i) ∧ M 5 (2 * i) ≤ 9) ∧ (0 ≤ M 5 (2 * i + 1) ∧ M 5 (2 * i + 1) ≤ 63)) ∧ ((0 ≤ M 0 8 ∧ M 0 8 ≤ 60) ∧ ∀ i, 0 ≤ i → i < 60 → 0 ≤ M 6 i ∧ M 6 i ≤ 126)
def q_kz (M M' : q_M) : Prop := (∀ j, ((1 ≤ j ∧ j ≤ 6) ∨ 17 ≤ j) → M' j = M j) ∧ M' 0 0 = M 0 0 ∧ M' 0 4 = M 0 4 ∧ M' 0 6 = M 0 6 ∧ M' 0 8 = M 0 8
theorem q_kz_rf {M : q_M} : q_kz M M := ⟨fun _ _ => rfl, rfl, rfl, rfl, rfl⟩
theorem q_kz_tr {M M1 M2 : q_M} (h : q_kz M M1) (k : q_kz M1 M2) : q_kz M M2 :=
  ⟨fun j hj => (k.1 j hj).trans (h.1 j hj), k.2.1.trans h.2.1, k.2.2.1.trans h.2.2.1, k.2.2.2.1.trans h.2.2.2.1, k.2.2.2.2.trans h.2.2.2.2⟩
theorem q_kz_up {M : q_M} {k : Nat} {i v : Int} (hk : 7 ≤ k ∧ k ≤ 16) : q_kz M (q_up M k i v) :=
  ⟨fun j hj => q_up_ne (by omega), by rw [q_up_ne (by omega)], by rw [q_up_ne (by omega)], by rw [q_up_ne (by omega)], by rw [q_up_ne (by omega)]⟩
theorem q_kz_u0 {M : q_M} {i v : Int} (hi : 15 ≤ i) : q_kz M (q_up M 0 i v) :=
  ⟨fun j hj => q_up_ne (by omega), by rw [q_up_at, if_neg (by omega)], by rw [q_up_at, if_neg (by omega)], by rw [q_up_at, if_neg (by omega)], by rw [q_up_at, if_neg (by omega)]⟩
theorem q_kz_fr {M M' : q_M} {k : Nat} (h : q_fr k M M') (hk : 7 ≤ k ∧ k ≤ 16) : q_kz M M' :=
  ⟨fun j hj => h j (by omega), by rw [h 0 (by omega)], by rw [h 0 (by omega)], by rw [h 0 (by omega)], by rw [h 0 (by omega)]⟩
theorem q_z0_kz {M M' : q_M} (h : q_z0 M) (k : q_kz M M') : q_z0 M' := by
  unfold q_z0
  rw [k.2.1, k.2.2.1]
  exact h
theorem q_Z_kz {M M' : q_M} (h : q_Z M) (k : q_kz M M') : q_Z M' := by
  obtain ⟨h1, h2, h3, h4, h5⟩ := h
  refine ⟨q_z0_kz h1 k, ?_, ?_, ?_, ?_⟩
  · rw [k.1 1 (by omega), k.1 2 (by omega), k.1 3 (by omega)]; exact h2
  · rw [k.1 4 (by omega)]; exact h3
  · rw [k.1 5 (by omega), k.2.2.2.1]; exact h4
  · rw [k.1 6 (by omega), k.2.2.2.2]; exact h5
/-! who is next: rank by rank -/
def q_ahd (m : Int → Int) (x y : Int) : Bool := decide (m x < m y) || (decide (m x = m y) && decide (x < y))
theorem q_rk_ahd (m : Int → Int) (P : Int → Bool) (g : Int) : q_rk m P g = q_cnt (fun y => P y && q_ahd m y g) := rfl
theorem q_s6_le {f k : Int → Int} (h : ∀ x, 0 ≤ x → x < 6 → f x ≤ k x) : q_s6 f ≤ q_s6 k := by
  have h0 := h 0 (by omega) (by omega)
  have h1 := h 1 (by omega) (by omega)
  have h2 := h 2 (by omega) (by omega)
  have h3 := h 3 (by omega) (by omega)
  have h4 := h 4 (by omega) (by omega)
  have h5 := h 5 (by omega) (by omega)
  unfold q_s6
  omega
theorem q_s6_add (f k : Int → Int) : q_s6 (fun x => f x + k x) = q_s6 f + q_s6 k := by
  simp only [q_s6]
  omega
theorem q_cnt_one {x : Int} (h0 : 0 ≤ x) (h1 : x < 6) : q_cnt (fun y => decide (y = x)) = 1 := by
  rcases q_g6 h0 h1 with rfl | rfl | rfl | rfl | rfl | rfl <;> decide
theorem q_cnt_none {P : Int → Bool} (h : ∀ x, 0 ≤ x → x < 6 → P x = false) : q_cnt P = 0 := by
  rw [q_cnt_congr h]
  decide
theorem q_cnt_le1 {P : Int → Bool} (h : ∀ x y, 0 ≤ x → x < 6 → 0 ≤ y → y < 6 → P x = true → P y = true → x = y) : q_cnt P ≤ 1 := by
  by_cases hx : ∃ x, 0 ≤ x ∧ x < 6 ∧ P x = true
  · obtain ⟨x, x0, x1, hp⟩ := hx
    have e : q_cnt P = q_cnt (fun y => decide (y = x)) := q_cnt_congr (fun y y0 y1 => by
      by_cases hy : y = x
      · subst hy
        simp [hp]
      · cases hq : P y
        · simp [hy]
        · exact absurd (h y x y0 y1 x0 x1 hq hp) hy)
    rw [e, q_cnt_one x0 x1]
    omega
  · have e : q_cnt P = 0 := q_cnt_none (fun x x0 x1 => by
      cases hq : P x
      · rfl
      · exact absurd ⟨x, x0, x1, hq⟩ hx)
    omega
theorem q_ahd_iff {m : Int → Int} {x y : Int} : q_ahd m x y = true ↔ (m x < m y ∨ (m x = m y ∧ x < y)) := by
  unfold q_ahd
  simp
theorem q_rk_lt {m : Int → Int} {P : Int → Bool} {x y : Int} (x0 : 0 ≤ x) (x1 : x < 6) (hx : P x = true) (h : q_ahd m x y = true) : q_rk m P x < q_rk m P y := by
  have h1 : q_s6 (fun z => q_b (P z && q_ahd m z x) + q_b (decide (z = x))) ≤ q_s6 (fun z => q_b (P z && q_ahd m z y)) := q_s6_le (fun z z0 z1 => by
    rw [q_ahd_iff] at h
    by_cases hz : z = x
    · subst hz
      have e1 : q_ahd m z z = false := by
        cases hh : q_ahd m z z
        · rfl
        · rw [q_ahd_iff] at hh
          omega
      have e2 : q_ahd m z y = true := q_ahd_iff.mpr h
      simp [hx, e1, e2, q_b]
    · cases hp : P z
      · simp [hz, q_b]
      · cases h2 : q_ahd m z x
        · simp only [hz, decide_false, q_b]
          cases q_ahd m z y <;> simp
        · have e2 : q_ahd m z y = true := by
            rw [q_ahd_iff] at h2 ⊢
            omega
          simp [hz, e2, q_b])
  rw [q_s6_add] at h1
  have h2 := q_cnt_one x0 x1
  have e : q_cnt (fun y => decide (y = x)) = q_s6 (fun z => q_b (decide (z = x))) := rfl
  have ex : q_rk m P x = q_s6 (fun z => q_b (P z && q_ahd m z x)) := rfl
  have ey : q_rk m P y = q_s6 (fun z => q_b (P z && q_ahd m z y)) := rfl
  omega
theorem q_rk_inj {m : Int → Int} {P : Int → Bool} {x y : Int} (x0 : 0 ≤ x) (x1 : x < 6) (y0 : 0 ≤ y) (y1 : y < 6) (hx : P x = true) (hy : P y = true) (h : q_rk m P x = q_rk m P y) : x = y := by
  by_cases h1 : q_ahd m x y = true
  · have := q_rk_lt x0 x1 hx h1
    omega
  · by_cases h2 : q_ahd m y x = true
    · have := q_rk_lt y0 y1 hy h2
      omega
    · rw [q_ahd_iff] at h1 h2
      omega
def q_sel (m : Int → Int) (P : Int → Bool) (k x : Int) : Bool := P x && decide (q_rk m P x < k)
theorem q_sel_cnt {m : Int → Int} {P : Int → Bool} : ∀ k : Nat, q_cnt (q_sel m P k) ≤ k
  | 0 => by
    have : q_cnt (q_sel m P (0 : Nat)) = 0 := q_cnt_none (fun x _ _ => by
      unfold q_sel
      have := q_cnt_R (fun y => P y && q_ahd m y x)
      rw [← q_rk_ahd] at this
      have h : ¬ q_rk m P x < ((0 : Nat) : Int) := by omega
      rw [decide_eq_false h, Bool.and_false])
    omega
  | k + 1 => by
    have ih := q_sel_cnt (m := m) (P := P) k
    have h1 : q_cnt (fun x => P x && decide (q_rk m P x = k)) ≤ 1 := q_cnt_le1 (fun x y x0 x1 y0 y1 hx hy => by
      simp only [Bool.and_eq_true, decide_eq_true_eq] at hx hy
      exact q_rk_inj (m := m) x0 x1 y0 y1 hx.1 hy.1 (by omega))
    have h2 : q_cnt (q_sel m P ((k + 1 : Nat) : Int)) = q_cnt (q_sel m P k) + q_cnt (fun x => P x && decide (q_rk m P x = k)) := by
      unfold q_cnt
      rw [← q_s6_add]
      refine q_s6_congr (fun x _ _ => ?_)
      show q_b (P x && decide (q_rk m P x < ((k + 1 : Nat) : Int))) = q_b (P x && decide (q_rk m P x < (k : Int))) + q_b (P x && decide (q_rk m P x = (k : Int)))
      by_cases a1 : q_rk m P x < k
      · have a2 : q_rk m P x < ((k + 1 : Nat) : Int) := by omega
        have a3 : ¬ q_rk m P x = k := by omega
        rw [decide_eq_true a2, decide_eq_true a1, decide_eq_false a3]
        cases P x <;> rfl
      · by_cases a3 : q_rk m P x = k
        · have a2 : q_rk m P x < ((k + 1 : Nat) : Int) := by omega
          rw [decide_eq_true a2, decide_eq_false a1, decide_eq_true a3]
          cases P x <;> rfl
        · have a2 : ¬ q_rk m P x < ((k + 1 : Nat) : Int) := by omega
          rw [decide_eq_false a2, decide_eq_false a1, decide_eq_false a3]
          cases P x <;> rfl
    omega
def q_nx (m : Int → Int) (P : Int → Bool) (k g nx : Int) : Prop := (nx = -6 ∧ ∀ x, 0 ≤ x → x < g → P x = true → q_rk m P x < k) ∨ (0 ≤ nx ∧ nx < g ∧ P nx = true ∧ k ≤ q_rk m P nx ∧ ∀ x, 0 ≤ x → x < g → P x = true → k ≤ q_rk m P x → ¬ x = nx → q_ahd m nx x = true)
theorem q_nx_0 {m : Int → Int} {P : Int → Bool} {k : Int} : q_nx m P k 0 (-6) := Or.inl ⟨rfl, fun x h0 h1 => by omega⟩
theorem q_nx_R {m : Int → Int} {P : Int → Bool} {k g nx : Int} (h : q_nx m P k g nx) (hg : g ≤ 6) : nx = -6 ∨ (0 ≤ nx ∧ nx < 6) := by
  rcases h with h | h
  · exact Or.inl h.1
  · exact Or.inr ⟨h.1, by omega⟩
theorem q_nx_no {m : Int → Int} {P : Int → Bool} {k g nx : Int} (h : q_nx m P k g nx) (hg : ¬ (P g = true ∧ k ≤ q_rk m P g)) : q_nx m P k (g + 1) nx := by
  rcases h with h | h
  · refine Or.inl ⟨h.1, fun x h0 h1 hp => ?_⟩
    by_cases hx : x = g
    · subst hx
      have : ¬ k ≤ q_rk m P x := fun q => hg ⟨hp, q⟩
      omega
    · exact h.2 x h0 (by omega) hp
  · refine Or.inr ⟨h.1, by omega, h.2.2.1, h.2.2.2.1, fun x h0 h1 hp hr hn => ?_⟩
    by_cases hx : x = g
    · subst hx
      exact absurd ⟨hp, hr⟩ hg
    · exact h.2.2.2.2 x h0 (by omega) hp hr hn
theorem q_nx_new {m : Int → Int} {P : Int → Bool} {k g nx : Int} (h : q_nx m P k g nx) (g0 : 0 ≤ g) (hp : P g = true) (hr : k ≤ q_rk m P g) (hl : nx < 0 ∨ m g < m nx) : q_nx m P k (g + 1) g := by
  refine Or.inr ⟨g0, by omega, hp, hr, fun x h0 h1 hpx hrx hn => ?_⟩
  rcases h with h | h
  · have := h.2 x h0 (by omega) hpx
    omega
  · rw [q_ahd_iff]
    by_cases hx : x = nx
    · subst hx
      omega
    · have := h.2.2.2.2 x h0 (by omega) hpx hrx hx
      rw [q_ahd_iff] at this
      omega
theorem q_nx_old {m : Int → Int} {P : Int → Bool} {k g nx : Int} (h : q_nx m P k g nx) (hl : ¬ (nx < 0 ∨ m g < m nx)) : q_nx m P k (g + 1) nx := by
  rcases h with h | h
  · exact absurd (Or.inl (by omega)) hl
  · refine Or.inr ⟨h.1, by omega, h.2.2.1, h.2.2.2.1, fun x h0 h1 hp hr hn => ?_⟩
    by_cases hx : x = g
    · subst hx
      rw [q_ahd_iff]
      omega
    · exact h.2.2.2.2 x h0 (by omega) hp hr hn
theorem q_or_0 {s : Int} (h0 : 0 ≤ s) (h1 : s ≤ 63) : q_or s 0 = s := q_dec64 (p := fun s => q_or s 0 = s) (by decide +kernel) h0 h1
theorem q_nx_end {m : Int → Int} {P : Int → Bool} {k nx : Int} (k0 : 0 ≤ k) (h : q_nx m P k 6 nx) : (if nx < 0 then q_set (q_sel m P k) else q_or (q_set (q_sel m P k)) (q_shl 1 nx)) = q_set (q_sel m P (k + 1)) := by
  rcases h with h | h
  · rw [if_pos (by omega)]
    refine q_set_congr (fun x x0 x1 => ?_)
    unfold q_sel
    cases hp : P x
    · rfl
    · have := h.2 x x0 x1 hp
      have h2 : q_rk m P x < k + 1 := by omega
      simp [this, h2]
  · obtain ⟨n0, n1, np, nr, nm⟩ := h
    rw [if_neg (by omega), q_orb (q_set_R _).1 (q_set_R _).2 n0 n1]
    have hk : q_rk m P nx = k := by
      have h1 : q_rk m P nx ≤ q_cnt (q_sel m P k) := by
        rw [q_rk_ahd]
        unfold q_cnt
        refine q_s6_le (fun y y0 y1 => ?_)
        cases hp : P y
        · simp [q_b, q_sel, hp]
        · cases hq : q_ahd m y nx
          · have := q_bB (q_sel m P k y)
            have e : q_b (true && false) = 0 := rfl
            show q_b (P y && q_ahd m y nx) ≤ q_b (q_sel m P k y)
            rw [hp, hq, e]
            exact this.1
          · have hlt : q_rk m P y < k := by
              by_cases hl : k ≤ q_rk m P y
              · have hne : ¬ y = nx := fun e => by
                  subst e
                  rw [q_ahd_iff] at hq
                  omega
                have := nm y y0 y1 hp hl hne
                rw [q_ahd_iff] at this hq
                omega
              · omega
            have e : q_sel m P k y = true := by simp [q_sel, hp, hlt]
            rw [e]
            exact (q_bB _).2
      have h2 := q_sel_cnt (m := m) (P := P) k.toNat
      rw [Int.toNat_of_nonneg k0] at h2
      omega
    refine q_set_congr (fun x x0 x1 => ?_)
    rw [q_has_set x0 x1]
    unfold q_sel
    by_cases hx : x = nx
    · subst hx
      have : q_rk m P x < k + 1 := by omega
      simp [np, this]
    · cases hp : P x
      · simp [hx]
      · have hne : ¬ q_rk m P x = k := fun e => hx (q_rk_inj (m := m) x0 x1 n0 (by omega) hp np (by omega))
        have : decide (q_rk m P x < k) = decide (q_rk m P x < k + 1) := decide_eq_decide.mpr (by omega)
        simp [hx, this]
def q_c9 (h f a : Int → Int) (th ke ru pl x : Int) : Bool := q_hun h a th pl x && !(decide (ru = 0) && q_fo h f ke x)
def q_t9 (h f : Int → Int) (ru x : Int) : Int := if ru = 0 then q_shn h f x else if ru = 1 then 0 else 20 - h x
theorem q_ru9 {h f a : Int → Int} {th ke ru pl p : Int} : q_set (q_sel (q_t9 h f ru) (q_c9 h f a th ke ru pl) p) = q_set (q_ru h f a th ke ru pl p) := by
  refine q_set_congr (fun x x0 x1 => ?_)
  unfold q_ru q_sel
  by_cases hr : ru = 0
  · rw [if_pos hr]
    have eP : q_c9 h f a th ke ru pl = q_el h f a th ke pl := by
      funext y
      unfold q_c9 q_el
      simp [hr]
    have em : q_t9 h f ru = q_shn h f := by
      funext y
      unfold q_t9
      rw [if_pos hr]
    unfold q_tk
    rw [eP, em]
  · rw [if_neg hr]
    have eP : q_c9 h f a th ke ru pl = q_hun h a th pl := by
      funext y
      unfold q_c9
      simp [hr]
    have e : q_rk (q_t9 h f ru) (q_hun h a th pl) x = q_rk (q_rum h ru) (q_hun h a th pl) x := by
      unfold q_rk
      refine q_cnt_congr (fun y _ _ => ?_)
      unfold q_t9 q_rum
      rw [if_neg hr, if_neg hr]
      by_cases h1 : ru = 1
      · rw [if_pos h1, if_pos h1, if_pos h1, if_pos h1]
      · rw [if_neg h1, if_neg h1, if_neg h1, if_neg h1]
        have e1 : decide (20 - h y < 20 - h x) = decide (-h y < -h x) := decide_eq_decide.mpr (by omega)
        have e2 : decide (20 - h y = 20 - h x) = decide (-h y = -h x) := decide_eq_decide.mpr (by omega)
        rw [e1, e2]
    rw [eP, e]
theorem q_ru_0 {h f a : Int → Int} {th ke pl p : Int} : q_set (q_ru h f a th ke 0 pl p) = q_set (q_tk h f a th ke pl p) := rfl
set_option maxHeartbeats 4000000 in
set_option maxRecDepth 100000 in
theorem c_X9_in (G : q_G) (hI : q_inj G) (M : q_M) (v : Int) (l : Int) (u : Int) (hv : (-2147483648 ≤ v ∧ v ≤ 2147483647) ∧ (-2147483648 ≤ l ∧ l ≤ 2147483647) ∧ (-2147483648 ≤ u ∧ u ≤ 2147483647)) : q_CI G yX9_in wsX9_in ({ frames := 0, cells := 0, slots := 0, locals := 0 } : Room) [.int (q_I v), .int (q_I l), .int (q_I u)] M (fun z M' => z = q_b (decide (l ≤ v ∧ v ≤ u)) ∧ M' = M) := by
  refine q_CI.of hI (by decide) rfl RX9 rfl [(0, .int (q_I v)), (1, .int (q_I l)), (2, .int (q_I u))] rfl (Nat.le_of_ble_eq_true rfl) (fun E F FI => ?_)
  refine q_MRof (fun hM => ?_)
  refine q_iload_n F dX9_in_0 0 rfl ?_
  refine q_iload_n F dX9_in_1 1 rfl ?_
  refine q_icmp_lt F 14 dX9_in_2 (by decide) (by omega) (fun c2 => ?_) (fun c2 => ?_)
  · refine q_iconst F dX9_in_14 ?_
    exact q_zret F FI dX9_in_15 (by first | exact q_b01 _ | omega) (by first | exact ⟨(q_b_t (by omega)).symm, rfl⟩ | exact ⟨(q_b_f (by omega)).symm, rfl⟩)
  · refine q_iload_n F dX9_in_5 0 rfl ?_
    refine q_iload_n F dX9_in_6 2 rfl ?_
    refine q_icmp_gt F 14 dX9_in_7 (by decide) (by omega) (fun c7 => ?_) (fun c7 => ?_)
    · refine q_iconst F dX9_in_14 ?_
      exact q_zret F FI dX9_in_15 (by first | exact q_b01 _ | omega) (by first | exact ⟨(q_b_t (by omega)).symm, rfl⟩ | exact ⟨(q_b_f (by omega)).symm, rfl⟩)
    · refine q_iconst F dX9_in_10 ?_
      refine q_goto F 15 dX9_in_11 (by decide) ?_
      exact q_zret F FI dX9_in_15 (by first | exact q_b01 _ | omega) (by first | exact ⟨(q_b_t (by omega)).symm, rfl⟩ | exact ⟨(q_b_f (by omega)).symm, rfl⟩)

set_option maxHeartbeats 4000000 in
set_option maxRecDepth 100000 in
theorem c_X9_has (G : q_G) (hI : q_inj G) (M : q_M) (s : Int) (g : Int) (hs : (0 ≤ s ∧ s ≤ 63) ∧ (0 ≤ g ∧ g < 6)) : q_CI G yX9_has wsX9_has ({ frames := 0, cells := 0, slots := 0, locals := 0 } : Room) [.int (q_I s), .int (q_I g)] M (fun z M' => z = q_b (q_has s g) ∧ M' = M) := by
  refine q_CI.of hI (by decide) rfl RX9 rfl [(0, .int (q_I s)), (1, .int (q_I g))] rfl (Nat.le_of_ble_eq_true rfl) (fun E F FI => ?_)
  refine q_MRof (fun hM => ?_)
  refine q_iload_n F dX9_has_0 0 rfl ?_
  refine q_iload_n F dX9_has_1 1 rfl ?_
  refine q_ishr F dX9_has_2 (fun z2 e2 h2 => ?_)
  refine q_iconst F dX9_has_3 ?_
  refine q_iand F dX9_has_4 (fun z4 e4 h4 => ?_)
  refine q_iconst F dX9_has_5 ?_
  refine q_icmp_ne F 13 dX9_has_6 (by decide) (by omega) (fun c6 => ?_) (fun c6 => ?_)
  · refine q_iconst F dX9_has_13 ?_
    exact q_zret F FI dX9_has_14 (by first | exact q_b01 _ | omega) (by subst e4; subst e2; rw [q_bit (by omega) (by omega) (by omega) (by omega)] at c6; refine ⟨?_, rfl⟩; revert c6; generalize q_has s g = b; cases b <;> decide)
  · refine q_iconst F dX9_has_9 ?_
    refine q_goto F 14 dX9_has_10 (by decide) ?_
    exact q_zret F FI dX9_has_14 (by first | exact q_b01 _ | omega) (by subst e4; subst e2; rw [q_bit (by omega) (by omega) (by omega) (by omega)] at c6; refine ⟨?_, rfl⟩; revert c6; generalize q_has s g = b; cases b <;> decide)

set_option maxHeartbeats 4000000 in
set_option maxRecDepth 100000 in
theorem c_X9_bits (G : q_G) (hI : q_inj G) (M : q_M) (s : Int) (hs : 0 ≤ s ∧ s ≤ 63) : q_CI G yX9_bits wsX9_bits ({ frames := 0, cells := 0, slots := 0, locals := 0 } : Room) [.int (q_I s)] M (fun z M' => z = q_cnt (q_has s) ∧ M' = M) := by
  refine q_CI.of hI (by decide) rfl RX9 rfl [(0, .int (q_I s))] rfl (Nat.le_of_ble_eq_true rfl) (fun E F FI => ?_)
  refine q_MRof (fun hM => ?_)
  refine q_iconst F dX9_bits_0 ?_
  refine q_istore_n F dX9_bits_1 [(1, .int (q_I 0)), (0, .int (q_I s))] (Nat.le_of_ble_eq_true rfl) rfl ?_
  refine q_iconst F dX9_bits_2 ?_
  refine q_istore_n F dX9_bits_3 [(2, .int (q_I 0)), (1, .int (q_I 0)), (0, .int (q_I s))] (Nat.le_of_ble_eq_true rfl) rfl ?_
  have lp4_1 : ∀ (k4_1 : Nat) (n : Int) (k : Int), (0 ≤ k ∧ k ≤ 6 ∧ n = q_cnt (q_lt (q_has s) k)) → (6 - k).toNat = k4_1 → q_Y G E 3 M [(0, .int (q_I s)), (1, .int (q_I n)), (2, .int (q_I k))] 4 [] := by
    intro k4_1
    induction k4_1 using Nat.strongRecOn with
    | _ k4_1 ih4_1 =>
      intro n k   hi4 hk4
      refine q_iload_n F dX9_bits_4 2 rfl ?_
      refine q_bipush F dX9_bits_5 (by decide) ?_
      refine q_icmp_ge F 24 dX9_bits_7 (by decide) (by omega) (fun c7 => ?_) (fun c7 => ?_)
      · refine q_iload_n F dX9_bits_24 1 rfl ?_
        exact q_iret F FI dX9_bits_25 (by have := q_cnt_R (q_lt (q_has s) k); omega) (by obtain ⟨h1, h2, h3⟩ := hi4; rw [h3, show k = 6 by omega, q_cnt_6]; exact ⟨rfl, rfl⟩)
      · refine q_iload_n F dX9_bits_10 1 rfl ?_
        refine q_iload_n F dX9_bits_11 0 rfl ?_
        refine q_iload_n F dX9_bits_12 2 rfl ?_
        refine q_ishr F dX9_bits_13 (fun z13 e13 h13 => ?_)
        refine q_iconst F dX9_bits_14 ?_
        refine q_iand F dX9_bits_15 (fun z15 e15 h15 => ?_)
        refine q_iadd F dX9_bits_16 ?_
        refine q_nm (fun v17 e17 => ?_)
        refine q_istore_n F dX9_bits_17 [(1, .int (q_I v17)), (0, .int (q_I s)), (2, .int (q_I k))] (Nat.le_of_ble_eq_true rfl) rfl ?_
        obtain ⟨v18, e18⟩ : ∃ z_ : Int, z_ = k + 1 := ⟨_, rfl⟩
        refine q_iinc F dX9_bits_18 2 rfl e18 [(2, .int (q_I v18)), (1, .int (q_I v17)), (0, .int (q_I s))] (Nat.le_of_ble_eq_true rfl) rfl ?_
        refine q_goto F 4 dX9_bits_21 (by decide) ?_
        refine q_drop [2, 1, 0] rfl ?_
        exact ih4_1 _ (by omega) v17 v18 (by obtain ⟨h1, h2, h3⟩ := hi4; refine ⟨by omega, by omega, ?_⟩; rw [e18, q_cnt_step _ (by omega) (by omega), e17, e15, e13, q_bit (by omega) (by omega) (by omega) (by omega), h3]; cases q_has s k <;> simp [q_b]) rfl
  refine q_drop [2, 1, 0] rfl ?_
  exact lp4_1 _ 0 0 ⟨by omega, by omega, (q_cnt_0 _).symm⟩ rfl

set_option maxHeartbeats 4000000 in
set_option maxRecDepth 100000 in
theorem c_X9_isThere (G : q_G) (hI : q_inj G) (M : q_M) (hm : q_mo G) (g : Int) (hgR : -2147483648 ≤ g ∧ g ≤ 2147483647) (hz : q_z0 M) : q_CI G yX9_isThere wsX9_isThere ({ frames := 1, cells := 0, slots := 0, locals := 22 } : Room) [.ref (q_ad G 0), .int (q_I g)] M (fun z M' => z = q_b (q_has (M 0 0) g) ∧ M' = M) := by
  refine q_CI.of hI (by decide) rfl RX9 rfl [(0, .ref (q_ad G 0)), (1, .int (q_I g))] rfl (Nat.le_of_ble_eq_true rfl) (fun E F FI => ?_)
  have huX9 : ∀ w ∈ wsX90, w ∈ wsX9_isThere := by decide +kernel
  refine q_MRof (fun hM => ?_)
  obtain ⟨xt, xk⟩ := id hz
  refine q_iload_n F dX9_isThere_0 1 rfl ?_
  refine q_iconst F dX9_isThere_1 ?_
  refine q_iconst F dX9_isThere_2 ?_
  refine q_callSP (n := 3) F (c_X9_in G hI M g 0 5 (by omega)) rfl gX9_isThere_X9_in ⟨by decide, by decide, by decide +kernel⟩ rfl ⟨rfl, rfl, Nat.le_of_ble_eq_true rfl, Nat.le_of_ble_eq_true rfl⟩ rfl (Nat.le_of_ble_eq_true rfl) dX9_isThere_3 (fun h3 => ?_)
  refine q_ifb_eq F 24 dX9_isThere_6 (by decide) (fun c6 => ?_) (fun c6 => ?_)
  · refine q_iconst F dX9_isThere_24 ?_
    exact q_zret F FI dX9_isThere_25 (by first | exact q_b01 _ | omega) ⟨by rw [q_has_out (fun h => q_df c6 (by omega))]; rfl, rfl⟩
  · have d1 := q_dt c6
    refine q_aload_n F dX9_isThere_9 0 rfl ?_
    refine q_geti (T := TX9) (ref := "LeastHungryModel") F huX9 rfl hm.1 0 (by decide) (by decide +kernel) rfl 0 rfl rfl dX9_isThere_10 (fun h10 => ?_)
    refine q_iload_n F dX9_isThere_13 1 rfl ?_
    refine q_callSP (n := 2) F (c_X9_has G hI M _ g (by omega)) rfl gX9_isThere_X9_has ⟨by decide, by decide, by decide +kernel⟩ rfl ⟨rfl, rfl, Nat.le_of_ble_eq_true rfl, Nat.le_of_ble_eq_true rfl⟩ rfl (Nat.le_of_ble_eq_true rfl) dX9_isThere_14 (fun h14 => ?_)
    refine q_ifb_eq F 24 dX9_isThere_17 (by decide) (fun c17 => ?_) (fun c17 => ?_)
    · refine q_iconst F dX9_isThere_24 ?_
      exact q_zret F FI dX9_isThere_25 (by first | exact q_b01 _ | omega) ⟨by rw [c17]; rfl, rfl⟩
    · refine q_iconst F dX9_isThere_20 ?_
      refine q_goto F 25 dX9_isThere_21 (by decide) ?_
      exact q_zret F FI dX9_isThere_25 (by first | exact q_b01 _ | omega) ⟨by rw [c17]; rfl, rfl⟩

set_option maxHeartbeats 4000000 in
set_option maxRecDepth 100000 in
theorem c_X9_guest (G : q_G) (hI : q_inj G) (M : q_M) (hm : q_mo G) (g : Int) (h : Int) (f : Int) (a : Int) (hgR : -2147483648 ≤ g ∧ g ≤ 2147483647) (hhR : -2147483648 ≤ h ∧ h ≤ 2147483647) (hfR : -2147483648 ≤ f ∧ f ≤ 2147483647) (haR : -2147483648 ≤ a ∧ a ≤ 2147483647) (hz : q_z0 M) : q_CI G yX9_guest wsX9_guest ({ frames := 1, cells := 0, slots := 0, locals := 22 } : Room) [.ref (q_ad G 0), .int (q_I g), .int (q_I h), .int (q_I f), .int (q_I a)] M (fun z M' => (¬ (0 ≤ g ∧ g ≤ 5) → z = -1 ∧ M' = M) ∧ (0 ≤ g ∧ g ≤ 5 → ¬ ((0 ≤ h ∧ h ≤ 20) ∧ (0 ≤ f ∧ f ≤ 9) ∧ (0 ≤ a ∧ a ≤ 2)) → z = -2 ∧ M' = M) ∧ (0 ≤ g ∧ g ≤ 5 → (0 ≤ h ∧ h ≤ 20) ∧ (0 ≤ f ∧ f ≤ 9) ∧ (0 ≤ a ∧ a ≤ 2) → z = q_cnt (fun x => q_has (M 0 0) x || decide (x = g)) ∧ M' = q_up (q_up (q_up (q_up M 0 0 (q_set (fun x => q_has (M 0 0) x || decide (x = g)))) 1 g h) 2 g f) 3 g a)) := by
  refine q_CI.of hI (by decide) rfl RX9 rfl [(0, .ref (q_ad G 0)), (1, .int (q_I g)), (2, .int (q_I h)), (3, .int (q_I f)), (4, .int (q_I a))] rfl (Nat.le_of_ble_eq_true rfl) (fun E F FI => ?_)
  have huX9 : ∀ w ∈ wsX90, w ∈ wsX9_guest := by decide +kernel
  refine q_MRof (fun hM => ?_)
  obtain ⟨xt, xk⟩ := id hz
  refine q_iload_n F dX9_guest_0 1 rfl ?_
  refine q_iconst F dX9_guest_1 ?_
  refine q_iconst F dX9_guest_2 ?_
  refine q_callSP (n := 3) F (c_X9_in G hI M g 0 5 (by omega)) rfl gX9_guest_X9_in ⟨by decide, by decide, by decide +kernel⟩ rfl ⟨rfl, rfl, Nat.le_of_ble_eq_true rfl, Nat.le_of_ble_eq_true rfl⟩ rfl (Nat.le_of_ble_eq_true rfl) dX9_guest_3 (fun h3 => ?_)
  refine q_ifb_ne F 11 dX9_guest_6 (by decide) (fun c6 => ?_) (fun c6 => ?_)
  · have d1 := q_dt c6
    refine q_iload_n F dX9_guest_11 2 rfl ?_
    refine q_iconst F dX9_guest_12 ?_
    refine q_bipush F dX9_guest_13 (by decide) ?_
    refine q_callSP (n := 3) F (c_X9_in G hI M h 0 20 (by omega)) rfl gX9_guest_X9_in ⟨by decide, by decide, by decide +kernel⟩ rfl ⟨rfl, rfl, Nat.le_of_ble_eq_true rfl, Nat.le_of_ble_eq_true rfl⟩ rfl (Nat.le_of_ble_eq_true rfl) dX9_guest_15 (fun h15 => ?_)
    refine q_ifb_eq F 41 dX9_guest_18 (by decide) (fun c18 => ?_) (fun c18 => ?_)
    · refine q_bipush F dX9_guest_41 (by decide) ?_
      exact q_iret F FI dX9_guest_43 (by omega) ⟨fun h => absurd d1 h, fun _ _ => ⟨rfl, rfl⟩, fun _ h => absurd h.1 (q_df c18)⟩
    · refine q_iload_n F dX9_guest_21 3 rfl ?_
      refine q_iconst F dX9_guest_22 ?_
      refine q_bipush F dX9_guest_23 (by decide) ?_
      refine q_callSP (n := 3) F (c_X9_in G hI M f 0 9 (by omega)) rfl gX9_guest_X9_in ⟨by decide, by decide, by decide +kernel⟩ rfl ⟨rfl, rfl, Nat.le_of_ble_eq_true rfl, Nat.le_of_ble_eq_true rfl⟩ rfl (Nat.le_of_ble_eq_true rfl) dX9_guest_25 (fun h25 => ?_)
      refine q_ifb_eq F 41 dX9_guest_28 (by decide) (fun c28 => ?_) (fun c28 => ?_)
      · refine q_bipush F dX9_guest_41 (by decide) ?_
        exact q_iret F FI dX9_guest_43 (by omega) ⟨fun h => absurd d1 h, fun _ _ => ⟨rfl, rfl⟩, fun _ h => absurd h.2.1 (q_df c28)⟩
      · refine q_iload F dX9_guest_31 4 rfl ?_
        refine q_iconst F dX9_guest_33 ?_
        refine q_iconst F dX9_guest_34 ?_
        refine q_callSP (n := 3) F (c_X9_in G hI M a 0 2 (by omega)) rfl gX9_guest_X9_in ⟨by decide, by decide, by decide +kernel⟩ rfl ⟨rfl, rfl, Nat.le_of_ble_eq_true rfl, Nat.le_of_ble_eq_true rfl⟩ rfl (Nat.le_of_ble_eq_true rfl) dX9_guest_35 (fun h35 => ?_)
        refine q_ifb_ne F 44 dX9_guest_38 (by decide) (fun c38 => ?_) (fun c38 => ?_)
        · have d2 := q_dt c18
          have d3 := q_dt c28
          have d4 := q_dt c38
          refine q_aload_n F dX9_guest_44 0 rfl ?_
          refine q_dup F dX9_guest_45 rfl ?_
          refine q_geti (T := TX9) (ref := "LeastHungryModel") F huX9 rfl hm.1 0 (by decide) (by decide +kernel) rfl 0 rfl rfl dX9_guest_46 (fun h46 => ?_)
          refine q_iconst F dX9_guest_49 ?_
          refine q_iload_n F dX9_guest_50 1 rfl ?_
          refine q_ishl F dX9_guest_51 (fun z51 e51 h51 => ?_)
          refine q_ior F dX9_guest_52 (fun z52 e52 h52 => ?_)
          have h52 : z52 = q_set (fun x => q_has (M 0 0) x || decide (x = g)) := by rw [e52, e51, q_orb (by omega) (by omega) (by omega) (by omega)]
          refine q_puti (T := TX9) (ref := "LeastHungryModel") F huX9 rfl hm.1 0 (by decide) (by decide +kernel) rfl 0 rfl tyX9 tyX9_ok nmX9 rfl rfl (by decide +kernel) (by omega) dX9_guest_53 (fun N53 eN53 => ?_)
          refine q_aload_n F dX9_guest_56 0 rfl ?_
          refine q_getr (T := TX9) (ref := "LeastHungryModel") F huX9 rfl hm.1 1 (by decide) (by decide +kernel) rfl rfl dX9_guest_57 ?_
          refine q_iload_n F dX9_guest_60 1 rfl ?_
          refine q_iload_n F dX9_guest_61 2 rfl ?_
          refine q_iast F hm.2.1 (Nat.le_of_ble_eq_true rfl) (by omega) (by omega) dX9_guest_62 (fun N62 eN62 => ?_)
          refine q_aload_n F dX9_guest_63 0 rfl ?_
          refine q_getr (T := TX9) (ref := "LeastHungryModel") F huX9 rfl hm.1 2 (by decide) (by decide +kernel) rfl rfl dX9_guest_64 ?_
          refine q_iload_n F dX9_guest_67 1 rfl ?_
          refine q_iload_n F dX9_guest_68 3 rfl ?_
          refine q_iast F hm.2.2.1 (Nat.le_of_ble_eq_true rfl) (by omega) (by omega) dX9_guest_69 (fun N69 eN69 => ?_)
          refine q_aload_n F dX9_guest_70 0 rfl ?_
          refine q_getr (T := TX9) (ref := "LeastHungryModel") F huX9 rfl hm.1 3 (by decide) (by decide +kernel) rfl rfl dX9_guest_71 ?_
          refine q_iload_n F dX9_guest_74 1 rfl ?_
          refine q_iload F dX9_guest_75 4 rfl ?_
          refine q_iast F hm.2.2.2.1 (Nat.le_of_ble_eq_true rfl) (by omega) (by omega) dX9_guest_77 (fun N77 eN77 => ?_)
          refine q_aload_n F dX9_guest_78 0 rfl ?_
          refine q_geti (T := TX9) (ref := "LeastHungryModel") F huX9 rfl hm.1 0 (by decide) (by decide +kernel) rfl 0 rfl rfl dX9_guest_79 (fun h79 => ?_)
          have hth : N77 0 0 = q_set (fun x => q_has (M 0 0) x || decide (x = g)) := by rw [eN77, q_up_ne (by omega), eN69, q_up_ne (by omega), eN62, q_up_ne (by omega), eN53, q_up_at, if_pos rfl, h52]
          have hthR : 0 ≤ N77 0 0 ∧ N77 0 0 ≤ 63 := by rw [hth]; exact q_set_R _
          refine q_callSP (n := 1) F (c_X9_bits G hI N77 _ (by omega)) rfl gX9_guest_X9_bits ⟨by decide, by decide, by decide +kernel⟩ rfl ⟨rfl, rfl, Nat.le_of_ble_eq_true rfl, Nat.le_of_ble_eq_true rfl⟩ rfl (Nat.le_of_ble_eq_true rfl) dX9_guest_82 (fun h82 => ?_)
          exact q_iret F FI dX9_guest_85 h82 ⟨fun h => absurd d1 h, fun _ h => absurd ⟨d2, d3, d4⟩ h, fun _ _ => ⟨by rw [hth]; exact q_cnt_congr (fun x h0 h1 => q_has_set h0 h1), by rw [eN77, eN69, eN62, eN53, h52]⟩⟩
        · refine q_bipush F dX9_guest_41 (by decide) ?_
          exact q_iret F FI dX9_guest_43 (by omega) ⟨fun h => absurd d1 h, fun _ _ => ⟨rfl, rfl⟩, fun _ h => absurd h.2.2 (q_df c38)⟩
  · refine q_iconst F dX9_guest_9 ?_
    exact q_iret F FI dX9_guest_10 (by omega) ⟨fun _ => ⟨rfl, rfl⟩, fun h => absurd h (q_df c6), fun h => absurd h (q_df c6)⟩

set_option maxHeartbeats 4000000 in
set_option maxRecDepth 100000 in
theorem c_X9_leave (G : q_G) (hI : q_inj G) (M : q_M) (hm : q_mo G) (g : Int) (hgR : -2147483648 ≤ g ∧ g ≤ 2147483647) (hz : q_z0 M) (hF : q_fm (M 4)) : q_CI G yX9_leave wsX9_leave ({ frames := 2, cells := 0, slots := 0, locals := 43 } : Room) [.ref (q_ad G 0), .int (q_I g)] M (fun z M' => (q_has (M 0 0) g = false → z = -1 ∧ M' = M) ∧ (q_has (M 0 0) g = true → z = q_cnt (fun x => q_has (M 0 0) x && !decide (x = g)) ∧ (∀ j, j ≠ 0 → j ≠ 4 → M' j = M j) ∧ (∀ i, i ≠ 0 → M' 0 i = M 0 i) ∧ M' 0 0 = q_set (fun x => q_has (M 0 0) x && !decide (x = g)) ∧ ∀ x, 0 ≤ x → x < 6 → M' 4 x = q_set (fun y => q_has (M 4 x) y && !(decide (x = g) || decide (y = g))))) := by
  refine q_CI.of hI (by decide) rfl RX9 rfl [(0, .ref (q_ad G 0)), (1, .int (q_I g))] rfl (Nat.le_of_ble_eq_true rfl) (fun E F FI => ?_)
  have huX9 : ∀ w ∈ wsX90, w ∈ wsX9_leave := by decide +kernel
  refine q_MRof (fun hM => ?_)
  obtain ⟨xt, xk⟩ := id hz
  refine q_aload_n F dX9_leave_0 0 rfl ?_
  refine q_iload_n F dX9_leave_1 1 rfl ?_
  refine q_callVP (n := 1) (T := TX9) F (c_X9_isThere G hI M hm g (by omega) (by assumption)) rfl rfl hm.1 gX9_leave_X9_isThere rfl ⟨by decide, by decide, by decide +kernel⟩ rfl ⟨rfl, rfl, Nat.le_of_ble_eq_true rfl, Nat.le_of_ble_eq_true rfl⟩ rfl (Nat.le_of_ble_eq_true rfl) dX9_leave_2 (fun h2 => ?_)
  refine q_ifb_ne F 10 dX9_leave_5 (by decide) (fun c5 => ?_) (fun c5 => ?_)
  · have hgi := q_has_in c5
    refine q_aload_n F dX9_leave_10 0 rfl ?_
    refine q_dup F dX9_leave_11 rfl ?_
    refine q_geti (T := TX9) (ref := "LeastHungryModel") F huX9 rfl hm.1 0 (by decide) (by decide +kernel) rfl 0 rfl rfl dX9_leave_12 (fun h12 => ?_)
    refine q_iconst F dX9_leave_15 ?_
    refine q_iload_n F dX9_leave_16 1 rfl ?_
    refine q_ishl F dX9_leave_17 (fun z17 e17 h17 => ?_)
    refine q_iconst F dX9_leave_18 ?_
    refine q_ixor F dX9_leave_19 (fun z19 e19 h19 => ?_)
    refine q_iand F dX9_leave_20 (fun z20 e20 h20 => ?_)
    have h20 : z20 = q_set (fun x => q_has (M 0 0) x && !decide (x = g)) := by rw [e20, e19, e17, q_andb (by omega) (by omega) (by omega) (by omega)]
    refine q_puti (T := TX9) (ref := "LeastHungryModel") F huX9 rfl hm.1 0 (by decide) (by decide +kernel) rfl 0 rfl tyX9 tyX9_ok nmX9 rfl rfl (by decide +kernel) (by omega) dX9_leave_21 (fun N21 eN21 => ?_)
    refine q_aload_n F dX9_leave_24 0 rfl ?_
    refine q_getr (T := TX9) (ref := "LeastHungryModel") F huX9 rfl hm.1 5 (by decide) (by decide +kernel) rfl rfl dX9_leave_25 ?_
    refine q_iload_n F dX9_leave_28 1 rfl ?_
    refine q_iconst F dX9_leave_29 ?_
    refine q_iast F hm.2.2.2.2.1 (Nat.le_of_ble_eq_true rfl) (by omega) (by omega) dX9_leave_30 (fun N30 eN30 => ?_)
    refine q_iconst F dX9_leave_31 ?_
    refine q_istore_n F dX9_leave_32 [(2, .int (q_I 0)), (0, .ref (q_ad G 0)), (1, .int (q_I g))] (Nat.le_of_ble_eq_true rfl) rfl ?_
    have lp33_1 : ∀ (k33_1 : Nat) (k : Int) (M1 : q_M), ((0 ≤ k ∧ k ≤ 6) ∧ (∀ j, j ≠ 4 → M1 j = N30 j) ∧ (∀ x, 0 ≤ x → x < k → M1 4 x = q_set (fun y => q_has (M 4 x) y && !(decide (x = g) || decide (y = g)))) ∧ (∀ x, k ≤ x → x < 6 → M1 4 x = if x = g then 0 else M 4 x) ∧ True) → (6 - k).toNat = k33_1 → q_Y G E 3 M1 [(0, .ref (q_ad G 0)), (1, .int (q_I g)), (2, .int (q_I k))] 33 [] := by
      intro k33_1
      induction k33_1 using Nat.strongRecOn with
      | _ k33_1 ih33_1 =>
        intro k  M1 hi33 hk33
        refine q_MRof (fun hM33 => ?_)
        refine q_iload_n F dX9_leave_33 2 rfl ?_
        refine q_bipush F dX9_leave_34 (by decide) ?_
        refine q_icmp_ge F 59 dX9_leave_36 (by decide) (by omega) (fun c36 => ?_) (fun c36 => ?_)
        · obtain ⟨i1, i2, i3, i4, i5⟩ := hi33
          have hth : M1 0 0 = q_set (fun x => q_has (M 0 0) x && !decide (x = g)) := by rw [i2 0 (by omega), eN30, q_up_ne (by omega), eN21, q_up_at, if_pos rfl, h20]
          have hthR : 0 ≤ M1 0 0 ∧ M1 0 0 ≤ 63 := by rw [hth]; exact q_set_R _
          refine q_aload_n F dX9_leave_59 0 rfl ?_
          refine q_geti (T := TX9) (ref := "LeastHungryModel") F huX9 rfl hm.1 0 (by decide) (by decide +kernel) rfl 0 rfl rfl dX9_leave_60 (fun h60 => ?_)
          refine q_callSP (n := 1) F (c_X9_bits G hI M1 _ (by omega)) rfl gX9_leave_X9_bits ⟨by decide, by decide, by decide +kernel⟩ rfl ⟨rfl, rfl, Nat.le_of_ble_eq_true rfl, Nat.le_of_ble_eq_true rfl⟩ rfl (Nat.le_of_ble_eq_true rfl) dX9_leave_63 (fun h63 => ?_)
          exact q_iret F FI dX9_leave_66 h63 ⟨fun h => absurd (c5.symm.trans h) (by decide), fun _ => ⟨by rw [hth]; exact q_cnt_congr (fun x h0 h1 => q_has_set h0 h1), fun j h0 h4 => by rw [i2 j h4, eN30, q_up_ne h4, eN21, q_up_ne h0], fun i h0 => by rw [i2 0 (by omega), eN30, q_up_ne (by omega), eN21, q_up_at, if_neg h0], hth, fun x h0 h1 => i3 x h0 (by omega)⟩⟩
        · refine q_aload_n F dX9_leave_39 0 rfl ?_
          refine q_getr (T := TX9) (ref := "LeastHungryModel") F huX9 rfl hm.1 5 (by decide) (by decide +kernel) rfl rfl dX9_leave_40 ?_
          refine q_iload_n F dX9_leave_43 2 rfl ?_
          refine q_dup2 F dX9_leave_44 rfl rfl ?_
          refine q_iald F hm.2.2.2.2.1 (Nat.le_of_ble_eq_true rfl) (by omega) dX9_leave_45 (fun h45 => ?_)
          refine q_iconst F dX9_leave_46 ?_
          refine q_iload_n F dX9_leave_47 1 rfl ?_
          refine q_ishl F dX9_leave_48 (fun z48 e48 h48 => ?_)
          refine q_iconst F dX9_leave_49 ?_
          refine q_ixor F dX9_leave_50 (fun z50 e50 h50 => ?_)
          refine q_iand F dX9_leave_51 (fun z51 e51 h51 => ?_)
          refine q_iast F hm.2.2.2.2.1 (Nat.le_of_ble_eq_true rfl) (by omega) (by omega) dX9_leave_52 (fun N52 eN52 => ?_)
          obtain ⟨v53, e53⟩ : ∃ z_ : Int, z_ = k + 1 := ⟨_, rfl⟩
          refine q_iinc F dX9_leave_53 2 rfl e53 [(2, .int (q_I v53)), (0, .ref (q_ad G 0)), (1, .int (q_I g))] (Nat.le_of_ble_eq_true rfl) rfl ?_
          refine q_goto F 33 dX9_leave_56 (by decide) ?_
          refine q_drop [1, 2, 0] rfl ?_
          have e52 := eN52
          have hk := hi33.2.2.2.1 k (by omega) (by omega)
          have hv : 0 ≤ M1 4 k ∧ M1 4 k ≤ 63 := by
            rw [hk]
            split
            · omega
            · exact hF k (by omega) (by omega)
          exact ih33_1 _ (by omega) v53 N52 ⟨by omega, fun j hj => by rw [e52, q_up_ne hj]; exact hi33.2.1 j hj, fun x h0 h1 => by
                rw [e52, q_up_at]
                by_cases hx : x = k
                · rw [if_pos hx, e51, e50, e48, q_andb hv.1 hv.2 (by omega) (by omega), hx, hk]
                  refine q_set_congr (fun y _ _ => ?_)
                  by_cases hg : k = g
                  · rw [if_pos hg]
                    simp [hg, q_has]
                  · rw [if_neg hg]
                    simp [hg]
                · rw [if_neg hx]
                  exact hi33.2.2.1 x h0 (by omega), fun x h0 h1 => by
                rw [e52, q_up_at, if_neg (by omega)]
                exact hi33.2.2.2.1 x (by omega) h1, trivial⟩ rfl
    refine q_drop [1, 2, 0] rfl ?_
    exact lp33_1 _ 0 N30 ⟨by omega, fun _ _ => rfl, fun x h0 h1 => by omega, fun x h0 h1 => by rw [eN30, q_up_at, eN21, q_up_ne (by omega)], trivial⟩ rfl
  · refine q_iconst F dX9_leave_8 ?_
    exact q_iret F FI dX9_leave_9 (by omega) ⟨fun _ => ⟨rfl, rfl⟩, fun h => absurd (c5.symm.trans h) (by decide)⟩

set_option maxHeartbeats 4000000 in
set_option maxRecDepth 100000 in
theorem c_X9_keen (G : q_G) (hI : q_inj G) (M : q_M) (hm : q_mo G) (v : Int) (hvR : -2147483648 ≤ v ∧ v ≤ 2147483647) : q_CI G yX9_keen wsX9_keen ({ frames := 1, cells := 0, slots := 0, locals := 22 } : Room) [.ref (q_ad G 0), .int (q_I v)] M (fun z M' => (¬ (0 ≤ v ∧ v ≤ 9) → z = -2 ∧ M' = M) ∧ (0 ≤ v ∧ v ≤ 9 → z = M 0 4 ∧ M' = q_up M 0 4 v)) := by
  refine q_CI.of hI (by decide) rfl RX9 rfl [(0, .ref (q_ad G 0)), (1, .int (q_I v))] rfl (Nat.le_of_ble_eq_true rfl) (fun E F FI => ?_)
  have huX9 : ∀ w ∈ wsX90, w ∈ wsX9_keen := by decide +kernel
  refine q_MRof (fun hM => ?_)
  refine q_iload_n F dX9_keen_0 1 rfl ?_
  refine q_iconst F dX9_keen_1 ?_
  refine q_bipush F dX9_keen_2 (by decide) ?_
  refine q_callSP (n := 3) F (c_X9_in G hI M v 0 9 (by omega)) rfl gX9_keen_X9_in ⟨by decide, by decide, by decide +kernel⟩ rfl ⟨rfl, rfl, Nat.le_of_ble_eq_true rfl, Nat.le_of_ble_eq_true rfl⟩ rfl (Nat.le_of_ble_eq_true rfl) dX9_keen_4 (fun h4 => ?_)
  refine q_ifb_ne F 13 dX9_keen_7 (by decide) (fun c7 => ?_) (fun c7 => ?_)
  · refine q_aload_n F dX9_keen_13 0 rfl ?_
    refine q_geti (T := TX9) (ref := "LeastHungryModel") F huX9 rfl hm.1 4 (by decide) (by decide +kernel) rfl 4 rfl rfl dX9_keen_14 (fun h14 => ?_)
    refine q_nm (fun v17 e17 => ?_)
    refine q_istore_n F dX9_keen_17 [(2, .int (q_I v17)), (0, .ref (q_ad G 0)), (1, .int (q_I v))] (Nat.le_of_ble_eq_true rfl) rfl ?_
    refine q_aload_n F dX9_keen_18 1 rfl ?_
    refine q_iload_n F dX9_keen_19 2 rfl ?_
    refine q_puti (T := TX9) (ref := "LeastHungryModel") F huX9 rfl hm.1 4 (by decide) (by decide +kernel) rfl 4 rfl tyX9 tyX9_ok nmX9 rfl rfl (by decide +kernel) (by omega) dX9_keen_20 (fun N20 eN20 => ?_)
    refine q_iload_n F dX9_keen_23 0 rfl ?_
    exact q_iret F FI dX9_keen_24 (by omega) ⟨fun h => absurd (q_dt c7) h, fun _ => ⟨e17, eN20⟩⟩
  · refine q_bipush F dX9_keen_10 (by decide) ?_
    exact q_iret F FI dX9_keen_12 (by omega) ⟨fun _ => ⟨rfl, rfl⟩, fun h => absurd h (q_df c7)⟩

set_option maxHeartbeats 4000000 in
set_option maxRecDepth 100000 in
theorem c_X9_manyFeuds (G : q_G) (hI : q_inj G) (M : q_M) (hm : q_mo G) (hF : q_fm (M 4)) : q_CI G yX9_manyFeuds wsX9_manyFeuds ({ frames := 1, cells := 0, slots := 0, locals := 22 } : Room) [.ref (q_ad G 0)] M (fun z M' => z = S_fds (M 4) ∧ M' = M) := by
  refine q_CI.of hI (by decide) rfl RX9 rfl [(0, .ref (q_ad G 0))] rfl (Nat.le_of_ble_eq_true rfl) (fun E F FI => ?_)
  have huX9 : ∀ w ∈ wsX90, w ∈ wsX9_manyFeuds := by decide +kernel
  refine q_MRof (fun hM => ?_)
  refine q_iconst F dX9_manyFeuds_0 ?_
  refine q_istore_n F dX9_manyFeuds_1 [(1, .int (q_I 0)), (0, .ref (q_ad G 0))] (Nat.le_of_ble_eq_true rfl) rfl ?_
  refine q_iconst F dX9_manyFeuds_2 ?_
  refine q_istore_n F dX9_manyFeuds_3 [(2, .int (q_I 0)), (1, .int (q_I 0)), (0, .ref (q_ad G 0))] (Nat.le_of_ble_eq_true rfl) rfl ?_
  have lp4_1 : ∀ (k4_1 : Nat) (n : Int) (k : Int), ((0 ≤ k ∧ k ≤ 6) ∧ n = q_s6 (q_lz (fun x => q_cnt (q_has (M 4 x))) k)) → (6 - k).toNat = k4_1 → q_Y G E 3 M [(0, .ref (q_ad G 0)), (1, .int (q_I n)), (2, .int (q_I k))] 4 [] := by
    intro k4_1
    induction k4_1 using Nat.strongRecOn with
    | _ k4_1 ih4_1 =>
      intro n k   hi4 hk4
      have hn : 0 ≤ n ∧ n ≤ 36 := by
        rw [hi4.2]
        exact q_s6_KK (K := 6) (fun x h0 h1 => by
          have := q_cnt_R (q_has (M 4 x))
          unfold q_lz
          split <;> omega)
      have hFk : 0 ≤ k → k < 6 → _ := hF k
      refine q_iload_n F dX9_manyFeuds_4 2 rfl ?_
      refine q_bipush F dX9_manyFeuds_5 (by decide) ?_
      refine q_icmp_ge F 28 dX9_manyFeuds_7 (by decide) (by omega) (fun c7 => ?_) (fun c7 => ?_)
      · refine q_iload_n F dX9_manyFeuds_28 1 rfl ?_
        refine q_iconst F dX9_manyFeuds_29 ?_
        refine q_idiv F dX9_manyFeuds_30 (by omega) ?_
        exact q_iret F FI dX9_manyFeuds_31 (by omega) ⟨by unfold S_fds; rw [hi4.2, show k = 6 by omega, q_s6_6], rfl⟩
      · refine q_iload_n F dX9_manyFeuds_10 1 rfl ?_
        refine q_aload_n F dX9_manyFeuds_11 0 rfl ?_
        refine q_getr (T := TX9) (ref := "LeastHungryModel") F huX9 rfl hm.1 5 (by decide) (by decide +kernel) rfl rfl dX9_manyFeuds_12 ?_
        refine q_iload_n F dX9_manyFeuds_15 2 rfl ?_
        refine q_iald F hm.2.2.2.2.1 (Nat.le_of_ble_eq_true rfl) (by omega) dX9_manyFeuds_16 (fun h16 => ?_)
        refine q_callSP (n := 1) F (c_X9_bits G hI M _ (hFk hi4.1.1 (by omega))) rfl gX9_manyFeuds_X9_bits ⟨by decide, by decide, by decide +kernel⟩ rfl ⟨rfl, rfl, Nat.le_of_ble_eq_true rfl, Nat.le_of_ble_eq_true rfl⟩ rfl (Nat.le_of_ble_eq_true rfl) dX9_manyFeuds_17 (fun h17 => ?_)
        refine q_iadd F dX9_manyFeuds_20 ?_
        refine q_nm (fun v21 e21 => ?_)
        refine q_istore_n F dX9_manyFeuds_21 [(1, .int (q_I v21)), (0, .ref (q_ad G 0)), (2, .int (q_I k))] (Nat.le_of_ble_eq_true rfl) rfl ?_
        obtain ⟨v22, e22⟩ : ∃ z_ : Int, z_ = k + 1 := ⟨_, rfl⟩
        refine q_iinc F dX9_manyFeuds_22 2 rfl e22 [(2, .int (q_I v22)), (1, .int (q_I v21)), (0, .ref (q_ad G 0))] (Nat.le_of_ble_eq_true rfl) rfl ?_
        refine q_goto F 4 dX9_manyFeuds_25 (by decide) ?_
        refine q_drop [2, 1, 0] rfl ?_
        exact ih4_1 _ (by omega) v21 v22 ⟨by omega, by rw [e22, q_s6_step _ (by omega) (by omega), e21, ← hi4.2]⟩ rfl
  refine q_drop [2, 1, 0] rfl ?_
  exact lp4_1 _ 0 0 ⟨by omega, (q_s6_0 _).symm⟩ rfl

set_option maxHeartbeats 4000000 in
set_option maxRecDepth 100000 in
theorem c_X9_feud (G : q_G) (hI : q_inj G) (M : q_M) (hm : q_mo G) (g : Int) (o : Int) (w : Int) (hgR : -2147483648 ≤ g ∧ g ≤ 2147483647) (hoR : -2147483648 ≤ o ∧ o ≤ 2147483647) (hwR : -2147483648 ≤ w ∧ w ≤ 2147483647) (hz : q_z0 M) (hF : q_fm (M 4)) (hw01 : w = 0 ∨ w = 1) : q_CI G yX9_feud wsX9_feud ({ frames := 2, cells := 0, slots := 0, locals := 44 } : Room) [.ref (q_ad G 0), .int (q_I g), .int (q_I o), .int (q_I w)] M (fun z M' => (¬ (q_has (M 0 0) g = true ∧ q_has (M 0 0) o = true ∧ ¬ g = o) → z = -1 ∧ M' = M) ∧ (q_has (M 0 0) g = true ∧ q_has (M 0 0) o = true ∧ ¬ g = o → z = S_fds (M' 4) ∧ q_fr 4 M M' ∧ M' 4 = q_row (q_row (M 4) g (q_fset (M 4) g o w)) o (q_fset (M 4) o g w))) := by
  refine q_CI.of hI (by decide) rfl RX9 rfl [(0, .ref (q_ad G 0)), (1, .int (q_I g)), (2, .int (q_I o)), (3, .int (q_I w))] rfl (Nat.le_of_ble_eq_true rfl) (fun E F FI => ?_)
  have huX9 : ∀ w ∈ wsX90, w ∈ wsX9_feud := by decide +kernel
  refine q_MRof (fun hM => ?_)
  obtain ⟨xt, xk⟩ := id hz
  refine q_aload_n F dX9_feud_0 0 rfl ?_
  refine q_iload_n F dX9_feud_1 1 rfl ?_
  refine q_callVP (n := 1) (T := TX9) F (c_X9_isThere G hI M hm g (by omega) (by assumption)) rfl rfl hm.1 gX9_feud_X9_isThere rfl ⟨by decide, by decide, by decide +kernel⟩ rfl ⟨rfl, rfl, Nat.le_of_ble_eq_true rfl, Nat.le_of_ble_eq_true rfl⟩ rfl (Nat.le_of_ble_eq_true rfl) dX9_feud_2 (fun h2 => ?_)
  refine q_ifb_eq F 21 dX9_feud_5 (by decide) (fun c5 => ?_) (fun c5 => ?_)
  · refine q_iconst F dX9_feud_21 ?_
    exact q_iret F FI dX9_feud_22 (by omega) ⟨fun _ => ⟨rfl, rfl⟩, fun h => absurd h.1 (by simp [c5])⟩
  · refine q_aload_n F dX9_feud_8 0 rfl ?_
    refine q_iload_n F dX9_feud_9 2 rfl ?_
    refine q_callVP (n := 1) (T := TX9) F (c_X9_isThere G hI M hm o (by omega) (by assumption)) rfl rfl hm.1 gX9_feud_X9_isThere rfl ⟨by decide, by decide, by decide +kernel⟩ rfl ⟨rfl, rfl, Nat.le_of_ble_eq_true rfl, Nat.le_of_ble_eq_true rfl⟩ rfl (Nat.le_of_ble_eq_true rfl) dX9_feud_10 (fun h10 => ?_)
    refine q_ifb_eq F 21 dX9_feud_13 (by decide) (fun c13 => ?_) (fun c13 => ?_)
    · refine q_iconst F dX9_feud_21 ?_
      exact q_iret F FI dX9_feud_22 (by omega) ⟨fun _ => ⟨rfl, rfl⟩, fun h => absurd h.2.1 (by simp [c13])⟩
    · refine q_iload_n F dX9_feud_16 1 rfl ?_
      refine q_iload_n F dX9_feud_17 2 rfl ?_
      refine q_icmp_ne F 23 dX9_feud_18 (by decide) (by omega) (fun c18 => ?_) (fun c18 => ?_)
      · have hg1 := q_has_in c5
        have hg2 := q_has_in c13
        have hFg := hF g hg1.1 hg1.2
        have hFo := hF o hg2.1 hg2.2
        refine q_aload_n F dX9_feud_23 0 rfl ?_
        refine q_getr (T := TX9) (ref := "LeastHungryModel") F huX9 rfl hm.1 5 (by decide) (by decide +kernel) rfl rfl dX9_feud_24 ?_
        refine q_iload_n F dX9_feud_27 1 rfl ?_
        refine q_iload_n F dX9_feud_28 3 rfl ?_
        refine q_if_eq F 45 dX9_feud_29 (by decide) (by omega) (fun c29 => ?_) (fun c29 => ?_)
        · refine q_aload_n F dX9_feud_45 0 rfl ?_
          refine q_getr (T := TX9) (ref := "LeastHungryModel") F huX9 rfl hm.1 5 (by decide) (by decide +kernel) rfl rfl dX9_feud_46 ?_
          refine q_iload_n F dX9_feud_49 1 rfl ?_
          refine q_iald F hm.2.2.2.2.1 (Nat.le_of_ble_eq_true rfl) (by omega) dX9_feud_50 (fun h50 => ?_)
          refine q_iconst F dX9_feud_51 ?_
          refine q_iload_n F dX9_feud_52 2 rfl ?_
          refine q_ishl F dX9_feud_53 (fun z53 e53 h53 => ?_)
          refine q_iconst F dX9_feud_54 ?_
          refine q_ixor F dX9_feud_55 (fun z55 e55 h55 => ?_)
          refine q_iand F dX9_feud_56 (fun z56 e56 h56 => ?_)
          refine q_iast F hm.2.2.2.2.1 (Nat.le_of_ble_eq_true rfl) (by omega) (by omega) dX9_feud_57 (fun N57 eN57 => ?_)
          have h57 : N57 = q_up M 4 g (q_fset (M 4) g o w) := by
            rw [eN57]
            congr 1
            unfold q_fset
            rw [e56, e55, e53, q_andb hFg.1 hFg.2 hg2.1 hg2.2]
            refine q_set_congr (fun y _ _ => ?_)
            rw [show w = 0 by omega]
            by_cases hy : y = o <;> simp [hy]
          have eo : N57 4 o = M 4 o := by rw [h57, q_up_at, if_neg (fun h => c18 h.symm)]
          have hFo2 := hFo
          rw [← eo] at hFo2
          refine q_aload_n F dX9_feud_58 0 rfl ?_
          refine q_getr (T := TX9) (ref := "LeastHungryModel") F huX9 rfl hm.1 5 (by decide) (by decide +kernel) rfl rfl dX9_feud_59 ?_
          refine q_iload_n F dX9_feud_62 2 rfl ?_
          refine q_iload_n F dX9_feud_63 3 rfl ?_
          refine q_if_eq F 80 dX9_feud_64 (by decide) (by omega) (fun c64 => ?_) (fun c64 => ?_)
          rotate_left
          · exfalso; omega
          refine q_aload_n F dX9_feud_80 0 rfl ?_
          refine q_getr (T := TX9) (ref := "LeastHungryModel") F huX9 rfl hm.1 5 (by decide) (by decide +kernel) rfl rfl dX9_feud_81 ?_
          refine q_iload_n F dX9_feud_84 2 rfl ?_
          refine q_iald F hm.2.2.2.2.1 (Nat.le_of_ble_eq_true rfl) (by omega) dX9_feud_85 (fun h85 => ?_)
          refine q_iconst F dX9_feud_86 ?_
          refine q_iload_n F dX9_feud_87 1 rfl ?_
          refine q_ishl F dX9_feud_88 (fun z88 e88 h88 => ?_)
          refine q_iconst F dX9_feud_89 ?_
          refine q_ixor F dX9_feud_90 (fun z90 e90 h90 => ?_)
          refine q_iand F dX9_feud_91 (fun z91 e91 h91 => ?_)
          refine q_iast F hm.2.2.2.2.1 (Nat.le_of_ble_eq_true rfl) (by omega) (by omega) dX9_feud_92 (fun N92 eN92 => ?_)
          have h92 : N92 = q_up N57 4 o (q_fset (M 4) o g w) := by
            rw [eN92]
            congr 1
            unfold q_fset
            rw [e91, e90, e88, q_andb hFo2.1 hFo2.2 hg1.1 hg1.2, eo]
            refine q_set_congr (fun y _ _ => ?_)
            rw [show w = 0 by omega]
            by_cases hy : y = g <;> simp [hy]
          have h4 : N92 4 = q_row (q_row (M 4) g (q_fset (M 4) g o w)) o (q_fset (M 4) o g w) := by rw [h92, q_up_row, h57, q_up_row]
          have hF92 : q_fm (N92 4) := by rw [h4]; exact q_row_fm (q_row_fm hF (q_set_R _)) (q_set_R _)
          refine q_aload_n F dX9_feud_93 0 rfl ?_
          refine q_callVP (n := 0) (T := TX9) F (c_X9_manyFeuds G hI N92 hm hF92) rfl rfl hm.1 gX9_feud_X9_manyFeuds rfl ⟨by decide, by decide, by decide +kernel⟩ rfl ⟨rfl, rfl, Nat.le_of_ble_eq_true rfl, Nat.le_of_ble_eq_true rfl⟩ rfl (Nat.le_of_ble_eq_true rfl) dX9_feud_94 (fun h94 => ?_)
          exact q_iret F FI dX9_feud_97 h94 ⟨fun h => absurd ⟨c5, c13, c18⟩ h, fun _ => ⟨rfl, fun j hj => by rw [h92, q_up_ne hj, h57, q_up_ne hj], h4⟩⟩
        · refine q_aload_n F dX9_feud_32 0 rfl ?_
          refine q_getr (T := TX9) (ref := "LeastHungryModel") F huX9 rfl hm.1 5 (by decide) (by decide +kernel) rfl rfl dX9_feud_33 ?_
          refine q_iload_n F dX9_feud_36 1 rfl ?_
          refine q_iald F hm.2.2.2.2.1 (Nat.le_of_ble_eq_true rfl) (by omega) dX9_feud_37 (fun h37 => ?_)
          refine q_iconst F dX9_feud_38 ?_
          refine q_iload_n F dX9_feud_39 2 rfl ?_
          refine q_ishl F dX9_feud_40 (fun z40 e40 h40 => ?_)
          refine q_ior F dX9_feud_41 (fun z41 e41 h41 => ?_)
          refine q_goto F 57 dX9_feud_42 (by decide) ?_
          refine q_iast F hm.2.2.2.2.1 (Nat.le_of_ble_eq_true rfl) (by omega) (by omega) dX9_feud_57 (fun N57 eN57 => ?_)
          have h57 : N57 = q_up M 4 g (q_fset (M 4) g o w) := by
            rw [eN57]
            congr 1
            unfold q_fset
            rw [e41, e40, q_orb hFg.1 hFg.2 hg2.1 hg2.2]
            refine q_set_congr (fun y _ _ => ?_)
            rw [show w = 1 by omega]
            by_cases hy : y = o <;> simp [hy]
          have eo : N57 4 o = M 4 o := by rw [h57, q_up_at, if_neg (fun h => c18 h.symm)]
          have hFo2 := hFo
          rw [← eo] at hFo2
          refine q_aload_n F dX9_feud_58 0 rfl ?_
          refine q_getr (T := TX9) (ref := "LeastHungryModel") F huX9 rfl hm.1 5 (by decide) (by decide +kernel) rfl rfl dX9_feud_59 ?_
          refine q_iload_n F dX9_feud_62 2 rfl ?_
          refine q_iload_n F dX9_feud_63 3 rfl ?_
          refine q_if_eq F 80 dX9_feud_64 (by decide) (by omega) (fun c64 => ?_) (fun c64 => ?_)
          · exfalso; omega
          refine q_aload_n F dX9_feud_67 0 rfl ?_
          refine q_getr (T := TX9) (ref := "LeastHungryModel") F huX9 rfl hm.1 5 (by decide) (by decide +kernel) rfl rfl dX9_feud_68 ?_
          refine q_iload_n F dX9_feud_71 2 rfl ?_
          refine q_iald F hm.2.2.2.2.1 (Nat.le_of_ble_eq_true rfl) (by omega) dX9_feud_72 (fun h72 => ?_)
          refine q_iconst F dX9_feud_73 ?_
          refine q_iload_n F dX9_feud_74 1 rfl ?_
          refine q_ishl F dX9_feud_75 (fun z75 e75 h75 => ?_)
          refine q_ior F dX9_feud_76 (fun z76 e76 h76 => ?_)
          refine q_goto F 92 dX9_feud_77 (by decide) ?_
          refine q_iast F hm.2.2.2.2.1 (Nat.le_of_ble_eq_true rfl) (by omega) (by omega) dX9_feud_92 (fun N92 eN92 => ?_)
          have h92 : N92 = q_up N57 4 o (q_fset (M 4) o g w) := by
            rw [eN92]
            congr 1
            unfold q_fset
            rw [e76, e75, q_orb hFo2.1 hFo2.2 hg1.1 hg1.2, eo]
            refine q_set_congr (fun y _ _ => ?_)
            rw [show w = 1 by omega]
            by_cases hy : y = g <;> simp [hy]
          have h4 : N92 4 = q_row (q_row (M 4) g (q_fset (M 4) g o w)) o (q_fset (M 4) o g w) := by rw [h92, q_up_row, h57, q_up_row]
          have hF92 : q_fm (N92 4) := by rw [h4]; exact q_row_fm (q_row_fm hF (q_set_R _)) (q_set_R _)
          refine q_aload_n F dX9_feud_93 0 rfl ?_
          refine q_callVP (n := 0) (T := TX9) F (c_X9_manyFeuds G hI N92 hm hF92) rfl rfl hm.1 gX9_feud_X9_manyFeuds rfl ⟨by decide, by decide, by decide +kernel⟩ rfl ⟨rfl, rfl, Nat.le_of_ble_eq_true rfl, Nat.le_of_ble_eq_true rfl⟩ rfl (Nat.le_of_ble_eq_true rfl) dX9_feud_94 (fun h94 => ?_)
          exact q_iret F FI dX9_feud_97 h94 ⟨fun h => absurd ⟨c5, c13, c18⟩ h, fun _ => ⟨rfl, fun j hj => by rw [h92, q_up_ne hj, h57, q_up_ne hj], h4⟩⟩
      · refine q_iconst F dX9_feud_21 ?_
        exact q_iret F FI dX9_feud_22 (by omega) ⟨fun _ => ⟨rfl, rfl⟩, fun h => absurd c18 h.2.2⟩

set_option maxHeartbeats 4000000 in
set_option maxRecDepth 100000 in
theorem c_X9_say (G : q_G) (hI : q_inj G) (M : q_M) (hm : q_mo G) (s : Int) (hsR : -2147483648 ≤ s ∧ s ≤ 2147483647) (hS : 0 ≤ M 0 8 ∧ M 0 8 ≤ 60) : q_CI G yX9_say wsX9_say ({ frames := 1, cells := 0, slots := 0, locals := 22 } : Room) [.ref (q_ad G 0), .int (q_I s)] M (fun z M' => (¬ (33 ≤ s ∧ s ≤ 126) → z = -2 ∧ M' = M) ∧ (33 ≤ s ∧ s ≤ 126 → 60 ≤ M 0 8 → z = -4 ∧ M' = M) ∧ (33 ≤ s ∧ s ≤ 126 → M 0 8 < 60 → z = M 0 8 + 1 ∧ M' = q_up (q_up M 6 (M 0 8) s) 0 8 (M 0 8 + 1))) := by
  refine q_CI.of hI (by decide) rfl RX9 rfl [(0, .ref (q_ad G 0)), (1, .int (q_I s))] rfl (Nat.le_of_ble_eq_true rfl) (fun E F FI => ?_)
  have huX9 : ∀ w ∈ wsX90, w ∈ wsX9_say := by decide +kernel
  refine q_MRof (fun hM => ?_)
  refine q_iload_n F dX9_say_0 1 rfl ?_
  refine q_bipush F dX9_say_1 (by decide) ?_
  refine q_bipush F dX9_say_3 (by decide) ?_
  refine q_callSP (n := 3) F (c_X9_in G hI M s 33 126 (by omega)) rfl gX9_say_X9_in ⟨by decide, by decide, by decide +kernel⟩ rfl ⟨rfl, rfl, Nat.le_of_ble_eq_true rfl, Nat.le_of_ble_eq_true rfl⟩ rfl (Nat.le_of_ble_eq_true rfl) dX9_say_5 (fun h5 => ?_)
  refine q_ifb_ne F 14 dX9_say_8 (by decide) (fun c8 => ?_) (fun c8 => ?_)
  · refine q_aload_n F dX9_say_14 0 rfl ?_
    refine q_geti (T := TX9) (ref := "LeastHungryModel") F huX9 rfl hm.1 8 (by decide) (by decide +kernel) rfl 8 rfl rfl dX9_say_15 (fun h15 => ?_)
    refine q_bipush F dX9_say_18 (by decide) ?_
    refine q_icmp_ne F 26 dX9_say_20 (by decide) (by omega) (fun c20 => ?_) (fun c20 => ?_)
    · refine q_aload_n F dX9_say_26 0 rfl ?_
      refine q_getr (T := TX9) (ref := "LeastHungryModel") F huX9 rfl hm.1 9 (by decide) (by decide +kernel) rfl rfl dX9_say_27 ?_
      refine q_aload_n F dX9_say_30 0 rfl ?_
      refine q_geti (T := TX9) (ref := "LeastHungryModel") F huX9 rfl hm.1 8 (by decide) (by decide +kernel) rfl 8 rfl rfl dX9_say_31 (fun h31 => ?_)
      refine q_iload_n F dX9_say_34 1 rfl ?_
      refine q_iast F hm.2.2.2.2.2.2.1 (Nat.le_of_ble_eq_true rfl) (by omega) (by omega) dX9_say_35 (fun N35 eN35 => ?_)
      have e35 : N35 0 8 = M 0 8 := by rw [eN35, q_up_ne (by omega)]
      refine q_aload_n F dX9_say_36 0 rfl ?_
      refine q_dup F dX9_say_37 rfl ?_
      refine q_geti (T := TX9) (ref := "LeastHungryModel") F huX9 rfl hm.1 8 (by decide) (by decide +kernel) rfl 8 rfl rfl dX9_say_38 (fun h38 => ?_)
      refine q_iconst F dX9_say_41 ?_
      refine q_iadd F dX9_say_42 ?_
      refine q_puti (T := TX9) (ref := "LeastHungryModel") F huX9 rfl hm.1 8 (by decide) (by decide +kernel) rfl 8 rfl tyX9 tyX9_ok nmX9 rfl rfl (by decide +kernel) (by omega) dX9_say_43 (fun N43 eN43 => ?_)
      refine q_aload_n F dX9_say_46 0 rfl ?_
      have e43 : N43 0 8 = M 0 8 + 1 := by rw [eN43, q_up_at, if_pos rfl, e35]
      refine q_geti (T := TX9) (ref := "LeastHungryModel") F huX9 rfl hm.1 8 (by decide) (by decide +kernel) rfl 8 rfl rfl dX9_say_47 (fun h47 => ?_)
      exact q_iret F FI dX9_say_50 (by omega) ⟨fun h => absurd (q_dt c8) h, fun _ h => by omega, fun _ _ => ⟨e43, by rw [eN43, e35, eN35]⟩⟩
    · refine q_bipush F dX9_say_23 (by decide) ?_
      exact q_iret F FI dX9_say_25 (by omega) ⟨fun h => absurd (q_dt c8) h, fun _ _ => ⟨rfl, rfl⟩, fun _ h => by omega⟩
  · refine q_bipush F dX9_say_11 (by decide) ?_
    exact q_iret F FI dX9_say_13 (by omega) ⟨fun _ => ⟨rfl, rfl⟩, fun h => absurd h (q_df c8), fun h => absurd h (q_df c8)⟩

set_option maxHeartbeats 4000000 in
set_option maxRecDepth 100000 in
theorem c_X9_wipe (G : q_G) (hI : q_inj G) (M : q_M) (hm : q_mo G) : q_CI G yX9_wipe wsX9_wipe ({ frames := 0, cells := 0, slots := 0, locals := 0 } : Room) [.ref (q_ad G 0)] M (fun z M' => z = M 0 8 ∧ M' = q_up M 0 8 0) := by
  refine q_CI.of hI (by decide) rfl RX9 rfl [(0, .ref (q_ad G 0))] rfl (Nat.le_of_ble_eq_true rfl) (fun E F FI => ?_)
  have huX9 : ∀ w ∈ wsX90, w ∈ wsX9_wipe := by decide +kernel
  refine q_MRof (fun hM => ?_)
  refine q_aload_n F dX9_wipe_0 0 rfl ?_
  refine q_geti (T := TX9) (ref := "LeastHungryModel") F huX9 rfl hm.1 8 (by decide) (by decide +kernel) rfl 8 rfl rfl dX9_wipe_1 (fun h1 => ?_)
  refine q_nm (fun v4 e4 => ?_)
  refine q_istore_n F dX9_wipe_4 [(1, .int (q_I v4)), (0, .ref (q_ad G 0))] (Nat.le_of_ble_eq_true rfl) rfl ?_
  refine q_aload_n F dX9_wipe_5 1 rfl ?_
  refine q_iconst F dX9_wipe_6 ?_
  refine q_puti (T := TX9) (ref := "LeastHungryModel") F huX9 rfl hm.1 8 (by decide) (by decide +kernel) rfl 8 rfl tyX9 tyX9_ok nmX9 rfl rfl (by decide +kernel) (by omega) dX9_wipe_7 (fun N7 eN7 => ?_)
  refine q_iload_n F dX9_wipe_10 0 rfl ?_
  exact q_iret F FI dX9_wipe_11 (by omega) ⟨e4, eN7⟩
