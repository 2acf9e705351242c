/-! seats: rows of a set by who begins -/
def q_minus (s g : Int) : Int := q_and s (q_xor (q_shl 1 g) (-1))
def q_wy (F : Int → Int) : Nat → Int → Int → Int
  | 0, _, _ => 0
  | n + 1, s, g => if q_minus s g = 0 then 1 else q_s6 (fun x => if q_has (q_and (q_minus s g) (q_xor (F g) (-1))) x = true then q_wy F n (q_minus s g) x else 0)
theorem q_wy_u (F : Int → Int) (n : Nat) (s g : Int) : q_wy F (n + 1) s g = if q_minus s g = 0 then 1 else q_s6 (fun x => if q_has (q_and (q_minus s g) (q_xor (F g) (-1))) x = true then q_wy F n (q_minus s g) x else 0) := rfl
theorem q_minus_eq {s g : Int} (h : 0 ≤ s ∧ s ≤ 63) (g0 : 0 ≤ g) (g1 : g < 6) : q_minus s g = q_set (fun x => q_has s x && !decide (x = g)) := q_andb h.1 h.2 g0 g1
theorem q_minus_R {s g : Int} (h : 0 ≤ s ∧ s ≤ 63) (g0 : 0 ≤ g) (g1 : g < 6) : 0 ≤ q_minus s g ∧ q_minus s g ≤ 63 := by
  rw [q_minus_eq h g0 g1]
  exact q_set_R _
theorem q_minus_has {s g x : Int} (h : 0 ≤ s ∧ s ≤ 63) (g0 : 0 ≤ g) (g1 : g < 6) (x0 : 0 ≤ x) (x1 : x < 6) : q_has (q_minus s g) x = (q_has s x && !decide (x = g)) := by
  rw [q_minus_eq h g0 g1, q_has_set x0 x1]
theorem q_minus_lt {s g : Int} (h : 0 ≤ s ∧ s ≤ 63) (hg : q_has s g = true) : q_minus s g < s ∧ q_cnt (q_has (q_minus s g)) = q_cnt (q_has s) - 1 := by
  have hi := q_has_in hg
  have := q_dec64 (p := fun s => q_has s g = true → q_minus s g < s ∧ q_cnt (q_has (q_minus s g)) = q_cnt (q_has s) - 1) (q_dec6 (p := fun g => ∀ n : Nat, n < 64 → q_has (n : Int) g = true → q_minus (n : Int) g < (n : Int) ∧ q_cnt (q_has (q_minus (n : Int) g)) = q_cnt (q_has (n : Int)) - 1) (by decide +kernel) hi.1 hi.2) h.1 h.2
  exact this hg
theorem q_cnt_0s {s : Int} (h : 0 ≤ s ∧ s ≤ 63) : q_cnt (q_has s) = 0 ↔ s = 0 := by
  have := q_dec64 (p := fun s => (decide (q_cnt (q_has s) = 0) == decide (s = 0)) = true) (by decide +kernel) h.1 h.2
  simpa using this
theorem q_has_and {s t x : Int} (h : 0 ≤ s ∧ s ≤ 63) (k : 0 ≤ t ∧ t ≤ 63) (x0 : 0 ≤ x) (x1 : x < 6) : q_has (q_and s (q_xor t (-1))) x = (q_has s x && !q_has t x) := by
  rw [q_andn h.1 h.2 k.1 k.2, q_has_set x0 x1]
/-- enough fuel is enough -/
theorem q_wy_fuel {F : Int → Int} (hF : q_fm F) : ∀ (n m : Nat) (s g : Int), 0 ≤ s → s ≤ 63 → q_has s g = true → q_cnt (q_has s) ≤ n → q_cnt (q_has s) ≤ m → q_wy F n s g = q_wy F m s g
  | 0, m, s, g, h0, h1, hg, hn, _ => by
    exfalso
    have := (q_cnt_0s ⟨h0, h1⟩).mp (by have := q_cnt_R (q_has s); omega)
    subst this
    simp [q_has] at hg
  | n + 1, 0, s, g, h0, h1, hg, _, hm => by
    exfalso
    have := (q_cnt_0s ⟨h0, h1⟩).mp (by have := q_cnt_R (q_has s); omega)
    subst this
    simp [q_has] at hg
  | n + 1, m + 1, s, g, h0, h1, hg, hn, hm => by
    have hi := q_has_in hg
    have hR := q_minus_R ⟨h0, h1⟩ hi.1 hi.2
    have hl := q_minus_lt ⟨h0, h1⟩ hg
    rw [q_wy_u, q_wy_u]
    by_cases hz : q_minus s g = 0
    · rw [if_pos hz, if_pos hz]
    · rw [if_neg hz, if_neg hz]
      refine q_s6_congr (fun x x0 x1 => ?_)
      by_cases hx : q_has (q_and (q_minus s g) (q_xor (F g) (-1))) x = true
      · rw [if_pos hx, if_pos hx]
        have hx2 : q_has (q_minus s g) x = true := by
          rw [q_has_and hR (hF g hi.1 hi.2) x0 x1] at hx
          simp only [Bool.and_eq_true] at hx
          exact hx.1
        exact q_wy_fuel hF n m _ x hR.1 hR.2 hx2 (by omega) (by omega)
      · rw [if_neg hx, if_neg hx]
theorem q_s6_KK {f : Int → Int} {K : Int} (hf : ∀ x, 0 ≤ x → x < 6 → 0 ≤ f x ∧ f x ≤ K) : 0 ≤ q_s6 f ∧ q_s6 f ≤ 6 * K := by
  have h0 := hf 0 (by omega) (by omega)
  have h1 := hf 1 (by omega) (by omega)
  have h2 := hf 2 (by omega) (by omega)
  have h3 := hf 3 (by omega) (by omega)
  have h4 := hf 4 (by omega) (by omega)
  have h5 := hf 5 (by omega) (by omega)
  unfold q_s6
  omega
theorem q_wy_R (F : Int → Int) : ∀ (n : Nat) (s g : Int), 0 ≤ q_wy F n s g ∧ q_wy F n s g ≤ q_pw 6 n
  | 0, _, _ => by simp [q_wy, q_pw]
  | n + 1, s, g => by
    have hp := q_pw_pos (b := 6) (by omega) n
    rw [q_wy_u]
    show 0 ≤ _ ∧ _ ≤ q_pw 6 n * 6
    split
    · omega
    · have := q_s6_KK (f := fun x => if q_has (q_and (q_minus s g) (q_xor (F g) (-1))) x = true then q_wy F n (q_minus s g) x else 0) (K := q_pw 6 n) (fun x _ _ => by
        have := q_wy_R F n (q_minus s g) x
        show 0 ≤ (if _ then _ else (0 : Int)) ∧ (if _ then _ else (0 : Int)) ≤ q_pw 6 n
        split <;> omega)
      omega
/-- rows of s, none with its first in fo -/
def q_rb (F : Int → Int) (s fo : Int) : Int := q_s6 (fun x => if q_has (q_and s (q_xor fo (-1))) x = true then q_wy F 6 s x else 0)
def q_sub (p s : Int) : Prop := q_and p (q_xor s (-1)) = 0
theorem q_sub_iff {p s : Int} (hp : 0 ≤ p ∧ p ≤ 63) (hs : 0 ≤ s ∧ s ≤ 63) : q_sub p s ↔ ∀ x, q_has p x = true → q_has s x = true := by
  unfold q_sub
  rw [q_andn hp.1 hp.2 hs.1 hs.2]
  have hR := q_set_R (fun x => q_has p x && !q_has s x)
  rw [← q_cnt_0s hR]
  constructor
  · intro h x hx
    have hi := q_has_in hx
    rw [q_cnt_0s hR] at h
    have h2 : q_has (q_set (fun x => q_has p x && !q_has s x)) x = false := by rw [h]; simp [q_has]
    rw [q_has_set hi.1 hi.2, hx] at h2
    simpa using h2
  · intro h
    rw [q_cnt_0s hR]
    have : q_set (fun x => q_has p x && !q_has s x) = q_set (fun _ => false) := q_set_congr (fun x _ _ => by
      cases hx : q_has p x
      · rfl
      · rw [h x hx]
        rfl)
    rw [this]
    rfl
/-- the table holds the parts of s below k -/
def q_tab (M : q_M) (c : Nat) (F : Int → Int) (s k : Int) : Prop := ∀ p g, 1 ≤ p → p < k → p ≤ 63 → q_sub p s → q_has p g = true → M (c + 1) (p * 6 + g) = q_wy F 6 p g
theorem q_tab_rb {M : q_M} {c : Nat} {F : Int → Int} {s k p fo : Int} (h : q_tab M c F s k) (hp : 0 ≤ p ∧ p ≤ 63) (hk : p < k ∨ p = 0) (hs : q_sub p s) (hfo : 0 ≤ fo ∧ fo ≤ 63) : q_s6 (fun x => if q_has (q_and p (q_xor fo (-1))) x = true then M (c + 1) (p * 6 + x) else 0) = q_rb F p fo := by
  unfold q_rb
  refine q_s6_congr (fun x x0 x1 => ?_)
  by_cases hx : q_has (q_and p (q_xor fo (-1))) x = true
  · rw [if_pos hx, if_pos hx]
    rw [q_has_and hp hfo x0 x1] at hx
    simp only [Bool.and_eq_true] at hx
    by_cases hp0 : p = 0
    · rw [hp0] at hx
      simp [q_has] at hx
    · exact h p x (by omega) (by omega) hp.2 hs hx.1
  · rw [if_neg hx, if_neg hx]
theorem q_wy_6 {F : Int → Int} (hF : q_fm F) {p g : Int} (hp : 0 ≤ p ∧ p ≤ 63) (hg : q_has p g = true) : q_wy F 6 p g = if q_minus p g = 0 then 1 else q_rb F (q_minus p g) (F g) := by
  have hi := q_has_in hg
  have hR := q_minus_R hp hi.1 hi.2
  have hl := q_minus_lt hp hg
  have hc := q_cnt_R (q_has p)
  rw [q_wy_u]
  by_cases hz : q_minus p g = 0
  · rw [if_pos hz, if_pos hz]
  · rw [if_neg hz, if_neg hz]
    unfold q_rb
    refine q_s6_congr (fun x x0 x1 => ?_)
    by_cases hx : q_has (q_and (q_minus p g) (q_xor (F g) (-1))) x = true
    · rw [if_pos hx, if_pos hx]
      have hx2 : q_has (q_minus p g) x = true := by
        rw [q_has_and hR (hF g hi.1 hi.2) x0 x1] at hx
        simp only [Bool.and_eq_true] at hx
        exact hx.1
      exact q_wy_fuel hF 5 6 _ x hR.1 hR.2 hx2 (by omega) (by omega)
    · rw [if_neg hx, if_neg hx]
theorem q_rb_R (F : Int → Int) (s fo : Int) : 0 ≤ q_rb F s fo ∧ q_rb F s fo ≤ 300000 := by
  have h := q_s6_KK (f := fun x => if q_has (q_and s (q_xor fo (-1))) x = true then q_wy F 6 s x else 0) (K := 46656) (fun x _ _ => by
    have := q_wy_R F 6 s x
    have e : q_pw 6 6 = 46656 := by decide
    rw [e] at this
    show 0 ≤ (if _ then _ else (0 : Int)) ∧ (if _ then _ else (0 : Int)) ≤ 46656
    split <;> omega)
  unfold q_rb
  omega
def q_rows (F : Int → Int) (s : Int) : Int := if s = 0 then 1 else q_rb F s 0
def q_fsP (F : Int → Int) (s fo x : Int) : Bool := q_has (q_and s (q_xor fo (-1))) x && decide (0 < q_wy F 6 s x)
/-- who sits: what is left, the last one's foes, the last one -/
def q_sit (F : Int → Int) (s : Int) : Nat → Int × Int × Int
  | 0 => (s, 0, -6)
  | n + 1 => (q_minus (q_sit F s n).1 (q_first (q_fsP F (q_sit F s n).1 (q_sit F s n).2.1) 6 0), F (q_first (q_fsP F (q_sit F s n).1 (q_sit F s n).2.1) 6 0), q_first (q_fsP F (q_sit F s n).1 (q_sit F s n).2.1) 6 0)
theorem q_first_some {P : Int → Bool} : ∀ (n : Nat) (k x : Int), k ≤ x → x < k + n → P x = true → k ≤ q_first P n k ∧ q_first P n k < k + n ∧ P (q_first P n k) = true
  | 0, k, x, h0, h1, _ => by omega
  | n + 1, k, x, h0, h1, h => by
    rw [q_first_u]
    by_cases hk : P k = true
    · rw [if_pos hk]
      exact ⟨by omega, by omega, hk⟩
    · rw [if_neg hk]
      have hx : x ≠ k := fun e => hk (e ▸ h)
      have := q_first_some n (k + 1) x (by omega) (by omega) h
      exact ⟨by omega, by omega, this.2.2⟩
theorem q_s6_pos {f : Int → Int} (h : 0 < q_s6 f) : ∃ x, 0 ≤ x ∧ x < 6 ∧ 0 < f x := by
  unfold q_s6 at h
  by_cases h0 : 0 < f 0
  · exact ⟨0, by omega, by omega, h0⟩
  by_cases h1 : 0 < f 1
  · exact ⟨1, by omega, by omega, h1⟩
  by_cases h2 : 0 < f 2
  · exact ⟨2, by omega, by omega, h2⟩
  by_cases h3 : 0 < f 3
  · exact ⟨3, by omega, by omega, h3⟩
  by_cases h4 : 0 < f 4
  · exact ⟨4, by omega, by omega, h4⟩
  exact ⟨5, by omega, by omega, by omega⟩
theorem q_rb_first {F : Int → Int} {s fo : Int} (h : 0 < q_rb F s fo) : (0 ≤ q_first (q_fsP F s fo) 6 0 ∧ q_first (q_fsP F s fo) 6 0 < 6) ∧ q_fsP F s fo (q_first (q_fsP F s fo) 6 0) = true := by
  obtain ⟨x, x0, x1, hx⟩ := q_s6_pos h
  have hP : q_fsP F s fo x = true := by
    unfold q_fsP
    by_cases hb : q_has (q_and s (q_xor fo (-1))) x = true
    · rw [if_pos hb] at hx
      simp [hb, hx]
    · rw [if_neg hb] at hx
      omega
  have := q_first_some (P := q_fsP F s fo) 6 0 x x0 (by omega) hP
  exact ⟨⟨this.1, by omega⟩, this.2.2⟩
theorem q_fsP_t {F : Int → Int} {s fo x : Int} (hs : 0 ≤ s ∧ s ≤ 63) (hfo : 0 ≤ fo ∧ fo ≤ 63) (hx : 0 ≤ x ∧ x < 6) (h : q_fsP F s fo x = true) : q_has s x = true ∧ 0 < q_wy F 6 s x := by
  unfold q_fsP at h
  rw [q_has_and hs hfo hx.1 hx.2] at h
  simp only [Bool.and_eq_true, decide_eq_true_eq] at h
  exact ⟨h.1.1, h.2⟩
set_option maxHeartbeats 4000000 in
set_option maxRecDepth 100000 in
theorem c_X5_rowsBeginning (G : q_G) (hI : q_inj G) (M : q_M) (y : Nat) (hy : q_se G y) (p : Int) (fo : Int) (hw : ∀ i, 0 ≤ i → i < 384 → 0 ≤ M (y + 1) i ∧ M (y + 1) i ≤ 50000) (hp : (0 ≤ p ∧ p ≤ 63) ∧ (0 ≤ fo ∧ fo ≤ 63)) : q_CI G yX5_rowsBeginning wsX5_rowsBeginning ({ frames := 1, cells := 0, slots := 0, locals := 21 } : Room) [.ref (q_ad G y), .int (q_I p), .int (q_I fo)] M (fun z M' => z = q_s6 (fun x => if q_has (q_and p (q_xor fo (-1))) x = true then M (y + 1) (p * 6 + x) else 0) ∧ M' = M) := by
  refine q_CI.of hI (by decide) rfl RX5 rfl [(0, .ref (q_ad G y)), (1, .int (q_I p)), (2, .int (q_I fo))] rfl (Nat.le_of_ble_eq_true rfl) (fun E F FI => ?_)
  have huX5 : ∀ w ∈ wsX50, w ∈ wsX5_rowsBeginning := by decide +kernel
  refine q_MRof (fun hM => ?_)
  have hR : ∀ x, 0 ≤ x → x < 6 → 0 ≤ (fun x => if q_has (q_and p (q_xor fo (-1))) x = true then M (y + 1) (p * 6 + x) else 0) x ∧ (fun x => if q_has (q_and p (q_xor fo (-1))) x = true then M (y + 1) (p * 6 + x) else 0) x ≤ 50000 := fun x h0 h1 => by
      have := hw (p * 6 + x) (by omega) (by omega)
      show 0 ≤ (if _ then _ else (0 : Int)) ∧ (if _ then _ else (0 : Int)) ≤ 50000
      split <;> omega
  refine q_iconst F dX5_rowsBeginning_0 ?_
  refine q_istore_n F dX5_rowsBeginning_1 [(3, .int (q_I 0)), (0, .ref (q_ad G y)), (1, .int (q_I p)), (2, .int (q_I fo))] (Nat.le_of_ble_eq_true rfl) rfl ?_
  refine q_iconst F dX5_rowsBeginning_2 ?_
  refine q_istore F dX5_rowsBeginning_3 [(4, .int (q_I 0)), (3, .int (q_I 0)), (0, .ref (q_ad G y)), (1, .int (q_I p)), (2, .int (q_I fo))] (Nat.le_of_ble_eq_true rfl) rfl ?_
  have lp5_1 : ∀ (k5_1 : Nat) (z : Int) (g : Int), ((0 ≤ g ∧ g ≤ 6) ∧ z = q_s6 (q_lz (fun x => if q_has (q_and p (q_xor fo (-1))) x = true then M (y + 1) (p * 6 + x) else 0) g)) → (6 - g).toNat = k5_1 → q_Y G E 5 M [(0, .ref (q_ad G y)), (1, .int (q_I p)), (2, .int (q_I fo)), (3, .int (q_I z)), (4, .int (q_I g))] 5 [] := by
    intro k5_1
    induction k5_1 using Nat.strongRecOn with
    | _ k5_1 ih5_1 =>
      intro z g   hi5 hk5
      have hz := q_s6_K (g := g) hR (by omega)
      rw [← hi5.2] at hz
      refine q_iload F dX5_rowsBeginning_5 4 rfl ?_
      refine q_bipush F dX5_rowsBeginning_7 (by decide) ?_
      refine q_icmp_ge F 52 dX5_rowsBeginning_9 (by decide) (by omega) (fun c9 => ?_) (fun c9 => ?_)
      · refine q_iload_n F dX5_rowsBeginning_52 3 rfl ?_
        exact q_iret F FI dX5_rowsBeginning_53 (by omega) ⟨by rw [hi5.2, show g = 6 by omega, q_s6_6], rfl⟩
      · refine q_iload_n F dX5_rowsBeginning_12 3 rfl ?_
        refine q_iload_n F dX5_rowsBeginning_13 1 rfl ?_
        refine q_iload_n F dX5_rowsBeginning_14 2 rfl ?_
        refine q_iconst F dX5_rowsBeginning_15 ?_
        refine q_ixor F dX5_rowsBeginning_16 (fun z16 e16 h16 => ?_)
        refine q_iand F dX5_rowsBeginning_17 (fun z17 e17 h17 => ?_)
        have hz17 : 0 ≤ z17 ∧ z17 ≤ 63 := by rw [e17, e16, q_andn hp.1.1 hp.1.2 hp.2.1 hp.2.2]; exact q_set_R _
        refine q_iload F dX5_rowsBeginning_18 4 rfl ?_
        refine q_callNP (n := 2) F (c_X8_holds G hI M z17 g (by omega)) rfl gX5_rowsBeginning_X8_holds_n19 (host := RX8) (by decide +kernel) (by decide +kernel) (by decide +kernel) ⟨by decide, by decide, by decide +kernel⟩ rfl ⟨rfl, rfl, Nat.le_of_ble_eq_true rfl, Nat.le_of_ble_eq_true rfl⟩ rfl (Nat.le_of_ble_eq_true rfl) dX5_rowsBeginning_20 (fun h20 => ?_)
        refine q_ifb_eq F 43 dX5_rowsBeginning_23 (by decide) (fun c23 => ?_) (fun c23 => ?_)
        · refine q_iconst F dX5_rowsBeginning_43 ?_
          refine q_iadd F dX5_rowsBeginning_44 ?_
          refine q_nm (fun v45 e45 => ?_)
          refine q_istore_n F dX5_rowsBeginning_45 [(3, .int (q_I v45)), (0, .ref (q_ad G y)), (1, .int (q_I p)), (2, .int (q_I fo)), (4, .int (q_I g))] (Nat.le_of_ble_eq_true rfl) rfl ?_
          obtain ⟨v46, e46⟩ : ∃ z_ : Int, z_ = g + 1 := ⟨_, rfl⟩
          refine q_iinc F dX5_rowsBeginning_46 4 rfl e46 [(4, .int (q_I v46)), (3, .int (q_I v45)), (0, .ref (q_ad G y)), (1, .int (q_I p)), (2, .int (q_I fo))] (Nat.le_of_ble_eq_true rfl) rfl ?_
          refine q_goto F 5 dX5_rowsBeginning_49 (by decide) ?_
          refine q_drop [2, 3, 4, 1, 0] rfl ?_
          exact ih5_1 _ (by omega) v45 v46 ⟨by omega, by rw [e46, q_s6_step _ hi5.1.1 c9, e45, hi5.2]; congr 1; rw [e17, e16] at c23; exact (if_neg (by simp [c23])).symm⟩ rfl
        · refine q_aload_n F dX5_rowsBeginning_26 0 rfl ?_
          refine q_getr (T := TX5) (ref := "LeastHungry$Seating") F huX5 rfl hy.1 0 (by decide) (by decide +kernel) rfl rfl dX5_rowsBeginning_27 ?_
          refine q_iload_n F dX5_rowsBeginning_30 1 rfl ?_
          refine q_bipush F dX5_rowsBeginning_31 (by decide) ?_
          refine q_imul F dX5_rowsBeginning_33 ?_
          refine q_iload F dX5_rowsBeginning_34 4 rfl ?_
          refine q_iadd F dX5_rowsBeginning_36 ?_
          refine q_callNP (n := 2) F (c_X8_at G hI M (y + 1) 384 hy.2 _ (by omega)) rfl gX5_rowsBeginning_X8_at_n23 (host := RX8) (by decide +kernel) (by decide +kernel) (by decide +kernel) ⟨by decide, by decide, by decide +kernel⟩ rfl ⟨rfl, rfl, Nat.le_of_ble_eq_true rfl, Nat.le_of_ble_eq_true rfl⟩ rfl (Nat.le_of_ble_eq_true rfl) dX5_rowsBeginning_37 (fun h37 => ?_)
          refine q_goto F 44 dX5_rowsBeginning_40 (by decide) ?_
          refine q_iadd F dX5_rowsBeginning_44 ?_
          refine q_nm (fun v45 e45 => ?_)
          refine q_istore_n F dX5_rowsBeginning_45 [(3, .int (q_I v45)), (0, .ref (q_ad G y)), (1, .int (q_I p)), (2, .int (q_I fo)), (4, .int (q_I g))] (Nat.le_of_ble_eq_true rfl) rfl ?_
          obtain ⟨v46, e46⟩ : ∃ z_ : Int, z_ = g + 1 := ⟨_, rfl⟩
          refine q_iinc F dX5_rowsBeginning_46 4 rfl e46 [(4, .int (q_I v46)), (3, .int (q_I v45)), (0, .ref (q_ad G y)), (1, .int (q_I p)), (2, .int (q_I fo))] (Nat.le_of_ble_eq_true rfl) rfl ?_
          refine q_goto F 5 dX5_rowsBeginning_49 (by decide) ?_
          refine q_drop [2, 3, 4, 1, 0] rfl ?_
          exact ih5_1 _ (by omega) v45 v46 ⟨by omega, by rw [e46, q_s6_step _ hi5.1.1 c9, e45, hi5.2]; congr 1; rw [e17, e16] at c23; exact (if_pos c23).symm⟩ rfl
  refine q_drop [2, 3, 4, 1, 0] rfl ?_
  exact lp5_1 _ 0 0 ⟨by omega, (q_s6_0 _).symm⟩ rfl

set_option maxHeartbeats 4000000 in
set_option maxRecDepth 100000 in
theorem c_X5_arrangePart (G : q_G) (hI : q_inj G) (M : q_M) (y : Nat) (hy : q_se G y) (k : Nat) (hk : q_sh G k = some (.inl (false, 6))) (hky : k < y) (hF : q_fm (M k)) (p : Int) (s : Int) (hw : ∀ i, 0 ≤ i → i < 384 → 0 ≤ M (y + 1) i ∧ M (y + 1) i ≤ 50000) (hp : 1 ≤ p ∧ p ≤ 63) (hs : q_sub p s) (hs2 : 0 ≤ s ∧ s ≤ 63) (ht : q_tab M y (M k) s p) : q_CV G yX5_arrangePart wsX5_arrangePart ({ frames := 2, cells := 0, slots := 0, locals := 45 } : Room) [.ref (q_ad G y), .ref (q_ad G k), .int (q_I p)] M (fun M' => q_fr (y + 1) M M' ∧ (∀ x, M' (y + 1) x = if p * 6 ≤ x ∧ x < p * 6 + 6 ∧ q_has p (x - p * 6) = true then q_wy (M k) 6 p (x - p * 6) else M (y + 1) x) ∧ ∀ i, 0 ≤ i → i < 384 → 0 ≤ M' (y + 1) i ∧ M' (y + 1) i ≤ 50000) := by
  refine q_CV.of hI (by decide) rfl RX5 rfl [(0, .ref (q_ad G y)), (1, .ref (q_ad G k)), (2, .int (q_I p))] rfl (Nat.le_of_ble_eq_true rfl) (fun E F FV => ?_)
  have huX5 : ∀ w ∈ wsX50, w ∈ wsX5_arrangePart := by decide +kernel
  refine q_MRof (fun hM => ?_)
  refine q_iconst F dX5_arrangePart_0 ?_
  refine q_istore_n F dX5_arrangePart_1 [(3, .int (q_I 0)), (0, .ref (q_ad G y)), (1, .ref (q_ad G k)), (2, .int (q_I p))] (Nat.le_of_ble_eq_true rfl) rfl ?_
  have lp2_1 : ∀ (k2_1 : Nat) (g : Int) (M1 : q_M), ((0 ≤ g ∧ g ≤ 6) ∧ q_fr (y + 1) M M1 ∧ (∀ x, M1 (y + 1) x = if p * 6 ≤ x ∧ x < p * 6 + g ∧ q_has p (x - p * 6) = true then q_wy (M k) 6 p (x - p * 6) else M (y + 1) x) ∧ ∀ i, 0 ≤ i → i < 384 → 0 ≤ M1 (y + 1) i ∧ M1 (y + 1) i ≤ 50000) → (6 - g).toNat = k2_1 → q_Y G E 5 M1 [(0, .ref (q_ad G y)), (1, .ref (q_ad G k)), (2, .int (q_I p)), (3, .int (q_I g))] 2 [] := by
    intro k2_1
    induction k2_1 using Nat.strongRecOn with
    | _ k2_1 ih2_1 =>
      intro g  M1 hi2 hk2
      refine q_MRof (fun hM2 => ?_)
      refine q_iload_n F dX5_arrangePart_2 3 rfl ?_
      refine q_bipush F dX5_arrangePart_3 (by decide) ?_
      refine q_icmp_ge F 64 dX5_arrangePart_5 (by decide) (by omega) (fun c5 => ?_) (fun c5 => ?_)
      · exact q_vret F FV dX5_arrangePart_64 ⟨hi2.2.1, fun x => by rw [hi2.2.2.1 x, show g = 6 by omega], hi2.2.2.2⟩
      · refine q_iload_n F dX5_arrangePart_8 2 rfl ?_
        refine q_iload_n F dX5_arrangePart_9 3 rfl ?_
        refine q_callNP (n := 2) F (c_X8_holds G hI M1 p g (by omega)) rfl gX5_arrangePart_X8_holds_n19 (host := RX8) (by decide +kernel) (by decide +kernel) (by decide +kernel) ⟨by decide, by decide, by decide +kernel⟩ rfl ⟨rfl, rfl, Nat.le_of_ble_eq_true rfl, Nat.le_of_ble_eq_true rfl⟩ rfl (Nat.le_of_ble_eq_true rfl) dX5_arrangePart_10 (fun h10 => ?_)
        refine q_ifb_eq F 58 dX5_arrangePart_13 (by decide) (fun c13 => ?_) (fun c13 => ?_)
        · obtain ⟨v58, e58⟩ : ∃ z_ : Int, z_ = g + 1 := ⟨_, rfl⟩
          refine q_iinc F dX5_arrangePart_58 3 rfl e58 [(3, .int (q_I v58)), (0, .ref (q_ad G y)), (1, .ref (q_ad G k)), (2, .int (q_I p))] (Nat.le_of_ble_eq_true rfl) rfl ?_
          refine q_goto F 2 dX5_arrangePart_61 (by decide) ?_
          refine q_drop [1, 2, 3, 0] rfl ?_
          exact ih2_1 _ (by omega) v58 M1 ⟨by omega, hi2.2.1, fun x => by
        rw [hi2.2.2.1 x]
        by_cases hl : p * 6 ≤ x ∧ x < p * 6 + g ∧ q_has p (x - p * 6) = true
        · rw [if_pos hl, if_pos ⟨hl.1, by omega, hl.2.2⟩]
        · rw [if_neg hl, if_neg]
          intro h
          by_cases hx : x - p * 6 = g
          · rw [hx, c13] at h
            exact absurd h.2.2 (by decide)
          · exact hl ⟨h.1, by omega, h.2.2⟩, hi2.2.2.2⟩ rfl
        · refine q_iload_n F dX5_arrangePart_16 2 rfl ?_
          refine q_iconst F dX5_arrangePart_17 ?_
          refine q_iload_n F dX5_arrangePart_18 3 rfl ?_
          refine q_ishl F dX5_arrangePart_19 (fun z19 e19 h19 => ?_)
          refine q_iconst F dX5_arrangePart_20 ?_
          refine q_ixor F dX5_arrangePart_21 (fun z21 e21 h21 => ?_)
          refine q_iand F dX5_arrangePart_22 (fun z22 e22 h22 => ?_)
          have ez : z22 = q_minus p g := by rw [e22, e21, e19]; rfl
          have hzR := q_minus_R (s := p) (by omega) hi2.1.1 c5
          have hzl := q_minus_lt (s := p) (by omega) c13
          have hFg := hF g hi2.1.1 c5
          rw [← ez] at hzR hzl
          have hsub : q_sub z22 s := (q_sub_iff hzR hs2).mpr (fun x hx => (q_sub_iff (by omega) hs2).mp hs x (by have hxi := q_has_in hx; rw [ez, q_minus_has (by omega) hi2.1.1 c5 hxi.1 hxi.2] at hx; simp only [Bool.and_eq_true] at hx; exact hx.1))
          have ek : M1 k = M k := hi2.2.1 _ (by omega)
          refine q_istore F dX5_arrangePart_23 [(4, .int (q_I z22)), (0, .ref (q_ad G y)), (1, .ref (q_ad G k)), (2, .int (q_I p)), (3, .int (q_I g))] (Nat.le_of_ble_eq_true rfl) rfl ?_
          refine q_aload_n F dX5_arrangePart_25 1 rfl ?_
          refine q_getr (T := TX5) (ref := "LeastHungry$Seating") F huX5 rfl hy.1 0 (by decide) (by decide +kernel) rfl rfl dX5_arrangePart_26 ?_
          refine q_iload_n F dX5_arrangePart_29 3 rfl ?_
          refine q_bipush F dX5_arrangePart_30 (by decide) ?_
          refine q_imul F dX5_arrangePart_32 ?_
          refine q_iload_n F dX5_arrangePart_33 4 rfl ?_
          refine q_iadd F dX5_arrangePart_34 ?_
          refine q_iload F dX5_arrangePart_35 0 rfl ?_
          refine q_if_ne F 44 dX5_arrangePart_37 (by decide) (by omega) (fun c37 => ?_) (fun c37 => ?_)
          · refine q_aload_n F dX5_arrangePart_44 1 rfl ?_
            refine q_iload F dX5_arrangePart_45 0 rfl ?_
            refine q_aload_n F dX5_arrangePart_47 2 rfl ?_
            refine q_iload_n F dX5_arrangePart_48 4 rfl ?_
            refine q_callNP (n := 2) F (c_X8_at G hI M1 k 6 hk g (by omega)) rfl gX5_arrangePart_X8_at_n23 (host := RX8) (by decide +kernel) (by decide +kernel) (by decide +kernel) ⟨by decide, by decide, by decide +kernel⟩ rfl ⟨rfl, rfl, Nat.le_of_ble_eq_true rfl, Nat.le_of_ble_eq_true rfl⟩ rfl (Nat.le_of_ble_eq_true rfl) dX5_arrangePart_49 (fun h49 => ?_)
            refine q_callVP (n := 2) (T := TX5) F (c_X5_rowsBeginning G hI M1 y hy z22 _ hi2.2.2.2 ⟨hzR, by rw [ek]; exact hFg⟩) rfl rfl hy.1 gX5_arrangePart_X5_rowsBeginning rfl ⟨by decide, by decide, by decide +kernel⟩ rfl ⟨rfl, rfl, Nat.le_of_ble_eq_true rfl, Nat.le_of_ble_eq_true rfl⟩ rfl (Nat.le_of_ble_eq_true rfl) dX5_arrangePart_52 (fun h52 => ?_)
            have htab : q_tab M1 y (M k) s p := fun p' g' h1 h2 h3 h4 h5 => by
              have hg' := q_has_in h5
              rw [hi2.2.2.1, if_neg (by omega)]
              exact ht p' g' h1 h2 h3 h4 h5
            rw [ek, q_tab_rb htab hzR (by omega) hsub hFg]
            have hrbR := q_rb_R (M k) z22 (M k g)
            have hrb6 : q_rb (M k) z22 (M k g) ≤ 46656 := by
              have h6 := q_wy_6 hF (p := p) (g := g) (by omega) c13
              rw [← ez, if_neg c37] at h6
              have h7 := q_wy_R (M k) 6 p g
              have e6 : q_pw 6 6 = 46656 := by decide
              omega
            refine q_callNV (n := 3) F (c_X8_put G hI M1 (y + 1) 384 hy.2 _ _ (by omega) (by omega)) rfl gX5_arrangePart_X8_put_n31 (host := RX8) (by decide +kernel) (by decide +kernel) (by decide +kernel) ⟨by decide, by decide, by decide +kernel⟩ rfl ⟨rfl, rfl, Nat.le_of_ble_eq_true rfl, Nat.le_of_ble_eq_true rfl⟩ rfl (Nat.le_of_ble_eq_true rfl) dX5_arrangePart_55 (fun N55 p55 => ?_)
            obtain ⟨v58, e58⟩ : ∃ z_ : Int, z_ = g + 1 := ⟨_, rfl⟩
            refine q_iinc F dX5_arrangePart_58 4 rfl e58 [(3, .int (q_I v58)), (4, .int (q_I z22)), (0, .ref (q_ad G y)), (1, .ref (q_ad G k)), (2, .int (q_I p))] (Nat.le_of_ble_eq_true rfl) rfl ?_
            refine q_goto F 2 dX5_arrangePart_61 (by decide) ?_
            refine q_drop [2, 3, 4, 0] rfl ?_
            exact ih2_1 _ (by omega) v58 N55 ⟨by omega, q_fr_tr hi2.2.1 (q_fr_up p55), fun x => by
        rw [p55, q_up_at]
        by_cases hx : x = p * 6 + g
        · rw [if_pos hx, if_pos ⟨by omega, by omega, by rw [hx, show p * 6 + g - p * 6 = g by omega]; exact c13⟩, hx, show p * 6 + g - p * 6 = g by omega]
          rw [q_wy_6 hF (by omega) c13, ← ez, if_neg c37]
        · rw [if_neg hx, hi2.2.2.1 x]
          by_cases hl : p * 6 ≤ x ∧ x < p * 6 + g ∧ q_has p (x - p * 6) = true
          · rw [if_pos hl, if_pos ⟨hl.1, by omega, hl.2.2⟩]
          · rw [if_neg hl, if_neg (fun h => hl ⟨h.1, by omega, h.2.2⟩)], fun i h0 h1 => by
        rw [p55, q_up_at]
        split
        · omega
        · exact hi2.2.2.2 i h0 h1⟩ rfl
          · refine q_iconst F dX5_arrangePart_40 ?_
            refine q_goto F 55 dX5_arrangePart_41 (by decide) ?_
            refine q_callNV (n := 3) F (c_X8_put G hI M1 (y + 1) 384 hy.2 _ 1 (by omega) (by omega)) rfl gX5_arrangePart_X8_put_n31 (host := RX8) (by decide +kernel) (by decide +kernel) (by decide +kernel) ⟨by decide, by decide, by decide +kernel⟩ rfl ⟨rfl, rfl, Nat.le_of_ble_eq_true rfl, Nat.le_of_ble_eq_true rfl⟩ rfl (Nat.le_of_ble_eq_true rfl) dX5_arrangePart_55 (fun N55 p55 => ?_)
            obtain ⟨v58, e58⟩ : ∃ z_ : Int, z_ = g + 1 := ⟨_, rfl⟩
            refine q_iinc F dX5_arrangePart_58 4 rfl e58 [(3, .int (q_I v58)), (4, .int (q_I z22)), (0, .ref (q_ad G y)), (1, .ref (q_ad G k)), (2, .int (q_I p))] (Nat.le_of_ble_eq_true rfl) rfl ?_
            refine q_goto F 2 dX5_arrangePart_61 (by decide) ?_
            refine q_drop [2, 3, 4, 0] rfl ?_
            exact ih2_1 _ (by omega) v58 N55 ⟨by omega, q_fr_tr hi2.2.1 (q_fr_up p55), fun x => by
        rw [p55, q_up_at]
        by_cases hx : x = p * 6 + g
        · rw [if_pos hx, if_pos ⟨by omega, by omega, by rw [hx, show p * 6 + g - p * 6 = g by omega]; exact c13⟩, hx, show p * 6 + g - p * 6 = g by omega]
          rw [q_wy_6 hF (by omega) c13, ← ez, if_pos c37]
        · rw [if_neg hx, hi2.2.2.1 x]
          by_cases hl : p * 6 ≤ x ∧ x < p * 6 + g ∧ q_has p (x - p * 6) = true
          · rw [if_pos hl, if_pos ⟨hl.1, by omega, hl.2.2⟩]
          · rw [if_neg hl, if_neg (fun h => hl ⟨h.1, by omega, h.2.2⟩)], fun i h0 h1 => by
        rw [p55, q_up_at]
        split
        · omega
        · exact hi2.2.2.2 i h0 h1⟩ rfl
  refine q_drop [1, 2, 3, 0] rfl ?_
  exact lp2_1 _ 0 M ⟨by omega, q_fr_rf, fun x => by rw [if_neg (by omega)], hw⟩ rfl

set_option maxHeartbeats 4000000 in
set_option maxRecDepth 100000 in
theorem c_X5_arrange (G : q_G) (hI : q_inj G) (M : q_M) (y : Nat) (hy : q_se G y) (k : Nat) (hk : q_sh G k = some (.inl (false, 6))) (hky : k < y) (hF : q_fm (M k)) (s : Int) (hw : ∀ i, 0 ≤ i → i < 384 → 0 ≤ M (y + 1) i ∧ M (y + 1) i ≤ 50000) (hs2 : 0 ≤ s ∧ s ≤ 63) : q_CV G yX5_arrange wsX5_arrange ({ frames := 3, cells := 0, slots := 0, locals := 69 } : Room) [.ref (q_ad G y), .ref (q_ad G k), .int (q_I s)] M (fun M' => q_fr (y + 1) M M' ∧ q_tab M' y (M k) s 64 ∧ ∀ i, 0 ≤ i → i < 384 → 0 ≤ M' (y + 1) i ∧ M' (y + 1) i ≤ 50000) := by
  refine q_CV.of hI (by decide) rfl RX5 rfl [(0, .ref (q_ad G y)), (1, .ref (q_ad G k)), (2, .int (q_I s))] rfl (Nat.le_of_ble_eq_true rfl) (fun E F FV => ?_)
  refine q_MRof (fun hM => ?_)
  refine q_iconst F dX5_arrange_0 ?_
  refine q_istore_n F dX5_arrange_1 [(3, .int (q_I 1)), (0, .ref (q_ad G y)), (1, .ref (q_ad G k)), (2, .int (q_I s))] (Nat.le_of_ble_eq_true rfl) rfl ?_
  have lp2_1 : ∀ (k2_1 : Nat) (p : Int) (M1 : q_M), ((1 ≤ p ∧ p ≤ 64) ∧ q_fr (y + 1) M M1 ∧ q_tab M1 y (M k) s p ∧ ∀ i, 0 ≤ i → i < 384 → 0 ≤ M1 (y + 1) i ∧ M1 (y + 1) i ≤ 50000) → (64 - p).toNat = k2_1 → q_Y G E 4 M1 [(0, .ref (q_ad G y)), (1, .ref (q_ad G k)), (2, .int (q_I s)), (3, .int (q_I p))] 2 [] := by
    intro k2_1
    induction k2_1 using Nat.strongRecOn with
    | _ k2_1 ih2_1 =>
      intro p  M1 hi2 hk2
      refine q_MRof (fun hM2 => ?_)
      have ek : M1 k = M k := hi2.2.1 _ (by omega)
      refine q_iload_n F dX5_arrange_2 3 rfl ?_
      refine q_bipush F dX5_arrange_3 (by decide) ?_
      refine q_icmp_ge F 28 dX5_arrange_5 (by decide) (by omega) (fun c5 => ?_) (fun c5 => ?_)
      · exact q_vret F FV dX5_arrange_28 ⟨hi2.2.1, by rw [show (64 : Int) = p by omega]; exact hi2.2.2.1, hi2.2.2.2⟩
      · refine q_iload_n F dX5_arrange_8 3 rfl ?_
        refine q_iload_n F dX5_arrange_9 2 rfl ?_
        refine q_iconst F dX5_arrange_10 ?_
        refine q_ixor F dX5_arrange_11 (fun z11 e11 h11 => ?_)
        refine q_iand F dX5_arrange_12 (fun z12 e12 h12 => ?_)
        refine q_if_ne F 22 dX5_arrange_13 (by decide) (by omega) (fun c13 => ?_) (fun c13 => ?_)
        · obtain ⟨v22, e22⟩ : ∃ z_ : Int, z_ = p + 1 := ⟨_, rfl⟩
          refine q_iinc F dX5_arrange_22 3 rfl e22 [(3, .int (q_I v22)), (0, .ref (q_ad G y)), (1, .ref (q_ad G k)), (2, .int (q_I s))] (Nat.le_of_ble_eq_true rfl) rfl ?_
          refine q_goto F 2 dX5_arrange_25 (by decide) ?_
          refine q_drop [1, 2, 3, 0] rfl ?_
          exact ih2_1 _ (by omega) v22 M1 ⟨by omega, hi2.2.1, fun p' g h1 h2 h3 h4 h5 => by
        by_cases hp : p' = p
        · exfalso
          rw [hp] at h4
          unfold q_sub at h4
          rw [← e11, ← e12] at h4
          exact c13 h4
        · exact hi2.2.2.1 p' g h1 (by omega) h3 h4 h5, hi2.2.2.2⟩ rfl
        · refine q_aload_n F dX5_arrange_16 0 rfl ?_
          refine q_aload_n F dX5_arrange_17 1 rfl ?_
          refine q_iload_n F dX5_arrange_18 3 rfl ?_
          refine q_callVV (n := 2) (T := TX5) F (c_X5_arrangePart G hI M1 y hy k hk (by omega) (by rw [ek]; exact hF) p s hi2.2.2.2 (by omega) (by unfold q_sub; rw [← e11, ← e12]; exact c13) (by assumption) (by rw [ek]; exact hi2.2.2.1)) rfl rfl hy.1 gX5_arrange_X5_arrangePart rfl ⟨by decide, by decide, by decide +kernel⟩ rfl ⟨rfl, rfl, Nat.le_of_ble_eq_true rfl, Nat.le_of_ble_eq_true rfl⟩ rfl (Nat.le_of_ble_eq_true rfl) dX5_arrange_19 (fun N19 p19 => ?_)
          obtain ⟨v22, e22⟩ : ∃ z_ : Int, z_ = p + 1 := ⟨_, rfl⟩
          refine q_iinc F dX5_arrange_22 3 rfl e22 [(3, .int (q_I v22)), (0, .ref (q_ad G y)), (1, .ref (q_ad G k)), (2, .int (q_I s))] (Nat.le_of_ble_eq_true rfl) rfl ?_
          refine q_goto F 2 dX5_arrange_25 (by decide) ?_
          refine q_drop [1, 2, 3, 0] rfl ?_
          exact ih2_1 _ (by omega) v22 N19 ⟨by omega, q_fr_tr hi2.2.1 p19.1, fun p' g h1 h2 h3 h4 h5 => by
        have hgi := q_has_in h5
        rw [p19.2.1]
        by_cases hp : p' = p
        · rw [hp] at h5 ⊢
          rw [if_pos ⟨by omega, by omega, by rw [show p * 6 + g - p * 6 = g by omega]; exact h5⟩, show p * 6 + g - p * 6 = g by omega, ek]
        · rw [if_neg (by omega)]
          exact hi2.2.2.1 p' g h1 (by omega) h3 h4 h5, p19.2.2⟩ rfl
  refine q_drop [1, 2, 3, 0] rfl ?_
  exact lp2_1 _ 1 M ⟨by omega, q_fr_rf, fun p g h1 h2 => by omega, hw⟩ rfl

set_option maxHeartbeats 4000000 in
set_option maxRecDepth 100000 in
theorem c_X5_rowsOf (G : q_G) (hI : q_inj G) (M : q_M) (y : Nat) (hy : q_se G y) (p : Int) (FF : Int → Int) (s : Int) (ht : q_tab M y FF s 64) (hw : ∀ i, 0 ≤ i → i < 384 → 0 ≤ M (y + 1) i ∧ M (y + 1) i ≤ 50000) (hp : 0 ≤ p ∧ p ≤ 63) (hs : q_sub p s) : q_CI G yX5_rowsOf wsX5_rowsOf ({ frames := 2, cells := 0, slots := 0, locals := 45 } : Room) [.ref (q_ad G y), .int (q_I p)] M (fun z M' => z = q_rows FF p ∧ M' = M) := by
  refine q_CI.of hI (by decide) rfl RX5 rfl [(0, .ref (q_ad G y)), (1, .int (q_I p))] rfl (Nat.le_of_ble_eq_true rfl) (fun E F FI => ?_)
  refine q_MRof (fun hM => ?_)
  refine q_iload_n F dX5_rowsOf_0 1 rfl ?_
  refine q_if_ne F 8 dX5_rowsOf_1 (by decide) (by omega) (fun c1 => ?_) (fun c1 => ?_)
  · refine q_aload_n F dX5_rowsOf_8 0 rfl ?_
    refine q_iload_n F dX5_rowsOf_9 1 rfl ?_
    refine q_iconst F dX5_rowsOf_10 ?_
    refine q_callVP (n := 2) (T := TX5) F (c_X5_rowsBeginning G hI M y hy p 0 (by assumption) (by omega)) rfl rfl hy.1 gX5_rowsOf_X5_rowsBeginning rfl ⟨by decide, by decide, by decide +kernel⟩ rfl ⟨rfl, rfl, Nat.le_of_ble_eq_true rfl, Nat.le_of_ble_eq_true rfl⟩ rfl (Nat.le_of_ble_eq_true rfl) dX5_rowsOf_11 (fun h11 => ?_)
    rw [q_tab_rb ht hp (by omega) hs (by omega)]
    have hrR := q_rb_R FF p 0
    exact q_iret F FI dX5_rowsOf_14 (by omega) ⟨by unfold q_rows; rw [if_neg c1], rfl⟩
  · refine q_iconst F dX5_rowsOf_4 ?_
    refine q_goto F 14 dX5_rowsOf_5 (by decide) ?_
    exact q_iret F FI dX5_rowsOf_14 (by omega) ⟨by unfold q_rows; rw [if_pos c1], rfl⟩

set_option maxHeartbeats 4000000 in
set_option maxRecDepth 100000 in
theorem c_X5_firstSitter (G : q_G) (hI : q_inj G) (M : q_M) (y : Nat) (hy : q_se G y) (p : Int) (fo : Int) (FF : Int → Int) (s : Int) (ht : q_tab M y FF s 64) (hw : ∀ i, 0 ≤ i → i < 384 → 0 ≤ M (y + 1) i ∧ M (y + 1) i ≤ 50000) (hp : (0 ≤ p ∧ p ≤ 63) ∧ (0 ≤ fo ∧ fo ≤ 63)) (hs : q_sub p s) : q_CI G yX5_firstSitter wsX5_firstSitter ({ frames := 1, cells := 0, slots := 0, locals := 21 } : Room) [.ref (q_ad G y), .int (q_I p), .int (q_I fo)] M (fun z M' => z = q_first (q_fsP FF p fo) 6 0 ∧ M' = M) := by
  refine q_CI.of hI (by decide) rfl RX5 rfl [(0, .ref (q_ad G y)), (1, .int (q_I p)), (2, .int (q_I fo))] rfl (Nat.le_of_ble_eq_true rfl) (fun E F FI => ?_)
  have huX5 : ∀ w ∈ wsX50, w ∈ wsX5_firstSitter := by decide +kernel
  refine q_MRof (fun hM => ?_)
  refine q_iconst F dX5_firstSitter_0 ?_
  refine q_istore_n F dX5_firstSitter_1 [(3, .int (q_I 0)), (0, .ref (q_ad G y)), (1, .int (q_I p)), (2, .int (q_I fo))] (Nat.le_of_ble_eq_true rfl) rfl ?_
  have lp2_1 : ∀ (k2_1 : Nat) (g : Int), ((0 ≤ g ∧ g ≤ 6) ∧ q_first (q_fsP FF p fo) (6 - g).toNat g = q_first (q_fsP FF p fo) 6 0) → (6 - g).toNat = k2_1 → q_Y G E 4 M [(0, .ref (q_ad G y)), (1, .int (q_I p)), (2, .int (q_I fo)), (3, .int (q_I g))] 2 [] := by
    intro k2_1
    induction k2_1 using Nat.strongRecOn with
    | _ k2_1 ih2_1 =>
      intro g   hi2 hk2
      refine q_iload_n F dX5_firstSitter_2 3 rfl ?_
      refine q_bipush F dX5_firstSitter_3 (by decide) ?_
      refine q_icmp_ge F 44 dX5_firstSitter_5 (by decide) (by omega) (fun c5 => ?_) (fun c5 => ?_)
      · refine q_bipush F dX5_firstSitter_44 (by decide) ?_
        exact q_iret F FI dX5_firstSitter_46 (by omega) ⟨by have hu := hi2.2; rw [show (6 - g).toNat = 0 by omega] at hu; exact hu, rfl⟩
      · refine q_iload_n F dX5_firstSitter_8 1 rfl ?_
        refine q_iload_n F dX5_firstSitter_9 2 rfl ?_
        refine q_iconst F dX5_firstSitter_10 ?_
        refine q_ixor F dX5_firstSitter_11 (fun z11 e11 h11 => ?_)
        refine q_iand F dX5_firstSitter_12 (fun z12 e12 h12 => ?_)
        have hz12 : 0 ≤ z12 ∧ z12 ≤ 63 := by rw [e12, e11, q_andn hp.1.1 hp.1.2 hp.2.1 hp.2.2]; exact q_set_R _
        refine q_iload_n F dX5_firstSitter_13 3 rfl ?_
        refine q_callNP (n := 2) F (c_X8_holds G hI M z12 g (by omega)) rfl gX5_firstSitter_X8_holds_n19 (host := RX8) (by decide +kernel) (by decide +kernel) (by decide +kernel) ⟨by decide, by decide, by decide +kernel⟩ rfl ⟨rfl, rfl, Nat.le_of_ble_eq_true rfl, Nat.le_of_ble_eq_true rfl⟩ rfl (Nat.le_of_ble_eq_true rfl) dX5_firstSitter_14 (fun h14 => ?_)
        refine q_ifb_eq F 38 dX5_firstSitter_17 (by decide) (fun c17 => ?_) (fun c17 => ?_)
        · obtain ⟨v38, e38⟩ : ∃ z_ : Int, z_ = g + 1 := ⟨_, rfl⟩
          refine q_iinc F dX5_firstSitter_38 3 rfl e38 [(3, .int (q_I v38)), (0, .ref (q_ad G y)), (1, .int (q_I p)), (2, .int (q_I fo))] (Nat.le_of_ble_eq_true rfl) rfl ?_
          refine q_goto F 2 dX5_firstSitter_41 (by decide) ?_
          refine q_drop [1, 2, 3, 0] rfl ?_
          exact ih2_1 _ (by omega) v38 ⟨by omega, by have hu := hi2.2; rw [show (6 - g).toNat = (6 - v38).toNat + 1 by omega, q_first_u, if_neg (by unfold q_fsP; rw [← e11, ← e12]; simp [c17])] at hu; rw [← hu, e38]⟩ rfl
        · refine q_aload_n F dX5_firstSitter_20 0 rfl ?_
          refine q_getr (T := TX5) (ref := "LeastHungry$Seating") F huX5 rfl hy.1 0 (by decide) (by decide +kernel) rfl rfl dX5_firstSitter_21 ?_
          refine q_iload_n F dX5_firstSitter_24 1 rfl ?_
          refine q_bipush F dX5_firstSitter_25 (by decide) ?_
          refine q_imul F dX5_firstSitter_27 ?_
          refine q_iload_n F dX5_firstSitter_28 3 rfl ?_
          refine q_iadd F dX5_firstSitter_29 ?_
          refine q_callNP (n := 2) F (c_X8_at G hI M (y + 1) 384 hy.2 _ (by omega)) rfl gX5_firstSitter_X8_at_n23 (host := RX8) (by decide +kernel) (by decide +kernel) (by decide +kernel) ⟨by decide, by decide, by decide +kernel⟩ rfl ⟨rfl, rfl, Nat.le_of_ble_eq_true rfl, Nat.le_of_ble_eq_true rfl⟩ rfl (Nat.le_of_ble_eq_true rfl) dX5_firstSitter_30 (fun h30 => ?_)
          have hwy : M (y + 1) (p * 6 + g) = q_wy FF 6 p g := by
            rw [e12, e11, q_has_and hp.1 hp.2 hi2.1.1 c5] at c17
            simp only [Bool.and_eq_true] at c17
            by_cases hp0 : p = 0
            · rw [hp0] at c17
              simp [q_has] at c17
            · exact ht p g (by omega) (by omega) hp.1.2 hs c17.1
          refine q_if_le F 38 dX5_firstSitter_33 (by decide) (by omega) (fun c33 => ?_) (fun c33 => ?_)
          · obtain ⟨v38, e38⟩ : ∃ z_ : Int, z_ = g + 1 := ⟨_, rfl⟩
            refine q_iinc F dX5_firstSitter_38 3 rfl e38 [(3, .int (q_I v38)), (0, .ref (q_ad G y)), (1, .int (q_I p)), (2, .int (q_I fo))] (Nat.le_of_ble_eq_true rfl) rfl ?_
            refine q_goto F 2 dX5_firstSitter_41 (by decide) ?_
            refine q_drop [1, 2, 3, 0] rfl ?_
            exact ih2_1 _ (by omega) v38 ⟨by omega, by have hu := hi2.2; rw [show (6 - g).toNat = (6 - v38).toNat + 1 by omega, q_first_u, if_neg (by unfold q_fsP; rw [← e11, ← e12]; rw [← hwy]; simp; intro _; omega)] at hu; rw [← hu, e38]⟩ rfl
          · refine q_iload_n F dX5_firstSitter_36 3 rfl ?_
            exact q_iret F FI dX5_firstSitter_37 (by omega) ⟨by have hu := hi2.2; rw [show (6 - g).toNat = (5 - g).toNat + 1 by omega, q_first_u, if_pos (by unfold q_fsP; rw [← e11, ← e12, ← hwy]; simp [c17]; omega)] at hu; exact hu, rfl⟩
  refine q_drop [1, 2, 3, 0] rfl ?_
  exact lp2_1 _ 0 ⟨by omega, rfl⟩ rfl

set_option maxHeartbeats 4000000 in
set_option maxRecDepth 100000 in
theorem c_X5_whoSits (G : q_G) (hI : q_inj G) (M : q_M) (y : Nat) (hy : q_se G y) (k : Nat) (hk : q_sh G k = some (.inl (false, 6))) (hky : k < y) (hF : q_fm (M k)) (s : Int) (pl : Int) (ht : q_tab M y (M k) s 64) (hw : ∀ i, 0 ≤ i → i < 384 → 0 ≤ M (y + 1) i ∧ M (y + 1) i ≤ 50000) (hs2 : (0 ≤ s ∧ s ≤ 63) ∧ (-2147483648 ≤ pl ∧ pl ≤ 2147483647)) : q_CI G yX5_whoSits wsX5_whoSits ({ frames := 3, cells := 0, slots := 0, locals := 66 } : Room) [.ref (q_ad G y), .ref (q_ad G k), .int (q_I s), .int (q_I pl)] M (fun z M' => z = (if 0 ≤ pl ∧ pl < q_cnt (q_has s) ∧ ¬ q_rows (M k) s = 0 then (q_sit (M k) s (pl.toNat + 1)).2.2 else -6) ∧ M' = M) := by
  refine q_CI.of hI (by decide) rfl RX5 rfl [(0, .ref (q_ad G y)), (1, .ref (q_ad G k)), (2, .int (q_I s)), (3, .int (q_I pl))] rfl (Nat.le_of_ble_eq_true rfl) (fun E F FI => ?_)
  refine q_MRof (fun hM => ?_)
  have hcs := q_cnt_R (q_has s)
  have hss : q_sub s s := (q_sub_iff hs2.1 hs2.1).mpr (fun _ h => h)
  refine q_iload_n F dX5_whoSits_0 3 rfl ?_
  refine q_if_lt F 20 dX5_whoSits_1 (by decide) (by omega) (fun c1 => ?_) (fun c1 => ?_)
  · refine q_bipush F dX5_whoSits_20 (by decide) ?_
    exact q_iret F FI dX5_whoSits_22 (by omega) ⟨by rw [if_neg (fun h => by omega)], rfl⟩
  · refine q_iload_n F dX5_whoSits_4 3 rfl ?_
    refine q_iload_n F dX5_whoSits_5 2 rfl ?_
    refine q_callSP (n := 1) F (c_J6_bitCount_0f7a4 G hI M s (by omega)) rfl gX5_whoSits_J6_bitCount_0f7a4 ⟨by decide, by decide, by decide +kernel⟩ rfl ⟨rfl, rfl, Nat.le_of_ble_eq_true rfl, Nat.le_of_ble_eq_true rfl⟩ rfl (Nat.le_of_ble_eq_true rfl) dX5_whoSits_6 (fun h6 => ?_)
    refine q_icmp_ge F 20 dX5_whoSits_9 (by decide) (by omega) (fun c9 => ?_) (fun c9 => ?_)
    · refine q_bipush F dX5_whoSits_20 (by decide) ?_
      exact q_iret F FI dX5_whoSits_22 (by omega) ⟨by rw [if_neg (fun h => by omega)], rfl⟩
    · refine q_aload_n F dX5_whoSits_12 0 rfl ?_
      refine q_iload_n F dX5_whoSits_13 2 rfl ?_
      refine q_callVP (n := 1) (T := TX5) F (c_X5_rowsOf G hI M y hy s (M k) s (by assumption) (by assumption) (by omega) (by assumption)) rfl rfl hy.1 gX5_whoSits_X5_rowsOf rfl ⟨by decide, by decide, by decide +kernel⟩ rfl ⟨rfl, rfl, Nat.le_of_ble_eq_true rfl, Nat.le_of_ble_eq_true rfl⟩ rfl (Nat.le_of_ble_eq_true rfl) dX5_whoSits_14 (fun h14 => ?_)
      have hrwR : 0 ≤ q_rows (M k) s ∧ q_rows (M k) s ≤ 300000 := by
        unfold q_rows
        split
        · omega
        · exact q_rb_R _ _ _
      refine q_if_ne F 23 dX5_whoSits_17 (by decide) (by omega) (fun c17 => ?_) (fun c17 => ?_)
      · have hsr : q_sit (M k) s 0 = (s, 0, -6) := rfl
        have hJ0 : s = 0 ∨ 0 < q_rb (M k) s 0 := by
          by_cases h0 : s = 0
          · exact Or.inl h0
          · unfold q_rows at c17
            rw [if_neg h0] at c17
            have := q_rb_R (M k) s 0
            exact Or.inr (by omega)
        refine q_iload_n F dX5_whoSits_23 2 rfl ?_
        refine q_istore F dX5_whoSits_24 [(4, .int (q_I s)), (0, .ref (q_ad G y)), (1, .ref (q_ad G k)), (2, .int (q_I s)), (3, .int (q_I pl))] (Nat.le_of_ble_eq_true rfl) rfl ?_
        refine q_iconst F dX5_whoSits_26 ?_
        refine q_istore F dX5_whoSits_27 [(5, .int (q_I 0)), (4, .int (q_I s)), (0, .ref (q_ad G y)), (1, .ref (q_ad G k)), (2, .int (q_I s)), (3, .int (q_I pl))] (Nat.le_of_ble_eq_true rfl) rfl ?_
        refine q_bipush F dX5_whoSits_29 (by decide) ?_
        refine q_istore F dX5_whoSits_31 [(6, .int (q_I (-6))), (5, .int (q_I 0)), (4, .int (q_I s)), (0, .ref (q_ad G y)), (1, .ref (q_ad G k)), (2, .int (q_I s)), (3, .int (q_I pl))] (Nat.le_of_ble_eq_true rfl) rfl ?_
        refine q_iconst F dX5_whoSits_33 ?_
        refine q_istore F dX5_whoSits_34 [(7, .int (q_I 0)), (6, .int (q_I (-6))), (5, .int (q_I 0)), (4, .int (q_I s)), (0, .ref (q_ad G y)), (1, .ref (q_ad G k)), (2, .int (q_I s)), (3, .int (q_I pl))] (Nat.le_of_ble_eq_true rfl) rfl ?_
        have lp36_1 : ∀ (k36_1 : Nat) (r : Int) (fo : Int) (si : Int) (i : Int), ((0 ≤ i ∧ i ≤ pl + 1) ∧ (r, fo, si) = q_sit (M k) s i.toNat ∧ (0 ≤ r ∧ r ≤ 63) ∧ (0 ≤ fo ∧ fo ≤ 63) ∧ q_sub r s ∧ q_cnt (q_has r) = q_cnt (q_has s) - i ∧ (r = 0 ∨ 0 < q_rb (M k) r fo) ∧ (-6 ≤ si ∧ si ≤ 5)) → (pl + 1 - i).toNat = k36_1 → q_Y G E 8 M [(0, .ref (q_ad G y)), (1, .ref (q_ad G k)), (2, .int (q_I s)), (3, .int (q_I pl)), (4, .int (q_I r)), (5, .int (q_I fo)), (6, .int (q_I si)), (7, .int (q_I i))] 36 [] := by
          intro k36_1
          induction k36_1 using Nat.strongRecOn with
          | _ k36_1 ih36_1 =>
            intro r fo si i   hi36 hk36
            refine q_iload F dX5_whoSits_36 7 rfl ?_
            refine q_iload_n F dX5_whoSits_38 3 rfl ?_
            refine q_icmp_gt F 84 dX5_whoSits_39 (by decide) (by omega) (fun c39 => ?_) (fun c39 => ?_)
            · refine q_iload F dX5_whoSits_84 6 rfl ?_
              exact q_iret F FI dX5_whoSits_86 (by omega) ⟨by rw [if_pos ⟨by omega, by omega, c17⟩, show pl.toNat + 1 = i.toNat by omega, ← hi36.2.1], rfl⟩
            · refine q_iload F dX5_whoSits_42 7 rfl ?_
              refine q_bipush F dX5_whoSits_44 (by decide) ?_
              refine q_icmp_ge F 84 dX5_whoSits_46 (by decide) (by omega) (fun c46 => ?_) (fun c46 => ?_)
              · exfalso; omega
              refine q_aload_n F dX5_whoSits_49 0 rfl ?_
              refine q_iload F dX5_whoSits_50 4 rfl ?_
              refine q_iload F dX5_whoSits_52 5 rfl ?_
              refine q_callVP (n := 2) (T := TX5) F (c_X5_firstSitter G hI M y hy r fo (M k) s (by assumption) (by assumption) ⟨hi36.2.2.1, hi36.2.2.2.1⟩ hi36.2.2.2.2.1) rfl rfl hy.1 gX5_whoSits_X5_firstSitter rfl ⟨by decide, by decide, by decide +kernel⟩ rfl ⟨rfl, rfl, Nat.le_of_ble_eq_true rfl, Nat.le_of_ble_eq_true rfl⟩ rfl (Nat.le_of_ble_eq_true rfl) dX5_whoSits_54 (fun h54 => ?_)
              have hr0 : ¬ r = 0 := by
                intro h
                have e0 : q_cnt (q_has 0) = 0 := by decide
                have h5 := hi36.2.2.2.2.2.1
                rw [h, e0] at h5
                omega
              have hfi := q_rb_first (hi36.2.2.2.2.2.2.1.resolve_left hr0)
              have hfs := q_fsP_t hi36.2.2.1 hi36.2.2.2.1 hfi.1 hfi.2
              refine q_nm (fun v57 e57 => ?_)
              refine q_istore F dX5_whoSits_57 [(6, .int (q_I v57)), (0, .ref (q_ad G y)), (1, .ref (q_ad G k)), (2, .int (q_I s)), (3, .int (q_I pl)), (4, .int (q_I r)), (5, .int (q_I fo)), (7, .int (q_I i))] (Nat.le_of_ble_eq_true rfl) rfl ?_
              rw [← e57] at hfi hfs
              refine q_aload_n F dX5_whoSits_59 2 rfl ?_
              refine q_iload F dX5_whoSits_60 0 rfl ?_
              refine q_callNP (n := 2) F (c_X8_at G hI M k 6 hk v57 (by omega)) rfl gX5_whoSits_X8_at_n23 (host := RX8) (by decide +kernel) (by decide +kernel) (by decide +kernel) ⟨by decide, by decide, by decide +kernel⟩ rfl ⟨rfl, rfl, Nat.le_of_ble_eq_true rfl, Nat.le_of_ble_eq_true rfl⟩ rfl (Nat.le_of_ble_eq_true rfl) dX5_whoSits_62 (fun h62 => ?_)
              refine q_nm (fun v65 e65 => ?_)
              refine q_istore F dX5_whoSits_65 [(5, .int (q_I v65)), (6, .int (q_I v57)), (0, .ref (q_ad G y)), (1, .ref (q_ad G k)), (2, .int (q_I s)), (3, .int (q_I pl)), (4, .int (q_I r)), (7, .int (q_I i))] (Nat.le_of_ble_eq_true rfl) rfl ?_
              refine q_iload F dX5_whoSits_67 6 rfl ?_
              refine q_iconst F dX5_whoSits_69 ?_
              refine q_iload F dX5_whoSits_70 1 rfl ?_
              refine q_ishl F dX5_whoSits_72 (fun z72 e72 h72 => ?_)
              refine q_iconst F dX5_whoSits_73 ?_
              refine q_ixor F dX5_whoSits_74 (fun z74 e74 h74 => ?_)
              refine q_iand F dX5_whoSits_75 (fun z75 e75 h75 => ?_)
              refine q_istore F dX5_whoSits_76 [(4, .int (q_I z75)), (5, .int (q_I v65)), (6, .int (q_I v57)), (0, .ref (q_ad G y)), (1, .ref (q_ad G k)), (2, .int (q_I s)), (3, .int (q_I pl)), (7, .int (q_I i))] (Nat.le_of_ble_eq_true rfl) rfl ?_
              obtain ⟨v78, e78⟩ : ∃ z_ : Int, z_ = i + 1 := ⟨_, rfl⟩
              refine q_iinc F dX5_whoSits_78 7 rfl e78 [(7, .int (q_I v78)), (4, .int (q_I z75)), (5, .int (q_I v65)), (6, .int (q_I v57)), (0, .ref (q_ad G y)), (1, .ref (q_ad G k)), (2, .int (q_I s)), (3, .int (q_I pl))] (Nat.le_of_ble_eq_true rfl) rfl ?_
              refine q_goto F 36 dX5_whoSits_81 (by decide) ?_
              refine q_drop [4, 5, 6, 7, 1, 2, 3, 0] rfl ?_
              exact ih36_1 _ (by omega) z75 v65 v57 v78 ⟨by omega, by
      rw [show v78.toNat = i.toNat + 1 by omega]
      have hq := hi36.2.1
      show _ = (q_minus (q_sit (M k) s i.toNat).1 (q_first (q_fsP (M k) (q_sit (M k) s i.toNat).1 (q_sit (M k) s i.toNat).2.1) 6 0), M k (q_first (q_fsP (M k) (q_sit (M k) s i.toNat).1 (q_sit (M k) s i.toNat).2.1) 6 0), q_first (q_fsP (M k) (q_sit (M k) s i.toNat).1 (q_sit (M k) s i.toNat).2.1) 6 0)
      rw [← hq]
      show _ = (q_minus r (q_first (q_fsP (M k) r fo) 6 0), M k (q_first (q_fsP (M k) r fo) 6 0), q_first (q_fsP (M k) r fo) 6 0)
      rw [← e57, e75, e74, e72, e65]
      rfl, by
        rw [e75, e74, e72]; exact q_minus_R hi36.2.2.1 hfi.1.1 hfi.1.2, by
        rw [e65]; exact hF _ hfi.1.1 hfi.1.2, by
        rw [e75, e74, e72]
        refine (q_sub_iff (q_minus_R hi36.2.2.1 hfi.1.1 hfi.1.2) hs2.1).mpr (fun x hx => (q_sub_iff hi36.2.2.1 hs2.1).mp hi36.2.2.2.2.1 x ?_)
        have hxi := q_has_in hx
        rw [q_minus_has hi36.2.2.1 hfi.1.1 hfi.1.2 hxi.1 hxi.2] at hx
        simp only [Bool.and_eq_true] at hx
        exact hx.1, by
        rw [e75, e74, e72, show q_and r (q_xor (q_shl 1 v57) (-1)) = q_minus r v57 from rfl, (q_minus_lt hi36.2.2.1 hfs.1).2]
        omega, by
        rw [e75, e74, e72, show q_and r (q_xor (q_shl 1 v57) (-1)) = q_minus r v57 from rfl, e65]
        have h6 := q_wy_6 hF hi36.2.2.1 hfs.1
        by_cases hz : q_minus r v57 = 0
        · exact Or.inl hz
        · rw [if_neg hz] at h6
          right
          omega, by omega⟩ rfl
        refine q_drop [4, 5, 6, 7, 3, 2, 1, 0] rfl ?_
        exact lp36_1 _ s 0 (-6) 0 ⟨by omega, hsr.symm, hs2.1, by omega, hss, by omega, hJ0, by omega⟩ rfl
      · refine q_bipush F dX5_whoSits_20 (by decide) ?_
        exact q_iret F FI dX5_whoSits_22 (by omega) ⟨by rw [if_neg (fun h => by exact h.2.2 c17)], rfl⟩
