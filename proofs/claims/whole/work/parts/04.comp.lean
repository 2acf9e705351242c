/-! What the guests of a house are, by rows of hunger (h), feint (f), house (a), the set of who is there (th), keen (ke) -/
theorem q_b_t {P : Prop} {i : Decidable P} (h : P) : q_b (@decide P i) = 1 := by simp [q_b, h]
theorem q_b_f {P : Prop} {i : Decidable P} (h : ¬ P) : q_b (@decide P i) = 0 := by simp [q_b, h]
def q_pw (b : Int) : Nat → Int
  | 0 => 1
  | n + 1 => q_pw b n * b
theorem q_pw_R0 {b : Int} (hb : 0 ≤ b ∧ b ≤ 10) : ∀ n : Nat, 0 ≤ q_pw b n ∧ q_pw b n ≤ q_pw 10 n
  | 0 => by simp [q_pw]
  | n + 1 => by
    have h := q_pw_R0 hb n
    unfold q_pw
    exact ⟨Int.mul_nonneg h.1 hb.1, Int.mul_le_mul h.2 hb.2 hb.1 (Int.le_trans h.1 h.2)⟩
theorem q_pw_R {b : Int} (hb : 0 ≤ b ∧ b ≤ 10) (n : Nat) (hn : n ≤ 6) : 0 ≤ q_pw b n ∧ q_pw b n ≤ 1000000 := by
  have h := q_pw_R0 hb n
  have h2 : q_pw 10 n ≤ 1000000 := by
    rcases (show n = 0 ∨ n = 1 ∨ n = 2 ∨ n = 3 ∨ n = 4 ∨ n = 5 ∨ n = 6 by omega) with rfl | rfl | rfl | rfl | rfl | rfl | rfl <;> decide
  omega
/-- how many of a set (of a property) come ahead of g -/
def q_rk (m : Int → Int) (P : Int → Bool) (g : Int) : Int := q_cnt (fun y => P y && (decide (m y < m g) || (decide (m y = m g) && decide (y < g))))
def q_place (m : Int → Int) (s g : Int) : Int := q_cnt (fun y => q_has s y && (decide (m y < m g) || (decide (m y = m g) && decide (y < g))))
def q_ins (a : Int → Int) (th pl x : Int) : Bool := decide (a x = pl) && q_has th x
def q_hun (h a : Int → Int) (th pl x : Int) : Bool := q_ins a th pl x && decide (0 < h x)
def q_shn (h f : Int → Int) (x : Int) : Int := max 0 (h x - f x)
def q_fo (h f : Int → Int) (ke x : Int) : Bool := decide (ke < h x - q_shn h f x)
def q_el (h f a : Int → Int) (th ke pl x : Int) : Bool := q_hun h a th pl x && !q_fo h f ke x
def q_tk (h f a : Int → Int) (th ke pl p x : Int) : Bool := q_el h f a th ke pl x && decide (q_rk (q_shn h f) (q_el h f a th ke pl) x < p)
/-- ranges of a company's cells -/
def q_hv (h : Int → Int) : Prop := ∀ g, 0 ≤ g → g < 6 → 0 ≤ h g ∧ h g ≤ 20
def q_fvv (f : Int → Int) : Prop := ∀ g, 0 ≤ g → g < 6 → 0 ≤ f g ∧ f g ≤ 9
def q_av (a : Int → Int) : Prop := ∀ g, 0 ≤ g → g < 6 → 0 ≤ a g ∧ a g ≤ 2
def q_cv (M : q_M) (c : Nat) : Prop := (0 ≤ M c 4 ∧ M c 4 ≤ 63) ∧ (0 ≤ M c 5 ∧ M c 5 ≤ 9) ∧ q_hv (M (c + 1)) ∧ q_fvv (M (c + 2)) ∧ q_av (M (c + 3))
theorem q_cv_fr {M M' : q_M} {c k : Nat} (h : q_cv M c) (hf : q_fr k M M') (hk : k < c ∨ c + 3 < k) : q_cv M' c := by
  unfold q_cv
  rw [hf c (by omega), hf (c + 1) (by omega), hf (c + 2) (by omega), hf (c + 3) (by omega)]
  exact h
theorem q_rk_congr {m m' : Int → Int} {P P' : Int → Bool} (hm : ∀ g, 0 ≤ g → g < 6 → m g = m' g) (hP : ∀ g, 0 ≤ g → g < 6 → P g = P' g) {g : Int} (h0 : 0 ≤ g) (h1 : g < 6) : q_rk m P g = q_rk m' P' g := by
  unfold q_rk
  exact q_cnt_congr (fun x x0 x1 => by rw [hm x x0 x1, hm g h0 h1, hP x x0 x1])
theorem q_place_rk (m : Int → Int) (s g : Int) : q_place m s g = q_rk m (q_has s) g := rfl
theorem q_and_set {P Q : Int → Bool} : q_and (q_set P) (q_set Q) = q_set (fun x => P x && Q x) := by
  rw [q_ands (q_set_R P).1 (q_set_R P).2 (q_set_R Q).1 (q_set_R Q).2]
  exact q_set_congr (fun x x0 x1 => by rw [q_has_set x0 x1, q_has_set x0 x1])
theorem q_andn_set {P Q : Int → Bool} : q_and (q_set P) (q_xor (q_set Q) (-1)) = q_set (fun x => P x && !Q x) := by
  rw [q_andn (q_set_R P).1 (q_set_R P).2 (q_set_R Q).1 (q_set_R Q).2]
  exact q_set_congr (fun x x0 x1 => by rw [q_has_set x0 x1, q_has_set x0 x1])
/-- who is served, out of the sets that the class makes -/
theorem q_tk_of {h f a m : Int → Int} {th ke pl p : Int} (hm : ∀ g, 0 ≤ g → g < 6 → m g = q_shn h f g) :
    q_set (fun x => q_has (q_and (q_set (q_hun h a th pl)) (q_xor (q_set (fun x => q_fo h f ke x && q_has (q_set (q_hun h a th pl)) x)) (-1))) x && decide (q_place m (q_and (q_set (q_hun h a th pl)) (q_xor (q_set (fun x => q_fo h f ke x && q_has (q_set (q_hun h a th pl)) x)) (-1))) x < p)) = q_set (q_tk h f a th ke pl p) := by
  have hs : q_and (q_set (q_hun h a th pl)) (q_xor (q_set (fun x => q_fo h f ke x && q_has (q_set (q_hun h a th pl)) x)) (-1)) = q_set (q_el h f a th ke pl) := by
    rw [q_andn_set]
    refine q_set_congr (fun x x0 x1 => ?_)
    rw [q_has_set x0 x1]
    unfold q_el
    cases q_hun h a th pl x <;> cases q_fo h f ke x <;> rfl
  rw [hs]
  refine q_set_congr (fun x x0 x1 => ?_)
  unfold q_tk
  rw [q_has_set x0 x1, q_place_rk, q_rk_congr hm (fun g g0 g1 => q_has_set g0 g1) x0 x1]
def q_left (h : Int → Int) (s g : Int) : Int := if q_has s g = true then max 0 (h g - 2) else h g
theorem q_left_R {h : Int → Int} {s g : Int} (hh : q_hv h) (h0 : 0 ≤ g) (h1 : g < 6) : 0 ≤ q_left h s g ∧ q_left h s g ≤ 20 := by
  have := hh g h0 h1
  unfold q_left
  split <;> omega
theorem q_cv_h {M M' : q_M} {c : Nat} {g v : Int} (h : q_cv M c) (e : M' = q_up M (c + 1) g v) (hv : 0 ≤ v ∧ v ≤ 20) : q_cv M' c := by
  unfold q_cv
  rw [e, q_up_ne (show c ≠ c + 1 by omega), q_up_ne (show c + 2 ≠ c + 1 by omega), q_up_ne (show c + 3 ≠ c + 1 by omega)]
  refine ⟨h.1, h.2.1, fun x h0 h1 => ?_, h.2.2.2⟩
  rw [q_up_at]
  split
  · exact hv
  · exact h.2.2.1 x h0 h1
theorem q_s6_B {f : Int → Int} {g : Int} (hf : ∀ x, 0 ≤ x → x < 6 → 0 ≤ f x ∧ f x ≤ 20) : 0 ≤ q_s6 (q_lz f g) ∧ q_s6 (q_lz f g) ≤ 120 := by
  have hk : ∀ x, 0 ≤ x → x < 6 → 0 ≤ q_lz f g x ∧ q_lz f g x ≤ 20 := by
    intro x h0 h1
    have := hf x h0 h1
    unfold q_lz
    split <;> omega
  have h0 := hk 0 (by omega) (by omega)
  have h1 := hk 1 (by omega) (by omega)
  have h2 := hk 2 (by omega) (by omega)
  have h3 := hk 3 (by omega) (by omega)
  have h4 := hk 4 (by omega) (by omega)
  have h5 := hk 5 (by omega) (by omega)
  unfold q_s6
  omega
theorem q_m6_B {f : Int → Int} {g : Int} (hf : ∀ x, 0 ≤ x → x < 6 → 0 ≤ f x ∧ f x ≤ 20) : 0 ≤ q_m6 (q_lz f g) ∧ q_m6 (q_lz f g) ≤ 120 := by
  have hk : ∀ x, 0 ≤ x → x < 6 → 0 ≤ q_lz f g x ∧ q_lz f g x ≤ 20 := by
    intro x h0 h1
    have := hf x h0 h1
    unfold q_lz
    split <;> omega
  have h0 := hk 0 (by omega) (by omega)
  have h1 := hk 1 (by omega) (by omega)
  have h2 := hk 2 (by omega) (by omega)
  have h3 := hk 3 (by omega) (by omega)
  have h4 := hk 4 (by omega) (by omega)
  have h5 := hk 5 (by omega) (by omega)
  unfold q_m6
  omega
theorem q_left_ext {h : Int → Int} {s g x : Int} (hg : g = 6) : (if 0 ≤ x ∧ x < g then q_left h s x else h x) = q_left h s x := by
  by_cases hx : 0 ≤ x ∧ x < g
  · rw [if_pos hx]
  · rw [if_neg hx]
    unfold q_left
    rw [q_has_out (by omega)]
    simp
/-- an hour: of all; of those who are there -/
def q_hrA (h : Int → Int) : Int → Int := fun x => if 0 ≤ x ∧ x < 6 then min 20 (h x + 1) else h x
def q_hrT (th : Int) (h : Int → Int) : Int → Int := fun x => if q_has th x = true then min 20 (h x + 1) else h x
theorem q_hrA_ext {h : Int → Int} {g x : Int} (hg : g = 6) : (if 0 ≤ x ∧ x < g then min 20 (h x + 1) else h x) = q_hrA h x := by
  unfold q_hrA
  rw [hg]
/-! the graph of the cells -/
def q_co (G : q_G) (c : Nat) : Prop := q_sh G c = some (.inr (1, [some (c + 1), some (c + 2), some (c + 3), some (c + 4), none, none])) ∧ q_sh G (c + 1) = some (.inl (false, 6)) ∧ q_sh G (c + 2) = some (.inl (false, 6)) ∧ q_sh G (c + 3) = some (.inl (false, 6)) ∧ q_sh G (c + 4) = some (.inl (false, 6))
def q_bk (G : q_G) (c : Nat) : Prop := q_sh G c = some (.inr (0, [some (c + 1), some (c + 6), some (c + 7), some (c + 8), none, none])) ∧ q_co G (c + 1) ∧ q_sh G (c + 6) = some (.inl (false, 6)) ∧ q_sh G (c + 7) = some (.inl (false, 8)) ∧ q_sh G (c + 8) = some (.inl (false, 8))
def q_pd (G : q_G) (c : Nat) : Prop := q_sh G c = some (.inr (3, [some (c + 1), none])) ∧ q_sh G (c + 1) = some (.inl (false, 60))
def q_tr (G : q_G) (c : Nat) : Prop := q_sh G c = some (.inr (6, [some (c + 1), some (c + 6), some (c + 7), some (c + 8), none, none, none, none, none])) ∧ q_co G (c + 1) ∧ q_sh G (c + 6) = some (.inl (false, 6)) ∧ q_sh G (c + 7) = some (.inl (false, 6)) ∧ q_sh G (c + 8) = some (.inl (false, 5))
def q_fe (G : q_G) (c : Nat) : Prop := q_sh G c = some (.inr (2, [some (c + 1), some (c + 6)])) ∧ q_co G (c + 1) ∧ q_sh G (c + 6) = some (.inl (false, 486))
def q_wo (G : q_G) (c : Nat) : Prop := q_sh G c = some (.inr (7, [some (c + 1), some (c + 6), some (c + 7), some (c + 8), some (c + 9), none])) ∧ q_co G (c + 1) ∧ q_sh G (c + 6) = some (.inl (false, 10)) ∧ q_sh G (c + 7) = some (.inl (false, 6)) ∧ q_sh G (c + 8) = some (.inl (false, 6)) ∧ q_sh G (c + 9) = some (.inl (false, 640))
def q_se (G : q_G) (c : Nat) : Prop := q_sh G c = some (.inr (5, [some (c + 1)])) ∧ q_sh G (c + 1) = some (.inl (false, 384))
def q_pl (G : q_G) (c : Nat) : Prop := q_sh G c = some (.inr (4, [some (c + 1)])) ∧ q_sh G (c + 1) = some (.inl (false, 6))
def q_lh (G : q_G) : Prop := q_sh G 0 = some (.inr (8, [some 1, some 10, some 19, some 28, some 30, some 39, some 46, some 56, some 58])) ∧ q_bk G 1 ∧ q_bk G 10 ∧ q_bk G 19 ∧ q_pd G 28 ∧ q_tr G 30 ∧ q_fe G 39 ∧ q_wo G 46 ∧ q_se G 56 ∧ q_pl G 58
def q_mo (G : q_G) : Prop := q_sh G 0 = some (.inr (9, [none, some 1, some 2, some 3, none, some 4, none, some 5, none, some 6, some 7, some 8, some 9, some 10, some 11, none, none, none, none, none, some 12, some 13, some 14, some 15, some 16, some 17, some 18])) ∧ q_sh G 1 = some (.inl (false, 6)) ∧ q_sh G 2 = some (.inl (false, 6)) ∧ q_sh G 3 = some (.inl (false, 6)) ∧ q_sh G 4 = some (.inl (false, 6)) ∧ q_sh G 5 = some (.inl (false, 16)) ∧ q_sh G 6 = some (.inl (false, 60)) ∧ q_sh G 7 = some (.inl (false, 6)) ∧ q_sh G 8 = some (.inl (false, 6)) ∧ q_sh G 9 = some (.inl (false, 6)) ∧ q_sh G 10 = some (.inl (false, 6)) ∧ q_sh G 11 = some (.inl (false, 6)) ∧ q_sh G 12 = some (.inl (false, 6)) ∧ q_sh G 13 = some (.inl (false, 6)) ∧ q_sh G 14 = some (.inl (false, 640)) ∧ q_sh G 15 = some (.inl (false, 6)) ∧ q_sh G 16 = some (.inl (false, 6)) ∧ q_sh G 17 = some (.inl (false, 100)) ∧ q_sh G 18 = some (.inl (true, 2))
