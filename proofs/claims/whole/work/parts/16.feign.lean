/-! feigning: the first feint that is served; rows at rest -/
def q_first (P : Int → Bool) : Nat → Int → Int
  | 0, _ => -6
  | n + 1, k => if P k = true then k else q_first P n (k + 1)
theorem q_first_u (P : Int → Bool) (n : Nat) (k : Int) : q_first P (n + 1) k = if P k = true then k else q_first P n (k + 1) := rfl
theorem q_first_congr {P Q : Int → Bool} : ∀ (n : Nat) (k : Int), (∀ x, k ≤ x → x < k + n → P x = Q x) → q_first P n k = q_first Q n k
  | 0, _, _ => rfl
  | n + 1, k, h => by
    rw [q_first_u, q_first_u, h k (by omega) (by omega), q_first_congr n (k + 1) (fun x h1 h2 => h x (by omega) (by omega))]
def q_agR (h f a h' f' a' : Int → Int) : Prop := ∀ x, 0 ≤ x → x < 6 → h x = h' x ∧ f x = f' x ∧ a x = a' x
theorem q_agR_sim {th : Int} {h f a h' f' a' : Int → Int} (s : q_agR h f a h' f' a') : q_simR th h f a h' f' a' := fun x hx => s x (q_has_in hx).1 (q_has_in hx).2
def q_fgP (h f a : Int → Int) (th ke g p v : Int) : Bool := q_tk h (q_row f g v) a th ke (a g) p g
theorem q_fgP_sim {h f a h' f' a' : Int → Int} {th ke g p v : Int} (s : q_simR th h f a h' f' a') (hg : q_has th g = true) : q_fgP h f a th ke g p v = q_fgP h' f' a' th ke g p v := by
  unfold q_fgP
  rw [(s g hg).2.2]
  exact q_tk_sim (fun x hx => ⟨(s x hx).1, q_row_eq (s x hx).2.1, (s x hx).2.2⟩) g
def q_wth (h f : Int → Int) (fd g : Int) : Int := h g - q_left h fd g - f g / 3
def q_all6 (P : Int → Bool) : Bool := P 0 && P 1 && P 2 && P 3 && P 4 && P 5
def q_all3 (P : Int → Bool) : Bool := P 0 && P 1 && P 2
theorem q_all6_t {P : Int → Bool} : q_all6 P = true ↔ ∀ x, 0 ≤ x → x < 6 → P x = true := by
  unfold q_all6
  simp only [Bool.and_eq_true]
  constructor
  · rintro ⟨⟨⟨⟨⟨h0, h1⟩, h2⟩, h3⟩, h4⟩, h5⟩ x x0 x1
    rcases q_g6 x0 x1 with rfl | rfl | rfl | rfl | rfl | rfl <;> assumption
  · intro h
    exact ⟨⟨⟨⟨⟨h 0 (by omega) (by omega), h 1 (by omega) (by omega)⟩, h 2 (by omega) (by omega)⟩, h 3 (by omega) (by omega)⟩, h 4 (by omega) (by omega)⟩, h 5 (by omega) (by omega)⟩
theorem q_all3_t {P : Int → Bool} : q_all3 P = true ↔ ∀ x, 0 ≤ x → x < 3 → P x = true := by
  unfold q_all3
  simp only [Bool.and_eq_true]
  constructor
  · rintro ⟨⟨h0, h1⟩, h2⟩ x x0 x1
    rcases (show x = 0 ∨ x = 1 ∨ x = 2 by omega) with rfl | rfl | rfl <;> assumption
  · intro h
    exact ⟨⟨h 0 (by omega) (by omega), h 1 (by omega) (by omega)⟩, h 2 (by omega) (by omega)⟩
theorem q_all6_f {P : Int → Bool} {x : Int} (x0 : 0 ≤ x) (x1 : x < 6) (h : P x = false) : q_all6 P = false := by
  cases hp : q_all6 P
  · rfl
  · rw [q_all6_t] at hp
    rw [hp x x0 x1] at h
    cases h
theorem q_all3_f {P : Int → Bool} {x : Int} (x0 : 0 ≤ x) (x1 : x < 3) (h : P x = false) : q_all3 P = false := by
  cases hp : q_all3 P
  · rfl
  · rw [q_all3_t] at hp
    rw [hp x x0 x1] at h
    cases h
theorem q_all6_congr {P Q : Int → Bool} (h : ∀ g, 0 ≤ g → g < 6 → P g = Q g) : q_all6 P = q_all6 Q := by
  unfold q_all6
  rw [h 0 (by omega) (by omega), h 1 (by omega) (by omega), h 2 (by omega) (by omega), h 3 (by omega) (by omega), h 4 (by omega) (by omega), h 5 (by omega) (by omega)]
theorem q_all3_congr {P Q : Int → Bool} (h : ∀ g, 0 ≤ g → g < 3 → P g = Q g) : q_all3 P = q_all3 Q := by
  unfold q_all3
  rw [h 0 (by omega) (by omega), h 1 (by omega) (by omega), h 2 (by omega) (by omega)]
/-- row r with g's digit another -/
def q_rep (S r g c : Int) : Int := r - r / q_pw 3 (q_ab S g) % 3 * q_pw 3 (q_ab S g) + c * q_pw 3 (q_ab S g)
def q_rstG (S : Int) (W : Int → Int → Int) (r g : Int) : Bool := !q_has S g || q_all3 (fun c => decide (W (q_rep S r g c) g ≤ W r g))
def q_rst (S : Int) (W : Int → Int → Int) (r : Int) : Bool := q_all6 (q_rstG S W r)
theorem q_rep_R {S r g c : Int} (h0 : 0 ≤ S) (h1 : S ≤ 63) (hn : q_cnt (q_has S) ≤ 4) (hg : q_has S g = true) (r0 : 0 ≤ r) (r1 : r < q_pw 3 (q_cnt (q_has S)).toNat) (hc : 0 ≤ c ∧ c ≤ 2) : 0 ≤ q_rep S r g c ∧ q_rep S r g c < q_pw 3 (q_cnt (q_has S)).toNat := by
  have hab : (q_ab S g : Int) < q_cnt (q_has S) := by
    have hi := q_has_in hg
    have := q_dec64 (p := fun S => q_has S g = true → (q_ab S g : Int) < q_cnt (q_has S)) (q_dec6 (p := fun g => ∀ n : Nat, n < 64 → q_has (n : Int) g = true → (q_ab (n : Int) g : Int) < q_cnt (q_has (n : Int))) (by decide +kernel) hi.1 hi.2) h0 h1
    exact this hg
  unfold q_rep
  have hr := q_cnt_R (q_has S)
  generalize q_ab S g = j at *
  generalize q_cnt (q_has S) = k at *
  have hj : j = 0 ∨ j = 1 ∨ j = 2 ∨ j = 3 := by omega
  have hk : k = 1 ∨ k = 2 ∨ k = 3 ∨ k = 4 := by omega
  rcases hk with rfl | rfl | rfl | rfl <;> rcases hj with rfl | rfl | rfl | rfl <;> first | (exfalso; omega) | (simp [q_pw] at r1 ⊢; omega)
def q_num (S : Int) (F : Int → Int) : Nat → Int
  | 0 => 0
  | n + 1 => if q_has S n = true then q_num S F n * 10 + F n else q_num S F n
theorem q_num_R {S : Int} {F : Int → Int} (hF : ∀ x, q_has S x = true → 0 ≤ F x ∧ F x ≤ 9) : ∀ n : Nat, 0 ≤ q_num S F n ∧ q_num S F n + 1 ≤ q_pw 10 n
  | 0 => by simp [q_num, q_pw]
  | n + 1 => by
    have h := q_num_R hF n
    unfold q_num q_pw
    split
    · have := hF n (by assumption)
      omega
    · omega
theorem q_num_R6 {S : Int} {F : Int → Int} (hF : ∀ x, q_has S x = true → 0 ≤ F x ∧ F x ≤ 9) (n : Nat) (hn : n ≤ 6) : 0 ≤ q_num S F n ∧ q_num S F n ≤ 999999 := by
  have h := q_num_R hF n
  have h2 := q_pw_R (b := 10) (by omega) n hn
  omega
theorem q_num_congr {S : Int} {F F' : Int → Int} (h : ∀ x, q_has S x = true → F x = F' x) : ∀ n : Nat, q_num S F n = q_num S F' n
  | 0 => rfl
  | n + 1 => by
    unfold q_num
    rw [q_num_congr h n]
    split
    · rw [h _ (by assumption)]
    · rfl
def q_rsl (P : Int → Bool) (D : Int → Int) (w : Int) : Nat → Int → Int → Int
  | 0, _, n => if w = -1 then n else -6
  | m + 1, r, n => if P r = true then (if n = w then D r else q_rsl P D w m (r + 1) (n + 1)) else q_rsl P D w m (r + 1) n
theorem q_rsl_u (P : Int → Bool) (D : Int → Int) (w : Int) (m : Nat) (r n : Int) : q_rsl P D w (m + 1) r n = if P r = true then (if n = w then D r else q_rsl P D w m (r + 1) (n + 1)) else q_rsl P D w m (r + 1) n := rfl
theorem q_rsl_congr {P P' : Int → Bool} {D D' : Int → Int} {w : Int} : ∀ (m : Nat) (r n : Int), (∀ x, r ≤ x → x < r + m → P x = P' x ∧ D x = D' x) → q_rsl P D w m r n = q_rsl P' D' w m r n
  | 0, _, _, _ => rfl
  | m + 1, r, n, h => by
    rw [q_rsl_u, q_rsl_u, (h r (by omega) (by omega)).1, (h r (by omega) (by omega)).2, q_rsl_congr m (r + 1) (n + 1) (fun x h1 h2 => h x (by omega) (by omega)), q_rsl_congr m (r + 1) n (fun x h1 h2 => h x (by omega) (by omega))]
def q_F3 (S : Int) (f : Int → Int) (r : Int) : Int → Int := fun x => if q_has S x = true then q_dig S r 3 x * 3 else f x
def q_W3 (h f a : Int → Int) (th ke S pl p r x : Int) : Int := q_wth h (q_F3 S f r) (q_set (q_tk h (q_F3 S f r) a th ke pl p)) x
def q_P3 (h f a : Int → Int) (th ke S pl p r : Int) : Bool := q_rst S (q_W3 h f a th ke S pl p) r
def q_D3 (S r : Int) : Int := q_num S (fun x => q_dig S r 3 x * 3) 6
def q_R3 (h f a : Int → Int) (th ke S pl p w : Int) : Int := q_rsl (q_P3 h f a th ke S pl p) (q_D3 S) w (q_pw 3 (q_cnt (q_has S)).toNat).toNat 0 0
theorem q_W3_ag {h f a h' f' a' : Int → Int} {th ke S pl p r : Int} (s : q_agR h f a h' f' a') {x : Int} (x0 : 0 ≤ x) (x1 : x < 6) : q_W3 h f a th ke S pl p r x = q_W3 h' f' a' th ke S pl p r x := by
  have e : ∀ y, 0 ≤ y → y < 6 → q_F3 S f r y = q_F3 S f' r y := fun y y0 y1 => by unfold q_F3; rw [(s y y0 y1).2.1]
  have et : q_set (q_tk h (q_F3 S f r) a th ke pl p) = q_set (q_tk h' (q_F3 S f' r) a' th ke pl p) := q_set_congr (fun y _ _ => q_tk_sim (q_agR_sim (fun z z0 z1 => ⟨(s z z0 z1).1, e z z0 z1, (s z z0 z1).2.2⟩)) y)
  unfold q_W3 q_wth q_left
  rw [et, e x x0 x1, (s x x0 x1).1]
theorem q_R3_ag {h f a h' f' a' : Int → Int} {th ke S pl p w : Int} (s : q_agR h f a h' f' a') : q_R3 h f a th ke S pl p w = q_R3 h' f' a' th ke S pl p w := by
  unfold q_R3
  refine q_rsl_congr _ _ _ (fun x _ _ => ⟨?_, rfl⟩)
  unfold q_P3 q_rst
  refine q_all6_congr (fun g g0 g1 => ?_)
  unfold q_rstG
  congr 1
  refine q_all3_congr (fun c _ _ => ?_)
  rw [q_W3_ag s g0 g1, q_W3_ag s g0 g1]
theorem q_F3_v {S r : Int} {f : Int → Int} (hf : q_fvv f) : q_fvv (q_F3 S f r) := fun x h0 h1 => by
  unfold q_F3 q_dig
  split
  · omega
  · exact hf x h0 h1
theorem q_pw3_80 {S : Int} (hn : q_cnt (q_has S) ≤ 4) : q_pw 3 (q_cnt (q_has S)).toNat ≤ 81 := by
  have hr := q_cnt_R (q_has S)
  generalize q_cnt (q_has S) = k at *
  rcases (show k = 0 ∨ k = 1 ∨ k = 2 ∨ k = 3 ∨ k = 4 by omega) with rfl | rfl | rfl | rfl | rfl <;> decide
theorem q_pw_ab {S g : Int} (hS : 0 ≤ S ∧ S ≤ 63) (hn : q_cnt (q_has S) ≤ 4) (hg : q_has S g = true) : 1 ≤ q_pw 3 (q_ab S g) ∧ q_pw 3 (q_ab S g) ≤ 27 := by
  have hab : (q_ab S g : Int) < q_cnt (q_has S) := by
    have hi := q_has_in hg
    have := q_dec64 (p := fun S => q_has S g = true → (q_ab S g : Int) < q_cnt (q_has S)) (q_dec6 (p := fun g => ∀ n : Nat, n < 64 → q_has (n : Int) g = true → (q_ab (n : Int) g : Int) < q_cnt (q_has (n : Int))) (by decide +kernel) hi.1 hi.2) hS.1 hS.2
    exact this hg
  generalize q_ab S g = j at *
  rcases (show j = 0 ∨ j = 1 ∨ j = 2 ∨ j = 3 by omega) with rfl | rfl | rfl | rfl <;> decide
set_option maxHeartbeats 4000000 in
set_option maxRecDepth 100000 in
theorem c_X2_leastFeint (G : q_G) (hI : q_inj G) (M : q_M) (w : Nat) (hw : q_fe G w) (o : Nat) (ho : q_co G o) (g : Int) (p : Int) (hvo : q_cv M o) (hd : o + 4 < w) (hg2 : (0 ≤ g ∧ g < 6) ∧ (1 ≤ p ∧ p ≤ 9)) (hg : q_has (M o 4) g = true) : q_CI G yX2_leastFeint wsX2_leastFeint ({ frames := 4, cells := 0, slots := 0, locals := 94 } : Room) [.ref (q_ad G w), .ref (q_ad G o), .int (q_I g), .int (q_I p)] M (fun z M' => z = q_first (q_fgP (M (o + 1)) (M (o + 2)) (M (o + 3)) (M o 4) (M o 5) g p) 10 0 ∧ ∀ j, (j < w ∨ w + 6 < j) → M' j = M j) := by
  refine q_CI.of hI (by decide) rfl RX2 rfl [(0, .ref (q_ad G w)), (1, .ref (q_ad G o)), (2, .int (q_I g)), (3, .int (q_I p))] rfl (Nat.le_of_ble_eq_true rfl) (fun E F FI => ?_)
  have huX1 : ∀ w ∈ wsX10, w ∈ wsX2_leastFeint := by decide +kernel
  have huX2 : ∀ w ∈ wsX20, w ∈ wsX2_leastFeint := by decide +kernel
  refine q_MRof (fun hM => ?_)
  refine q_aload_n F dX2_leastFeint_0 0 rfl ?_
  refine q_getr (T := TX2) (ref := "LeastHungry$Feigning") F huX2 rfl hw.1 0 (by decide) (by decide +kernel) rfl rfl dX2_leastFeint_1 ?_
  refine q_aload_n F dX2_leastFeint_4 1 rfl ?_
  refine q_callVV (n := 1) (T := TX1) F (c_X1_become G hI M (w + 1) hw.2.1 o ho (by omega)) rfl rfl hw.2.1.1 gX2_leastFeint_X1_become rfl ⟨by decide, by decide, by decide +kernel⟩ rfl ⟨rfl, rfl, Nat.le_of_ble_eq_true rfl, Nat.le_of_ble_eq_true rfl⟩ rfl (Nat.le_of_ble_eq_true rfl) dX2_leastFeint_5 (fun N5 p5 => ?_)
  obtain ⟨b1, b2, b3, b4⟩ := p5
  have hv5 : q_cv N5 (w + 1) := ⟨by rw [b2]; exact hvo.1, by rw [b3]; exact hvo.2.1, fun x h0 h1 => by rw [(b4 x h0 h1).1]; exact hvo.2.2.1 x h0 h1, fun x h0 h1 => by rw [(b4 x h0 h1).2.1]; exact hvo.2.2.2.1 x h0 h1, fun x h0 h1 => by rw [(b4 x h0 h1).2.2]; exact hvo.2.2.2.2 x h0 h1⟩
  have ag5 := (b4 g hg2.1.1 hg2.1.2).2.2
  have hav := hvo.2.2.2.2 g hg2.1.1 hg2.1.2
  refine q_aload_n F dX2_leastFeint_8 0 rfl ?_
  refine q_getr (T := TX2) (ref := "LeastHungry$Feigning") F huX2 rfl hw.1 0 (by decide) (by decide +kernel) rfl rfl dX2_leastFeint_9 ?_
  refine q_getr (T := TX1) (ref := "LeastHungry$Company") F huX1 rfl hw.2.1.1 2 (by decide) (by decide +kernel) rfl rfl dX2_leastFeint_12 ?_
  refine q_iload_n F dX2_leastFeint_15 2 rfl ?_
  refine q_callNP (n := 2) F (c_X8_at G hI N5 ((w + 1) + 3) 6 hw.2.1.2.2.2.1 g (by omega)) rfl gX2_leastFeint_X8_at_n29 (host := RX8) (by decide +kernel) (by decide +kernel) (by decide +kernel) ⟨by decide, by decide, by decide +kernel⟩ rfl ⟨rfl, rfl, Nat.le_of_ble_eq_true rfl, Nat.le_of_ble_eq_true rfl⟩ rfl (Nat.le_of_ble_eq_true rfl) dX2_leastFeint_16 (fun h16 => ?_)
  refine q_nm (fun v19 e19 => ?_)
  refine q_istore F dX2_leastFeint_19 [(4, .int (q_I v19)), (0, .ref (q_ad G w)), (1, .ref (q_ad G o)), (2, .int (q_I g)), (3, .int (q_I p))] (Nat.le_of_ble_eq_true rfl) rfl ?_
  have hv19 : 0 ≤ v19 ∧ v19 ≤ 2 := by rw [e19, ag5]; exact hav
  refine q_iconst F dX2_leastFeint_21 ?_
  refine q_istore F dX2_leastFeint_22 [(5, .int (q_I 0)), (4, .int (q_I v19)), (0, .ref (q_ad G w)), (1, .ref (q_ad G o)), (2, .int (q_I g)), (3, .int (q_I p))] (Nat.le_of_ble_eq_true rfl) rfl ?_
  have lp24_1 : ∀ (k24_1 : Nat) (v : Int) (M1 : q_M), ((0 ≤ v ∧ v ≤ 10) ∧ (∀ j, j ≠ w + 1 + 2 → j ≠ w + 1 + 4 → M1 j = N5 j) ∧ q_cv M1 (w + 1) ∧ (∀ x, x ≠ g → M1 (w + 1 + 2) x = N5 (w + 1 + 2) x) ∧ q_first (q_fgP (M (o + 1)) (M (o + 2)) (M (o + 3)) (M o 4) (M o 5) g p) (10 - v).toNat v = q_first (q_fgP (M (o + 1)) (M (o + 2)) (M (o + 3)) (M o 4) (M o 5) g p) 10 0) → (10 - v).toNat = k24_1 → q_Y G E 6 M1 [(0, .ref (q_ad G w)), (2, .int (q_I g)), (3, .int (q_I p)), (4, .int (q_I v19)), (5, .int (q_I v))] 24 [] := by
    intro k24_1
    induction k24_1 using Nat.strongRecOn with
    | _ k24_1 ih24_1 =>
      intro v  M1 hi24 hk24
      refine q_MRof (fun hM24 => ?_)
      refine q_iload F dX2_leastFeint_24 4 rfl ?_
      refine q_bipush F dX2_leastFeint_26 (by decide) ?_
      refine q_icmp_gt F 70 dX2_leastFeint_28 (by decide) (by omega) (fun c28 => ?_) (fun c28 => ?_)
      · refine q_bipush F dX2_leastFeint_70 (by decide) ?_
        exact q_iret F FI dX2_leastFeint_72 (by omega) ⟨by
      have hu := hi24.2.2.2.2
      rw [show (10 - v).toNat = 0 by omega] at hu
      exact hu, fun j hj => by rw [hi24.2.1 j (by omega) (by omega)]; exact b1 j (by omega)⟩
      · refine q_aload_n F dX2_leastFeint_31 0 rfl ?_
        refine q_getr (T := TX2) (ref := "LeastHungry$Feigning") F huX2 rfl hw.1 0 (by decide) (by decide +kernel) rfl rfl dX2_leastFeint_32 ?_
        refine q_getr (T := TX1) (ref := "LeastHungry$Company") F huX1 rfl hw.2.1.1 1 (by decide) (by decide +kernel) rfl rfl dX2_leastFeint_35 ?_
        refine q_iload_n F dX2_leastFeint_38 1 rfl ?_
        refine q_iload F dX2_leastFeint_39 4 rfl ?_
        refine q_callNV (n := 3) F (c_X8_put G hI M1 ((w + 1) + 2) 6 hw.2.1.2.2.1 g v (by omega) (by omega)) rfl gX2_leastFeint_X8_put_n36 (host := RX8) (by decide +kernel) (by decide +kernel) (by decide +kernel) ⟨by decide, by decide, by decide +kernel⟩ rfl ⟨rfl, rfl, Nat.le_of_ble_eq_true rfl, Nat.le_of_ble_eq_true rfl⟩ rfl (Nat.le_of_ble_eq_true rfl) dX2_leastFeint_41 (fun N41 p41 => ?_)
        have hv41 : q_cv N41 (w + 1) := q_cv_f hi24.2.2.1 p41 (by omega)
        refine q_aload_n F dX2_leastFeint_44 0 rfl ?_
        refine q_getr (T := TX2) (ref := "LeastHungry$Feigning") F huX2 rfl hw.1 0 (by decide) (by decide +kernel) rfl rfl dX2_leastFeint_45 ?_
        refine q_iload F dX2_leastFeint_48 3 rfl ?_
        refine q_iload_n F dX2_leastFeint_50 2 rfl ?_
        refine q_callVI (n := 2) (T := TX1) F (c_X1_takers G hI N41 (w + 1) hw.2.1 v19 p hv41 (by omega)) rfl rfl hw.2.1.1 gX2_leastFeint_X1_takers rfl ⟨by decide, by decide, by decide +kernel⟩ rfl ⟨rfl, rfl, Nat.le_of_ble_eq_true rfl, Nat.le_of_ble_eq_true rfl⟩ rfl (Nat.le_of_ble_eq_true rfl) dX2_leastFeint_51 (fun r51 N51 h51 p51 => ?_)
        have hP : q_tk (N41 (w + 1 + 1)) (N41 (w + 1 + 2)) (N41 (w + 1 + 3)) (N41 (w + 1) 4) (N41 (w + 1) 5) v19 p g = q_fgP (M (o + 1)) (M (o + 2)) (M (o + 3)) (M o 4) (M o 5) g p v := by
          rw [p41, q_up_ne (show w + 1 + 1 ≠ w + 1 + 2 by omega), q_up_ne (show w + 1 + 3 ≠ w + 1 + 2 by omega), q_up_ne (show w + 1 ≠ w + 1 + 2 by omega), q_up_row, hi24.2.1 (w + 1 + 1) (by omega) (by omega), hi24.2.1 (w + 1 + 3) (by omega) (by omega), hi24.2.1 (w + 1) (by omega) (by omega), b2, b3, e19, ag5]
          unfold q_fgP
          refine q_tk_sim (fun x hx => ?_) g
          have hxi := q_has_in hx
          have hb := b4 x hxi.1 hxi.2
          refine ⟨hb.1, ?_, hb.2.2⟩
          unfold q_row
          by_cases hxg : x = g
          · rw [if_pos hxg, if_pos hxg]
          · rw [if_neg hxg, if_neg hxg, hi24.2.2.2.1 x hxg, hb.2.1]
        have hr51 : 0 ≤ r51 ∧ r51 ≤ 63 := by rw [p51.1]; exact q_set_R _
        have hhas : q_has r51 g = q_fgP (M (o + 1)) (M (o + 2)) (M (o + 3)) (M o 4) (M o 5) g p v := by rw [p51.1, q_has_set hg2.1.1 hg2.1.2, hP]
        refine q_iload_n F dX2_leastFeint_54 1 rfl ?_
        refine q_callNP (n := 2) F (c_X8_holds G hI N51 r51 g (by omega)) rfl gX2_leastFeint_X8_holds_n44 (host := RX8) (by decide +kernel) (by decide +kernel) (by decide +kernel) ⟨by decide, by decide, by decide +kernel⟩ rfl ⟨rfl, rfl, Nat.le_of_ble_eq_true rfl, Nat.le_of_ble_eq_true rfl⟩ rfl (Nat.le_of_ble_eq_true rfl) dX2_leastFeint_55 (fun h55 => ?_)
        refine q_ifb_eq F 64 dX2_leastFeint_58 (by decide) (fun c58 => ?_) (fun c58 => ?_)
        · obtain ⟨v64, e64⟩ : ∃ z_ : Int, z_ = v + 1 := ⟨_, rfl⟩
          refine q_iinc F dX2_leastFeint_64 4 rfl e64 [(5, .int (q_I v64)), (0, .ref (q_ad G w)), (2, .int (q_I g)), (3, .int (q_I p)), (4, .int (q_I v19))] (Nat.le_of_ble_eq_true rfl) rfl ?_
          refine q_goto F 24 dX2_leastFeint_67 (by decide) ?_
          refine q_drop [1, 2, 3, 4, 0] rfl ?_
          exact ih24_1 _ (by omega) v64 N51 ⟨by omega, fun j h1 h2 => by rw [p51.2 j h2, p41, q_up_ne h1]; exact hi24.2.1 j h1 h2, q_cv_fr hv41 p51.2 (by omega), fun x hx => by rw [p51.2 _ (by omega), p41, q_up_at, if_neg hx]; exact hi24.2.2.2.1 x hx, by
      have hu := hi24.2.2.2.2
      rw [show (10 - v).toNat = (10 - v64).toNat + 1 by omega, q_first_u, if_neg (by rw [← hhas]; simp [c58])] at hu
      rw [← hu, e64]⟩ rfl
        · refine q_iload F dX2_leastFeint_61 4 rfl ?_
          exact q_iret F FI dX2_leastFeint_63 (by omega) ⟨by
      have hu := hi24.2.2.2.2
      rw [show (10 - v).toNat = (9 - v).toNat + 1 by omega, q_first_u, if_pos (by rw [← hhas]; exact c58)] at hu
      exact hu, fun j hj => by rw [p51.2 j (by omega), p41, q_up_ne (by omega), hi24.2.1 j (by omega) (by omega)]; exact b1 j (by omega)⟩
  refine q_drop [2, 4, 5, 1, 0] rfl ?_
  exact lp24_1 _ 0 N5 ⟨by omega, fun _ _ _ => rfl, hv5, fun _ _ => rfl, rfl⟩ rfl

set_option maxHeartbeats 4000000 in
set_option maxRecDepth 100000 in
theorem c_X2_noteWorths (G : q_G) (hI : q_inj G) (M : q_M) (w : Nat) (hw : q_fe G w) (r : Int) (fd : Int) (hv : q_cv M (w + 1)) (hr : (0 ≤ r ∧ r ≤ 80) ∧ (0 ≤ fd ∧ fd ≤ 63)) : q_CV G yX2_noteWorths wsX2_noteWorths ({ frames := 2, cells := 0, slots := 0, locals := 44 } : Room) [.ref (q_ad G w), .int (q_I r), .int (q_I fd)] M (fun M' => q_fr (w + 6) M M' ∧ ∀ x, M' (w + 6) x = if r * 6 ≤ x ∧ x < r * 6 + 6 then q_wth (M (w + 1 + 1)) (M (w + 1 + 2)) fd (x - r * 6) else M (w + 6) x) := by
  refine q_CV.of hI (by decide) rfl RX2 rfl [(0, .ref (q_ad G w)), (1, .int (q_I r)), (2, .int (q_I fd))] rfl (Nat.le_of_ble_eq_true rfl) (fun E F FV => ?_)
  have huX1 : ∀ w ∈ wsX10, w ∈ wsX2_noteWorths := by decide +kernel
  have huX2 : ∀ w ∈ wsX20, w ∈ wsX2_noteWorths := by decide +kernel
  refine q_MRof (fun hM => ?_)
  refine q_iconst F dX2_noteWorths_0 ?_
  refine q_istore_n F dX2_noteWorths_1 [(3, .int (q_I 0)), (0, .ref (q_ad G w)), (1, .int (q_I r)), (2, .int (q_I fd))] (Nat.le_of_ble_eq_true rfl) rfl ?_
  have lp2_1 : ∀ (k2_1 : Nat) (g : Int) (M1 : q_M), ((0 ≤ g ∧ g ≤ 6) ∧ q_fr (w + 6) M M1 ∧ ∀ x, M1 (w + 6) x = if r * 6 ≤ x ∧ x < r * 6 + g then q_wth (M (w + 1 + 1)) (M (w + 1 + 2)) fd (x - r * 6) else M (w + 6) x) → (6 - g).toNat = k2_1 → q_Y G E 5 M1 [(0, .ref (q_ad G w)), (1, .int (q_I r)), (2, .int (q_I fd)), (3, .int (q_I g))] 2 [] := by
    intro k2_1
    induction k2_1 using Nat.strongRecOn with
    | _ k2_1 ih2_1 =>
      intro g  M1 hi2 hk2
      refine q_MRof (fun hM2 => ?_)
      have hv1 : q_cv M1 (w + 1) := q_cv_fr hv hi2.2.1 (by omega)
      refine q_iload_n F dX2_noteWorths_2 3 rfl ?_
      refine q_bipush F dX2_noteWorths_3 (by decide) ?_
      refine q_icmp_ge F 66 dX2_noteWorths_5 (by decide) (by omega) (fun c5 => ?_) (fun c5 => ?_)
      · exact q_vret F FV dX2_noteWorths_66 ⟨hi2.2.1, fun x => by rw [hi2.2.2 x, show g = 6 by omega]⟩
      · refine q_aload_n F dX2_noteWorths_8 0 rfl ?_
        refine q_getr (T := TX2) (ref := "LeastHungry$Feigning") F huX2 rfl hw.1 0 (by decide) (by decide +kernel) rfl rfl dX2_noteWorths_9 ?_
        refine q_getr (T := TX1) (ref := "LeastHungry$Company") F huX1 rfl hw.2.1.1 0 (by decide) (by decide +kernel) rfl rfl dX2_noteWorths_12 ?_
        refine q_iload_n F dX2_noteWorths_15 3 rfl ?_
        refine q_callNP (n := 2) F (c_X8_at G hI M1 ((w + 1) + 1) 6 hw.2.1.2.1 g (by omega)) rfl gX2_noteWorths_X8_at_n29 (host := RX8) (by decide +kernel) (by decide +kernel) (by decide +kernel) ⟨by decide, by decide, by decide +kernel⟩ rfl ⟨rfl, rfl, Nat.le_of_ble_eq_true rfl, Nat.le_of_ble_eq_true rfl⟩ rfl (Nat.le_of_ble_eq_true rfl) dX2_noteWorths_16 (fun h16 => ?_)
        refine q_aload_n F dX2_noteWorths_19 0 rfl ?_
        refine q_getr (T := TX2) (ref := "LeastHungry$Feigning") F huX2 rfl hw.1 0 (by decide) (by decide +kernel) rfl rfl dX2_noteWorths_20 ?_
        refine q_iload_n F dX2_noteWorths_23 3 rfl ?_
        refine q_iload_n F dX2_noteWorths_24 2 rfl ?_
        refine q_callVP (n := 2) (T := TX1) F (c_X1_leftBy G hI M1 (w + 1) hw.2.1 g fd hv1 (by omega) (by omega)) rfl rfl hw.2.1.1 gX2_noteWorths_X1_leftBy rfl ⟨by decide, by decide, by decide +kernel⟩ rfl ⟨rfl, rfl, Nat.le_of_ble_eq_true rfl, Nat.le_of_ble_eq_true rfl⟩ rfl (Nat.le_of_ble_eq_true rfl) dX2_noteWorths_25 (fun h25 => ?_)
        have hlf := q_left_R (s := fd) hv1.2.2.1 hi2.1.1 c5
        have hvh := hv1.2.2.1 g hi2.1.1 c5
        have hvf := hv1.2.2.2.1 g hi2.1.1 c5
        refine q_isub F dX2_noteWorths_28 ?_
        refine q_nm (fun v29 e29 => ?_)
        refine q_istore F dX2_noteWorths_29 [(4, .int (q_I v29)), (0, .ref (q_ad G w)), (1, .int (q_I r)), (2, .int (q_I fd)), (3, .int (q_I g))] (Nat.le_of_ble_eq_true rfl) rfl ?_
        refine q_aload_n F dX2_noteWorths_31 1 rfl ?_
        refine q_getr (T := TX2) (ref := "LeastHungry$Feigning") F huX2 rfl hw.1 1 (by decide) (by decide +kernel) rfl rfl dX2_noteWorths_32 ?_
        refine q_iload_n F dX2_noteWorths_35 2 rfl ?_
        refine q_bipush F dX2_noteWorths_36 (by decide) ?_
        refine q_imul F dX2_noteWorths_38 ?_
        refine q_iload_n F dX2_noteWorths_39 4 rfl ?_
        refine q_iadd F dX2_noteWorths_40 ?_
        refine q_iload F dX2_noteWorths_41 0 rfl ?_
        refine q_aload_n F dX2_noteWorths_43 1 rfl ?_
        refine q_getr (T := TX2) (ref := "LeastHungry$Feigning") F huX2 rfl hw.1 0 (by decide) (by decide +kernel) rfl rfl dX2_noteWorths_44 ?_
        refine q_getr (T := TX1) (ref := "LeastHungry$Company") F huX1 rfl hw.2.1.1 1 (by decide) (by decide +kernel) rfl rfl dX2_noteWorths_47 ?_
        refine q_iload_n F dX2_noteWorths_50 4 rfl ?_
        refine q_callNP (n := 2) F (c_X8_at G hI M1 ((w + 1) + 2) 6 hw.2.1.2.2.1 g (by omega)) rfl gX2_noteWorths_X8_at_n29 (host := RX8) (by decide +kernel) (by decide +kernel) (by decide +kernel) ⟨by decide, by decide, by decide +kernel⟩ rfl ⟨rfl, rfl, Nat.le_of_ble_eq_true rfl, Nat.le_of_ble_eq_true rfl⟩ rfl (Nat.le_of_ble_eq_true rfl) dX2_noteWorths_51 (fun h51 => ?_)
        refine q_iconst F dX2_noteWorths_54 ?_
        refine q_idiv F dX2_noteWorths_55 (by have := hv1.2.2.2.1 g hi2.1.1 c5; omega) ?_
        refine q_isub F dX2_noteWorths_56 ?_
        have hvf2 := hv1.2.2.2.1 g hi2.1.1 c5
        refine q_callNV (n := 3) F (c_X8_put G hI M1 (w + 6) 486 hw.2.2 _ _ (by omega) (by omega)) rfl gX2_noteWorths_X8_put_n36 (host := RX8) (by decide +kernel) (by decide +kernel) (by decide +kernel) ⟨by decide, by decide, by decide +kernel⟩ rfl ⟨rfl, rfl, Nat.le_of_ble_eq_true rfl, Nat.le_of_ble_eq_true rfl⟩ rfl (Nat.le_of_ble_eq_true rfl) dX2_noteWorths_57 (fun N57 p57 => ?_)
        obtain ⟨v60, e60⟩ : ∃ z_ : Int, z_ = g + 1 := ⟨_, rfl⟩
        refine q_iinc F dX2_noteWorths_60 4 rfl e60 [(3, .int (q_I v60)), (4, .int (q_I v29)), (0, .ref (q_ad G w)), (1, .int (q_I r)), (2, .int (q_I fd))] (Nat.le_of_ble_eq_true rfl) rfl ?_
        refine q_goto F 2 dX2_noteWorths_63 (by decide) ?_
        refine q_drop [2, 3, 4, 0] rfl ?_
        exact ih2_1 _ (by omega) v60 N57 ⟨by omega, q_fr_tr hi2.2.1 (q_fr_up p57), fun x => by
      rw [p57, q_up_at]
      by_cases hx : x = r * 6 + g
      · rw [if_pos hx, if_pos (by omega), e29, hx, show r * 6 + g - r * 6 = g by omega, hi2.2.1 _ (by omega), hi2.2.1 _ (by omega)]
        rfl
      · rw [if_neg hx, hi2.2.2 x]
        by_cases hl : r * 6 ≤ x ∧ x < r * 6 + g
        · rw [if_pos hl, if_pos (by omega)]
        · rw [if_neg hl, if_neg (by omega)]⟩ rfl
  refine q_drop [1, 2, 3, 0] rfl ?_
  exact lp2_1 _ 0 M ⟨by omega, q_fr_rf, fun x => by rw [if_neg (by omega)]⟩ rfl

set_option maxHeartbeats 4000000 in
set_option maxRecDepth 100000 in
theorem c_X2_worth (G : q_G) (hI : q_inj G) (M : q_M) (w : Nat) (hw : q_fe G w) (r : Int) (g : Int) (hr : (0 ≤ r ∧ r ≤ 80) ∧ (0 ≤ g ∧ g < 6)) : q_CI G yX2_worth wsX2_worth ({ frames := 1, cells := 0, slots := 0, locals := 21 } : Room) [.ref (q_ad G w), .int (q_I r), .int (q_I g)] M (fun z M' => z = M (w + 6) (r * 6 + g) ∧ M' = M) := by
  refine q_CI.of hI (by decide) rfl RX2 rfl [(0, .ref (q_ad G w)), (1, .int (q_I r)), (2, .int (q_I g))] rfl (Nat.le_of_ble_eq_true rfl) (fun E F FI => ?_)
  have huX2 : ∀ w ∈ wsX20, w ∈ wsX2_worth := by decide +kernel
  refine q_MRof (fun hM => ?_)
  refine q_aload_n F dX2_worth_0 0 rfl ?_
  refine q_getr (T := TX2) (ref := "LeastHungry$Feigning") F huX2 rfl hw.1 1 (by decide) (by decide +kernel) rfl rfl dX2_worth_1 ?_
  refine q_iload_n F dX2_worth_4 1 rfl ?_
  refine q_bipush F dX2_worth_5 (by decide) ?_
  refine q_imul F dX2_worth_7 ?_
  refine q_iload_n F dX2_worth_8 2 rfl ?_
  refine q_iadd F dX2_worth_9 ?_
  refine q_callNP (n := 2) F (c_X8_at G hI M (w + 6) 486 hw.2.2 _ (by omega)) rfl gX2_worth_X8_at_n29 (host := RX8) (by decide +kernel) (by decide +kernel) (by decide +kernel) ⟨by decide, by decide, by decide +kernel⟩ rfl ⟨rfl, rfl, Nat.le_of_ble_eq_true rfl, Nat.le_of_ble_eq_true rfl⟩ rfl (Nat.le_of_ble_eq_true rfl) dX2_worth_10 (fun h10 => ?_)
  exact q_iret F FI dX2_worth_13 (by omega) ⟨rfl, rfl⟩

set_option maxHeartbeats 4000000 in
set_option maxRecDepth 100000 in
theorem c_X2_isAtRest (G : q_G) (hI : q_inj G) (M : q_M) (w : Nat) (hw : q_fe G w) (S : Int) (r : Int) (hS : 0 ≤ S ∧ S ≤ 63) (hn : q_cnt (q_has S) ≤ 4) (hr : 0 ≤ r ∧ r < q_pw 3 (q_cnt (q_has S)).toNat) : q_CI G yX2_isAtRest wsX2_isAtRest ({ frames := 2, cells := 0, slots := 0, locals := 43 } : Room) [.ref (q_ad G w), .int (q_I S), .int (q_I r)] M (fun z M' => z = q_b (q_rst S (fun r g => M (w + 6) (r * 6 + g)) r) ∧ M' = M) := by
  refine q_CI.of hI (by decide) rfl RX2 rfl [(0, .ref (q_ad G w)), (1, .int (q_I S)), (2, .int (q_I r))] rfl (Nat.le_of_ble_eq_true rfl) (fun E F FI => ?_)
  refine q_MRof (fun hM => ?_)
  have hr80 := q_pw3_80 hn
  have hRep := fun g c => q_rep_R (S := S) (r := r) (g := g) (c := c) hS.1 hS.2 hn
  have hPw := fun g : Int => q_pw_ab (S := S) (g := g) hS hn
  refine q_iload_n F dX2_isAtRest_0 2 rfl ?_
  refine q_istore_n F dX2_isAtRest_1 [(3, .int (q_I r)), (0, .ref (q_ad G w)), (1, .int (q_I S)), (2, .int (q_I r))] (Nat.le_of_ble_eq_true rfl) rfl ?_
  refine q_iconst F dX2_isAtRest_2 ?_
  refine q_istore F dX2_isAtRest_3 [(4, .int (q_I 1)), (3, .int (q_I r)), (0, .ref (q_ad G w)), (1, .int (q_I S)), (2, .int (q_I r))] (Nat.le_of_ble_eq_true rfl) rfl ?_
  refine q_iconst F dX2_isAtRest_5 ?_
  refine q_istore F dX2_isAtRest_6 [(5, .int (q_I 5)), (4, .int (q_I 1)), (3, .int (q_I r)), (0, .ref (q_ad G w)), (1, .int (q_I S)), (2, .int (q_I r))] (Nat.le_of_ble_eq_true rfl) rfl ?_
  have lp8_1 : ∀ (k8_1 : Nat) (rs : Int) (st : Int) (g : Int), ((-1 ≤ g ∧ g ≤ 5) ∧ (-1 ≤ g → rs = r / q_pw 3 (q_ab S g) ∧ st = q_pw 3 (q_ab S g)) ∧ ∀ x, g < x → x < 6 → q_rstG S (fun r g => M (w + 6) (r * 6 + g)) r x = true) → (g + 1).toNat = k8_1 → q_Y G E 8 M [(0, .ref (q_ad G w)), (1, .int (q_I S)), (2, .int (q_I r)), (3, .int (q_I rs)), (4, .int (q_I st)), (5, .int (q_I g))] 8 [] := by
    intro k8_1
    induction k8_1 using Nat.strongRecOn with
    | _ k8_1 ih8_1 =>
      intro rs st g   hi8 hk8
      have hrs := hi8.2.1 hi8.1.1
      have hdR := q_div_R (b := 3) hr.1 (by omega) (q_ab S g)
      have hab := q_ab_step (i := g) hS.1 hS.2
      refine q_iload F dX2_isAtRest_8 5 rfl ?_
      refine q_if_lt F 89 dX2_isAtRest_10 (by decide) (by omega) (fun c10 => ?_) (fun c10 => ?_)
      · refine q_iconst F dX2_isAtRest_89 ?_
        exact q_zret F FI dX2_isAtRest_90 (by omega) ⟨by
      rw [show q_rst S (fun r g => M (w + 6) (r * 6 + g)) r = true from q_all6_t.mpr (fun x h0 h1 => hi8.2.2 x (by omega) h1)]
      rfl, rfl⟩
      · refine q_iload_n F dX2_isAtRest_13 1 rfl ?_
        refine q_iload F dX2_isAtRest_14 5 rfl ?_
        refine q_callNP (n := 2) F (c_X8_holds G hI M S g (by omega)) rfl gX2_isAtRest_X8_holds_n44 (host := RX8) (by decide +kernel) (by decide +kernel) (by decide +kernel) ⟨by decide, by decide, by decide +kernel⟩ rfl ⟨rfl, rfl, Nat.le_of_ble_eq_true rfl, Nat.le_of_ble_eq_true rfl⟩ rfl (Nat.le_of_ble_eq_true rfl) dX2_isAtRest_16 (fun h16 => ?_)
        refine q_ifb_eq F 83 dX2_isAtRest_19 (by decide) (fun c19 => ?_) (fun c19 => ?_)
        · obtain ⟨v83, e83⟩ : ∃ z_ : Int, z_ = g + (-1) := ⟨_, rfl⟩
          refine q_iinc F dX2_isAtRest_83 5 rfl e83 [(5, .int (q_I v83)), (0, .ref (q_ad G w)), (1, .int (q_I S)), (2, .int (q_I r)), (3, .int (q_I rs)), (4, .int (q_I st))] (Nat.le_of_ble_eq_true rfl) rfl ?_
          refine q_goto F 8 dX2_isAtRest_86 (by decide) ?_
          refine q_drop [1, 2, 3, 4, 5, 0] rfl ?_
          exact ih8_1 _ (by omega) rs st v83 ⟨by omega, fun _ => by rw [e83, show g + -1 = g - 1 by omega, hab c10 (by omega), if_neg (by simp [c19])]; exact hrs, fun x h0 h1 => by
        by_cases hx : x = g
        · rw [hx]; unfold q_rstG; rw [c19]; rfl
        · exact hi8.2.2 x (by omega) h1⟩ rfl
        · have hpg := hPw g c19
          have hrsm := q_mul_R (u := rs) (b := 3) (st := 1) (by omega) (by omega) (by omega)
          refine q_iload_n F dX2_isAtRest_22 2 rfl ?_
          refine q_iload_n F dX2_isAtRest_23 3 rfl ?_
          refine q_iconst F dX2_isAtRest_24 ?_
          refine q_irem F dX2_isAtRest_25 (by omega) ?_
          refine q_iload F dX2_isAtRest_26 4 rfl ?_
          refine q_imul F dX2_isAtRest_28 ?_
          refine q_isub F dX2_isAtRest_29 ?_
          refine q_nm (fun v30 e30 => ?_)
          refine q_istore F dX2_isAtRest_30 [(6, .int (q_I v30)), (0, .ref (q_ad G w)), (1, .int (q_I S)), (2, .int (q_I r)), (3, .int (q_I rs)), (4, .int (q_I st)), (5, .int (q_I g))] (Nat.le_of_ble_eq_true rfl) rfl ?_
          refine q_iconst F dX2_isAtRest_32 ?_
          refine q_istore F dX2_isAtRest_33 [(7, .int (q_I 0)), (6, .int (q_I v30)), (0, .ref (q_ad G w)), (1, .int (q_I S)), (2, .int (q_I r)), (3, .int (q_I rs)), (4, .int (q_I st)), (5, .int (q_I g))] (Nat.le_of_ble_eq_true rfl) rfl ?_
          have lp35_2 : ∀ (k35_2 : Nat) (c : Int), ((0 ≤ c ∧ c ≤ 3) ∧ ∀ x, 0 ≤ x → x < c → M (w + 6) (q_rep S r g x * 6 + g) ≤ M (w + 6) (r * 6 + g)) → (3 - c).toNat = k35_2 → q_Y G E 8 M [(0, .ref (q_ad G w)), (1, .int (q_I S)), (2, .int (q_I r)), (3, .int (q_I rs)), (4, .int (q_I st)), (5, .int (q_I g)), (6, .int (q_I v30)), (7, .int (q_I c))] 35 [] := by
            intro k35_2
            induction k35_2 using Nat.strongRecOn with
            | _ k35_2 ih35_2 =>
              intro c   hi35 hk35
              have hrep := hRep g c c19 hr.1 hr.2
              have ebs : v30 + c * st = q_rep S r g c := by rw [e30, hrs.1, hrs.2]; rfl
              refine q_iload F dX2_isAtRest_35 7 rfl ?_
              refine q_iconst F dX2_isAtRest_37 ?_
              refine q_icmp_ge F 73 dX2_isAtRest_38 (by decide) (by omega) (fun c38 => ?_) (fun c38 => ?_)
              · refine q_iload_n F dX2_isAtRest_73 3 rfl ?_
                refine q_iconst F dX2_isAtRest_74 ?_
                refine q_idiv F dX2_isAtRest_75 (by omega) ?_
                refine q_nm (fun v76 e76 => ?_)
                refine q_istore_n F dX2_isAtRest_76 [(3, .int (q_I v76)), (0, .ref (q_ad G w)), (1, .int (q_I S)), (2, .int (q_I r)), (4, .int (q_I st)), (5, .int (q_I g)), (6, .int (q_I v30)), (7, .int (q_I c))] (Nat.le_of_ble_eq_true rfl) rfl ?_
                refine q_iload F dX2_isAtRest_77 4 rfl ?_
                refine q_iconst F dX2_isAtRest_79 ?_
                refine q_imul F dX2_isAtRest_80 ?_
                refine q_nm (fun v81 e81 => ?_)
                refine q_istore F dX2_isAtRest_81 [(4, .int (q_I v81)), (3, .int (q_I v76)), (0, .ref (q_ad G w)), (1, .int (q_I S)), (2, .int (q_I r)), (5, .int (q_I g)), (6, .int (q_I v30)), (7, .int (q_I c))] (Nat.le_of_ble_eq_true rfl) rfl ?_
                obtain ⟨v83, e83⟩ : ∃ z_ : Int, z_ = g + (-1) := ⟨_, rfl⟩
                refine q_iinc F dX2_isAtRest_83 5 rfl e83 [(5, .int (q_I v83)), (4, .int (q_I v81)), (3, .int (q_I v76)), (0, .ref (q_ad G w)), (1, .int (q_I S)), (2, .int (q_I r)), (6, .int (q_I v30)), (7, .int (q_I c))] (Nat.le_of_ble_eq_true rfl) rfl ?_
                refine q_goto F 8 dX2_isAtRest_86 (by decide) ?_
                refine q_drop [3, 4, 5, 2, 1, 0] rfl ?_
                exact ih8_1 _ (by omega) v76 v81 v83 ⟨by omega, fun _ => by
        rw [e83, show g + -1 = g - 1 by omega, hab c10 (by omega), if_pos c19, e76, e81, hrs.1, hrs.2, q_pw_div (by omega)]
        exact ⟨rfl, rfl⟩, fun x h0 h1 => by
        by_cases hx : x = g
        · rw [hx]; unfold q_rstG; rw [c19, Bool.not_true, Bool.false_or]
          exact q_all3_t.mpr (fun y y0 y1 => by simpa using hi35.2 y y0 (by omega))
        · exact hi8.2.2 x (by omega) h1⟩ rfl
              · refine q_aload_n F dX2_isAtRest_41 0 rfl ?_
                refine q_iload F dX2_isAtRest_42 6 rfl ?_
                refine q_iload F dX2_isAtRest_44 7 rfl ?_
                refine q_iload F dX2_isAtRest_46 4 rfl ?_
                refine q_imul F dX2_isAtRest_48 ?_
                refine q_iadd F dX2_isAtRest_49 ?_
                refine q_iload F dX2_isAtRest_50 5 rfl ?_
                refine q_callVP (n := 2) (T := TX2) F (c_X2_worth G hI M w hw _ g (by rw [ebs]; have := hrep (by omega); omega)) rfl rfl hw.1 gX2_isAtRest_X2_worth rfl ⟨by decide, by decide, by decide +kernel⟩ rfl ⟨rfl, rfl, Nat.le_of_ble_eq_true rfl, Nat.le_of_ble_eq_true rfl⟩ rfl (Nat.le_of_ble_eq_true rfl) dX2_isAtRest_52 (fun h52 => ?_)
                refine q_aload_n F dX2_isAtRest_55 0 rfl ?_
                refine q_iload_n F dX2_isAtRest_56 2 rfl ?_
                refine q_iload F dX2_isAtRest_57 5 rfl ?_
                refine q_callVP (n := 2) (T := TX2) F (c_X2_worth G hI M w hw r g (by omega)) rfl rfl hw.1 gX2_isAtRest_X2_worth rfl ⟨by decide, by decide, by decide +kernel⟩ rfl ⟨rfl, rfl, Nat.le_of_ble_eq_true rfl, Nat.le_of_ble_eq_true rfl⟩ rfl (Nat.le_of_ble_eq_true rfl) dX2_isAtRest_59 (fun h59 => ?_)
                refine q_icmp_le F 67 dX2_isAtRest_62 (by decide) (by omega) (fun c62 => ?_) (fun c62 => ?_)
                · obtain ⟨v67, e67⟩ : ∃ z_ : Int, z_ = c + 1 := ⟨_, rfl⟩
                  refine q_iinc F dX2_isAtRest_67 7 rfl e67 [(7, .int (q_I v67)), (0, .ref (q_ad G w)), (1, .int (q_I S)), (2, .int (q_I r)), (3, .int (q_I rs)), (4, .int (q_I st)), (5, .int (q_I g)), (6, .int (q_I v30))] (Nat.le_of_ble_eq_true rfl) rfl ?_
                  refine q_goto F 35 dX2_isAtRest_70 (by decide) ?_
                  refine q_drop [1, 2, 3, 4, 5, 6, 7, 0] rfl ?_
                  exact ih35_2 _ (by omega) v67 ⟨by omega, fun x h0 h1 => by
       by_cases hx : x = c
       · rw [hx, ← ebs]; exact c62
       · exact hi35.2 x h0 (by omega)⟩ rfl
                · refine q_iconst F dX2_isAtRest_65 ?_
                  exact q_zret F FI dX2_isAtRest_66 (by omega) ⟨by
      rw [show q_rst S (fun r g => M (w + 6) (r * 6 + g)) r = false from q_all6_f (x := g) c10 (by omega) (by
        unfold q_rstG
        rw [c19, q_all3_f (x := c) hi35.1.1 c38 (by rw [← ebs]; simpa using c62)]
        rfl)]
      rfl, rfl⟩
          refine q_drop [2, 3, 4, 5, 6, 7, 1, 0] rfl ?_
          exact lp35_2 _ 0 ⟨by omega, fun x h0 h1 => by omega⟩ rfl
  refine q_drop [3, 4, 5, 2, 1, 0] rfl ?_
  exact lp8_1 _ r 1 5 ⟨by omega, fun _ => by rw [q_ab_5 hS.1 hS.2]; simp [q_pw], fun x h0 h1 => by omega⟩ rfl

set_option maxHeartbeats 4000000 in
set_option maxRecDepth 100000 in
theorem c_X2_digitsOf (G : q_G) (hI : q_inj G) (M : q_M) (w : Nat) (hw : q_fe G w) (S : Int) (r : Int) (hS : (0 ≤ S ∧ S ≤ 63) ∧ (0 ≤ r ∧ r ≤ 80)) : q_CI G yX2_digitsOf wsX2_digitsOf ({ frames := 2, cells := 0, slots := 0, locals := 47 } : Room) [.ref (q_ad G w), .int (q_I S), .int (q_I r)] M (fun z M' => z = q_D3 S r ∧ q_fr (w + 1 + 2) M M') := by
  refine q_CI.of hI (by decide) rfl RX2 rfl [(0, .ref (q_ad G w)), (1, .int (q_I S)), (2, .int (q_I r))] rfl (Nat.le_of_ble_eq_true rfl) (fun E F FI => ?_)
  have huX1 : ∀ w ∈ wsX10, w ∈ wsX2_digitsOf := by decide +kernel
  have huX2 : ∀ w ∈ wsX20, w ∈ wsX2_digitsOf := by decide +kernel
  refine q_MRof (fun hM => ?_)
  have hF : ∀ x, q_has S x = true → 0 ≤ (fun x => q_dig S r 3 x * 3) x ∧ (fun x => q_dig S r 3 x * 3) x ≤ 9 := fun x _ => by show 0 ≤ q_dig S r 3 x * 3 ∧ q_dig S r 3 x * 3 ≤ 9; unfold q_dig; omega
  refine q_aload_n F dX2_digitsOf_0 0 rfl ?_
  refine q_getr (T := TX2) (ref := "LeastHungry$Feigning") F huX2 rfl hw.1 0 (by decide) (by decide +kernel) rfl rfl dX2_digitsOf_1 ?_
  refine q_getr (T := TX1) (ref := "LeastHungry$Company") F huX1 rfl hw.2.1.1 1 (by decide) (by decide +kernel) rfl rfl dX2_digitsOf_4 ?_
  refine q_iload_n F dX2_digitsOf_7 1 rfl ?_
  refine q_iload_n F dX2_digitsOf_8 2 rfl ?_
  refine q_iconst F dX2_digitsOf_9 ?_
  refine q_iconst F dX2_digitsOf_10 ?_
  refine q_callNV (n := 5) F (c_X8_spread G hI M ((w + 1) + 2) 6 hw.2.1.2.2.1 S r 3 3 (by omega) (by decide)) rfl gX2_digitsOf_X8_spread_n60 (host := RX8) (by decide +kernel) (by decide +kernel) (by decide +kernel) ⟨by decide, by decide, by decide +kernel⟩ rfl ⟨rfl, rfl, Nat.le_of_ble_eq_true rfl, Nat.le_of_ble_eq_true rfl⟩ rfl (Nat.le_of_ble_eq_true rfl) dX2_digitsOf_11 (fun N11 p11 => ?_)
  refine q_iconst F dX2_digitsOf_14 ?_
  refine q_istore_n F dX2_digitsOf_15 [(3, .int (q_I 0)), (0, .ref (q_ad G w)), (1, .int (q_I S)), (2, .int (q_I r))] (Nat.le_of_ble_eq_true rfl) rfl ?_
  refine q_iconst F dX2_digitsOf_16 ?_
  refine q_istore F dX2_digitsOf_17 [(4, .int (q_I 0)), (3, .int (q_I 0)), (0, .ref (q_ad G w)), (1, .int (q_I S)), (2, .int (q_I r))] (Nat.le_of_ble_eq_true rfl) rfl ?_
  have lp19_1 : ∀ (k19_1 : Nat) (z : Int) (g : Int), ((0 ≤ g ∧ g ≤ 6) ∧ z = q_num S (fun x => q_dig S r 3 x * 3) g.toNat) → (6 - g).toNat = k19_1 → q_Y G E 5 N11 [(0, .ref (q_ad G w)), (1, .int (q_I S)), (2, .int (q_I r)), (3, .int (q_I z)), (4, .int (q_I g))] 19 [] := by
    intro k19_1
    induction k19_1 using Nat.strongRecOn with
    | _ k19_1 ih19_1 =>
      intro z g   hi19 hk19
      have hz := q_num_R6 hF g.toNat (by omega)
      rw [← hi19.2] at hz
      refine q_iload F dX2_digitsOf_19 4 rfl ?_
      refine q_bipush F dX2_digitsOf_21 (by decide) ?_
      refine q_icmp_ge F 59 dX2_digitsOf_23 (by decide) (by omega) (fun c23 => ?_) (fun c23 => ?_)
      · refine q_iload_n F dX2_digitsOf_59 3 rfl ?_
        exact q_iret F FI dX2_digitsOf_60 (by omega) ⟨by rw [hi19.2, show g.toNat = 6 by omega]; rfl, p11.1⟩
      · refine q_iload_n F dX2_digitsOf_26 1 rfl ?_
        refine q_iload F dX2_digitsOf_27 4 rfl ?_
        refine q_callNP (n := 2) F (c_X8_holds G hI N11 S g (by omega)) rfl gX2_digitsOf_X8_holds_n44 (host := RX8) (by decide +kernel) (by decide +kernel) (by decide +kernel) ⟨by decide, by decide, by decide +kernel⟩ rfl ⟨rfl, rfl, Nat.le_of_ble_eq_true rfl, Nat.le_of_ble_eq_true rfl⟩ rfl (Nat.le_of_ble_eq_true rfl) dX2_digitsOf_29 (fun h29 => ?_)
        refine q_ifb_eq F 53 dX2_digitsOf_32 (by decide) (fun c32 => ?_) (fun c32 => ?_)
        · obtain ⟨v53, e53⟩ : ∃ z_ : Int, z_ = g + 1 := ⟨_, rfl⟩
          refine q_iinc F dX2_digitsOf_53 4 rfl e53 [(4, .int (q_I v53)), (0, .ref (q_ad G w)), (1, .int (q_I S)), (2, .int (q_I r)), (3, .int (q_I z))] (Nat.le_of_ble_eq_true rfl) rfl ?_
          refine q_goto F 19 dX2_digitsOf_56 (by decide) ?_
          refine q_drop [1, 2, 3, 4, 0] rfl ?_
          exact ih19_1 _ (by omega) z v53 ⟨by omega, by rw [show v53.toNat = g.toNat + 1 by omega]; unfold q_num; rw [Int.toNat_of_nonneg hi19.1.1, if_neg (by simp [c32])]; exact hi19.2⟩ rfl
        · refine q_iload_n F dX2_digitsOf_35 3 rfl ?_
          refine q_bipush F dX2_digitsOf_36 (by decide) ?_
          refine q_imul F dX2_digitsOf_38 ?_
          refine q_aload_n F dX2_digitsOf_39 0 rfl ?_
          refine q_getr (T := TX2) (ref := "LeastHungry$Feigning") F huX2 rfl hw.1 0 (by decide) (by decide +kernel) rfl rfl dX2_digitsOf_40 ?_
          refine q_getr (T := TX1) (ref := "LeastHungry$Company") F huX1 rfl hw.2.1.1 1 (by decide) (by decide +kernel) rfl rfl dX2_digitsOf_43 ?_
          refine q_iload F dX2_digitsOf_46 4 rfl ?_
          refine q_callNP (n := 2) F (c_X8_at G hI N11 ((w + 1) + 2) 6 hw.2.1.2.2.1 g (by omega)) rfl gX2_digitsOf_X8_at_n29 (host := RX8) (by decide +kernel) (by decide +kernel) (by decide +kernel) ⟨by decide, by decide, by decide +kernel⟩ rfl ⟨rfl, rfl, Nat.le_of_ble_eq_true rfl, Nat.le_of_ble_eq_true rfl⟩ rfl (Nat.le_of_ble_eq_true rfl) dX2_digitsOf_48 (fun h48 => ?_)
          refine q_iadd F dX2_digitsOf_51 ?_
          refine q_nm (fun v52 e52 => ?_)
          refine q_istore_n F dX2_digitsOf_52 [(3, .int (q_I v52)), (0, .ref (q_ad G w)), (1, .int (q_I S)), (2, .int (q_I r)), (4, .int (q_I g))] (Nat.le_of_ble_eq_true rfl) rfl ?_
          obtain ⟨v53, e53⟩ : ∃ z_ : Int, z_ = g + 1 := ⟨_, rfl⟩
          refine q_iinc F dX2_digitsOf_53 4 rfl e53 [(4, .int (q_I v53)), (3, .int (q_I v52)), (0, .ref (q_ad G w)), (1, .int (q_I S)), (2, .int (q_I r))] (Nat.le_of_ble_eq_true rfl) rfl ?_
          refine q_goto F 19 dX2_digitsOf_56 (by decide) ?_
          refine q_drop [2, 3, 4, 1, 0] rfl ?_
          exact ih19_1 _ (by omega) v52 v53 ⟨by omega, by rw [show v53.toNat = g.toNat + 1 by omega]; unfold q_num; rw [Int.toNat_of_nonneg hi19.1.1, if_pos c32, e52, hi19.2, p11.2 g, if_pos c32]⟩ rfl
  refine q_drop [2, 3, 4, 1, 0] rfl ?_
  exact lp19_1 _ 0 0 ⟨by omega, rfl⟩ rfl
