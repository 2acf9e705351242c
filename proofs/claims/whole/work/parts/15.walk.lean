/-! digits laid along a set; a round; a year -/
def q_ab (s x : Int) : Nat := (q_cnt (fun y => q_has s y && decide (x < y))).toNat
def q_dig (s num b x : Int) : Int := num / q_pw b (q_ab s x) % b
theorem q_ab_step {s i : Int} (h0 : 0 ≤ s) (h1 : s ≤ 63) (i0 : 0 ≤ i) (i1 : i < 6) : q_ab s (i - 1) = q_ab s i + (if q_has s i = true then 1 else 0) :=
  q_dec64 (p := fun s => q_ab s (i - 1) = q_ab s i + (if q_has s i = true then 1 else 0)) (q_dec6 (p := fun i => ∀ n : Nat, n < 64 → q_ab (n : Int) (i - 1) = q_ab (n : Int) i + (if q_has (n : Int) i = true then 1 else 0)) (by decide +kernel) i0 i1) h0 h1
theorem q_ab_5 {s : Int} (h0 : 0 ≤ s) (h1 : s ≤ 63) : q_ab s 5 = 0 := q_dec64 (p := fun s => q_ab s 5 = 0) (by decide +kernel) h0 h1
theorem q_ab_4 {s : Int} (h0 : 0 ≤ s) (h1 : s ≤ 31) : q_ab s 4 = 0 := by
  have := q_dec64 (p := fun s => s ≤ 31 → q_ab s 4 = 0) (by decide +kernel) h0 (by omega)
  exact this h1
theorem q_has_31 {s x : Int} (h0 : 0 ≤ s) (h1 : s ≤ 31) (h : q_has s x = true) : x < 5 := by
  have hx := q_has_in h
  by_cases h5 : x = 5
  · subst h5
    have := q_dec64 (p := fun s => s ≤ 31 → q_has s 5 = false) (by decide +kernel) h0 (by omega)
    rw [this h1] at h
    cases h
  · omega
theorem q_pw_pos {b : Int} (hb : 0 < b) : ∀ n : Nat, 0 < q_pw b n
  | 0 => by simp [q_pw]
  | n + 1 => Int.mul_pos (q_pw_pos hb n) hb
theorem q_pw_div {num b : Int} (hb : 0 < b) (n : Nat) : num / q_pw b n / b = num / q_pw b (n + 1) := by
  rw [Int.ediv_ediv_of_nonneg (Int.le_of_lt (q_pw_pos hb n))]
  rfl
theorem q_div_R {num b : Int} (hn : 0 ≤ num) (hb : 0 < b) (n : Nat) : 0 ≤ num / q_pw b n ∧ num / q_pw b n ≤ num :=
  ⟨Int.ediv_nonneg hn (Int.le_of_lt (q_pw_pos hb n)), Int.ediv_le_self _ hn⟩
theorem q_mul_R {u b st : Int} (hu : 0 ≤ u) (hb : b = 3 ∨ b = 6) (hst : st = 1 ∨ st = 3) : 0 ≤ u % b * st ∧ u % b * st ≤ 15 := by
  rcases hb with rfl | rfl <;> rcases hst with rfl | rfl <;> omega
def q_bia (th ke : Int) (s : q_T) (pl p : Int) : q_T := if 0 < p ∧ ¬ q_set (q_ins (qt_a s) th pl) = 0 then q_dish th ke s pl p else s
def q_wg (th : Int) (s : q_T) (g a : Int) : q_T := if q_goW th s g a = 0 then q_goT s g a else s
def q_wst (hr : (Int → Int) → Int → Int) (th ke d g a : Int) (s : q_T) : q_T := q_hoT hr (q_bia th ke (q_bia th ke (q_bia th ke (q_wg th s g a) 0 (d / 100)) 1 (d / 10 % 10)) 2 (d % 10))
def q_wk (hr : (Int → Int) → Int → Int) (th ke d g : Int) (st : Int → Int) : Nat → q_T → q_T
  | 0, s => s
  | n + 1, s => q_wst hr th ke d g (st n) (q_wk hr th ke d g st n s)
def q_dr (hr : (Int → Int) → Int → Int) (th ke x : Int) (s : q_T) : q_T :=
  if x % 4 = 0 then q_hoT hr s else if x % 4 = 1 then q_wg th s (x / 4 % 6) (x / 32 % 3) else if x % 4 = 2 then (if q_has th (x / 4 % 6) = true then q_feT s (x / 4 % 6) (x / 32 % 10) else s)
  else (if q_set (q_ins (qt_a s) th (x / 64 % 3)) = 0 then s else q_dish th ke s (x / 64 % 3) (1 + x / 4 % 9))
def q_yr (hr : (Int → Int) → Int → Int) (th ke : Int) : Nat → Int × q_T → Int × q_T
  | 0, y => y
  | n + 1, y => ((75 * (q_yr hr th ke n y).1 + 74) % 65537, q_dr hr th ke ((75 * (q_yr hr th ke n y).1 + 74) % 65537) (q_yr hr th ke n y).2)
theorem q_bia_sim {th ke pl p : Int} {s s' : q_T} (h : q_sim th s s') : q_sim th (q_bia th ke s pl p) (q_bia th ke s' pl p) := by
  unfold q_bia
  have e : q_set (q_ins (qt_a s) th pl) = q_set (q_ins (qt_a s') th pl) := q_set_congr (fun x _ _ => q_ins_sim (q_sim_R h) x)
  rw [e]
  split
  · exact q_dish_sim h
  · exact h
theorem q_goW_th {th g a : Int} {s : q_T} (h : q_goW th s g a = 0) : q_has th g = true := by
  unfold q_goW at h
  by_cases h5 : q_has th g = true
  · exact h5
  · rw [if_neg h5] at h
    omega
theorem q_wg_sim {th g a : Int} {s s' : q_T} (h : q_sim th s s') : q_sim th (q_wg th s g a) (q_wg th s' g a) := by
  unfold q_wg
  rw [q_goW_sim h]
  by_cases h4 : q_goW th s' g a = 0
  · rw [if_pos h4, if_pos h4]
    exact q_goT_sim h (q_goW_th h4)
  · rw [if_neg h4, if_neg h4]
    exact h
theorem q_wst_sim {th ke d g a : Int} {hr hr' : (Int → Int) → Int → Int} (o : q_hrok hr th) (o' : q_hrok hr' th) {s s' : q_T} (h : q_sim th s s') : q_sim th (q_wst hr th ke d g a s) (q_wst hr' th ke d g a s') :=
  q_hoT_sim o o' (q_bia_sim (q_bia_sim (q_bia_sim (q_wg_sim h))))
theorem q_wk_sim {th ke d g : Int} {st st' : Int → Int} {hr hr' : (Int → Int) → Int → Int} (o : q_hrok hr th) (o' : q_hrok hr' th) : ∀ (n : Nat) {s s' : q_T}, (∀ i : Nat, i < n → st i = st' i) → q_sim th s s' → q_sim th (q_wk hr th ke d g st n s) (q_wk hr' th ke d g st' n s')
  | 0, _, _, _, h => h
  | n + 1, s, s', hst, h => by
    show q_sim th (q_wst hr th ke d g (st n) (q_wk hr th ke d g st n s)) (q_wst hr' th ke d g (st' n) (q_wk hr' th ke d g st' n s'))
    rw [hst n (by omega)]
    exact q_wst_sim o o' (q_wk_sim o o' n (fun i hi => hst i (by omega)) h)
theorem q_dr_sim {th ke x : Int} {hr hr' : (Int → Int) → Int → Int} (o : q_hrok hr th) (o' : q_hrok hr' th) {s s' : q_T} (h : q_sim th s s') : q_sim th (q_dr hr th ke x s) (q_dr hr' th ke x s') := by
  unfold q_dr
  split
  · exact q_hoT_sim o o' h
  · split
    · exact q_wg_sim h
    · split
      · split
        · exact q_feT_sim h
        · exact h
      · have e : q_set (q_ins (qt_a s) th (x / 64 % 3)) = q_set (q_ins (qt_a s') th (x / 64 % 3)) := q_set_congr (fun x _ _ => q_ins_sim (q_sim_R h) x)
        rw [e]
        split
        · exact h
        · exact q_dish_sim h
theorem q_yr_sim {th ke : Int} {hr hr' : (Int → Int) → Int → Int} (o : q_hrok hr th) (o' : q_hrok hr' th) : ∀ (n : Nat) {x : Int} {s s' : q_T}, q_sim th s s' → (q_yr hr th ke n (x, s)).1 = (q_yr hr' th ke n (x, s')).1 ∧ q_sim th (q_yr hr th ke n (x, s)).2 (q_yr hr' th ke n (x, s')).2
  | 0, _, _, _, h => ⟨rfl, h⟩
  | n + 1, x, s, s', h => by
    have ih := q_yr_sim (ke := ke) o o' n (x := x) h
    show (75 * (q_yr hr th ke n (x, s)).1 + 74) % 65537 = (75 * (q_yr hr' th ke n (x, s')).1 + 74) % 65537 ∧ q_sim th (q_dr hr th ke ((75 * (q_yr hr th ke n (x, s)).1 + 74) % 65537) (q_yr hr th ke n (x, s)).2) (q_dr hr' th ke ((75 * (q_yr hr' th ke n (x, s')).1 + 74) % 65537) (q_yr hr' th ke n (x, s')).2)
    rw [ih.1]
    exact ⟨rfl, q_dr_sim o o' ih.2⟩
/-- ranges -/
theorem q_bia_vb {th ke pl p K : Int} {s : q_T} (h : q_Tv s) (hb : q_Tb s K) (hp : p ≤ 9) : q_Tv (q_bia th ke s pl p) ∧ q_Tb (q_bia th ke s pl p) (K + 1) := by
  unfold q_bia
  split
  · exact ⟨q_dish_v h, q_dish_b hb (by omega)⟩
  · exact ⟨h, q_Tb_mono hb (by omega)⟩
theorem q_wg_vb {th g a K : Int} {s : q_T} (h : q_Tv s) (hb : q_Tb s K) (hg : 0 ≤ g ∧ g < 6) (ha : 0 ≤ a ∧ a ≤ 2) : q_Tv (q_wg th s g a) ∧ q_Tb (q_wg th s g a) K := by
  unfold q_wg
  split
  · exact ⟨q_goT_v h hg ha, hb⟩
  · exact ⟨h, hb⟩
theorem q_hoT_vb {K : Int} {s : q_T} {hr : (Int → Int) → Int → Int} (hhr : ∀ h, q_hv h → q_hv (hr h)) (h : q_Tv s) (hb : q_Tb s K) : q_Tv (q_hoT hr s) ∧ q_Tb (q_hoT hr s) K := ⟨⟨hhr _ h.1, h.2.1, h.2.2⟩, hb⟩
theorem q_dr_vb {th ke x K : Int} {s : q_T} {hr : (Int → Int) → Int → Int} (hhr : ∀ h, q_hv h → q_hv (hr h)) (h : q_Tv s) (hb : q_Tb s K) (hx : 0 ≤ x) : q_Tv (q_dr hr th ke x s) ∧ q_Tb (q_dr hr th ke x s) (K + 1) := by
  have m : ∀ {s : q_T}, q_Tb s K → q_Tb s (K + 1) := fun h => q_Tb_mono h (by omega)
  unfold q_dr
  split
  · have := q_hoT_vb hhr h hb
    exact ⟨this.1, m this.2⟩
  · split
    · have := q_wg_vb (th := th) h hb (g := x / 4 % 6) (a := x / 32 % 3) (by omega) (by omega)
      exact ⟨this.1, m this.2⟩
    · split
      · split
        · exact ⟨q_feT_v h (by omega), m hb⟩
        · exact ⟨h, m hb⟩
      · split
        · exact ⟨h, m hb⟩
        · exact ⟨q_dish_v h, q_dish_b hb (by omega)⟩
theorem q_s6_K {f : Int → Int} {g K : Int} (hf : ∀ x, 0 ≤ x → x < 6 → 0 ≤ f x ∧ f x ≤ K) (hK : 0 ≤ K) : 0 ≤ q_s6 (q_lz f g) ∧ q_s6 (q_lz f g) ≤ 6 * K := by
  have hk : ∀ x, 0 ≤ x → x < 6 → 0 ≤ q_lz f g x ∧ q_lz f g x ≤ K := by
    intro x h0 h1
    have := hf x h0 h1
    unfold q_lz
    split <;> omega
  have h0 := hk 0 (by omega) (by omega)
  have h1 := hk 1 (by omega) (by omega)
  have h2 := hk 2 (by omega) (by omega)
  have h3 := hk 3 (by omega) (by omega)
  have h4 := hk 4 (by omega) (by omega)
  have h5 := hk 5 (by omega) (by omega)
  unfold q_s6
  omega
/-- the class's side: a step of a round or a year, the rest as it was -/
def q_wI (M M1 : q_M) (t o : Nat) (K : Int) : Prop := (∀ j, (j < t ∨ t + 8 < j) → M1 j = M j) ∧ (M1 (t + 1) 4 = M o 4 ∧ M1 (t + 1) 5 = M o 5) ∧ q_cv M1 (t + 1) ∧ q_Tb (q_tv M1 t) K
theorem q_wI_s {M M1 N : q_M} {t o : Nat} {K K' : Int} (h : q_wI M M1 t o K) (kp : q_keep M1 N t) (vb : q_Tv (q_tv N t) ∧ q_Tb (q_tv N t) K') : q_wI M N t o K' :=
  ⟨fun j hj => (kp.1 j hj).trans (h.1 j hj), by rw [kp.2.2.1]; exact h.2.1, q_cv_of (by rw [kp.2.2.1]; exact h.2.2.1.1) (by rw [kp.2.2.1]; exact h.2.2.1.2.1) vb.1, vb.2⟩
theorem q_wI_go {M M1 N : q_M} {t o : Nat} {K r g a : Int} (h : q_wI M M1 t o K) (hg : 0 ≤ g ∧ g < 6) (ha : 0 ≤ a ∧ a ≤ 2) (p : r = q_goW (M1 (t + 1) 4) (q_tv M1 t) g a ∧ N = if r = 0 then q_up (q_up M1 (t + 1 + 3) g a) (t + 1 + 1) g (min 20 (M1 (t + 1 + 1) g + 1)) else M1) :
    q_wI M N t o K ∧ q_tv N t = q_wg (M o 4) (q_tv M1 t) g a ∧ q_keep M1 N t := by
  obtain ⟨p1, p2⟩ := p
  rw [h.2.1.1] at p1
  have e : q_tv N t = q_wg (M o 4) (q_tv M1 t) g a ∧ q_keep M1 N t := by
    unfold q_wg
    by_cases hr : r = 0
    · rw [if_pos hr] at p2
      rw [← p1, if_pos hr, p2]
      exact ⟨q_tv_go, q_keep_go⟩
    · rw [if_neg hr] at p2
      rw [← p1, if_neg hr, p2]
      exact ⟨rfl, q_keep_rf⟩
  refine ⟨q_wI_s h e.2 ?_, e.1, e.2⟩
  rw [e.1]
  exact q_wg_vb (q_Tv_of h.2.2.1) h.2.2.2 hg ha
theorem q_wI_bia {M M1 N : q_M} {t o : Nat} {K pl p : Int} (h : q_wI M M1 t o K) (hp : p ≤ 9) (q : q_keep M1 N t ∧ q_tv N t = q_bia (M1 (t + 1) 4) (M1 (t + 1) 5) (q_tv M1 t) pl p) : q_wI M N t o (K + 1) ∧ q_tv N t = q_bia (M o 4) (M o 5) (q_tv M1 t) pl p ∧ q_keep M1 N t := by
  obtain ⟨kp, e⟩ := q
  rw [h.2.1.1, h.2.1.2] at e
  refine ⟨q_wI_s h kp ?_, e, kp⟩
  rw [e]
  exact q_bia_vb (q_Tv_of h.2.2.1) h.2.2.2 hp
theorem q_wI_ho {M M1 N : q_M} {t o : Nat} {K : Int} (h : q_wI M M1 t o K) (q : q_fr (t + 1 + 1) M1 N ∧ N (t + 1 + 1) = q_hrA (M1 (t + 1 + 1))) : q_wI M N t o K ∧ q_tv N t = q_hoT q_hrA (q_tv M1 t) ∧ q_keep M1 N t := by
  have e := q_tv_ho q.1 q.2
  have kp : q_keep M1 N t := q_keep_fr q.1 (by omega)
  refine ⟨q_wI_s h kp ?_, e, kp⟩
  rw [e]
  exact q_hoT_vb (fun h hh => q_hrA_v hh) (q_Tv_of h.2.2.1) h.2.2.2
theorem q_shl_1 {m : Int} (hm : 0 ≤ m ∧ m ≤ 5) : q_shl 1 m = (if m = 0 then 1 else if m = 1 then 2 else if m = 2 then 4 else if m = 3 then 8 else if m = 4 then 16 else 32) := by
  rcases (show m = 0 ∨ m = 1 ∨ m = 2 ∨ m = 3 ∨ m = 4 ∨ m = 5 by omega) with rfl | rfl | rfl | rfl | rfl | rfl <;> decide
theorem q_dig_m {m x way : Int} {f : Int} (hm : 0 ≤ m ∧ m ≤ 5) (h0 : 0 ≤ x) (h1 : x < m) : (if q_has (q_shl 1 m - 1) x = true then q_dig (q_shl 1 m - 1) way 3 x * 1 else f) = way / q_pw 3 (m - 1 - x).toNat % 3 := by
  have h : q_has (q_shl 1 m - 1) x = true ∧ q_ab (q_shl 1 m - 1) x = (m - 1 - x).toNat := by
    rcases (show m = 1 ∨ m = 2 ∨ m = 3 ∨ m = 4 ∨ m = 5 by omega) with rfl | rfl | rfl | rfl | rfl <;> rcases (show x = 0 ∨ x = 1 ∨ x = 2 ∨ x = 3 ∨ x = 4 by omega) with rfl | rfl | rfl | rfl | rfl <;> first | omega | decide +kernel
  rw [if_pos h.1, Int.mul_one]
  unfold q_dig
  rw [h.2]
theorem q_tv_fr8 {M M' : q_M} {t : Nat} (h : q_fr (t + 8) M M') : q_tv M' t = q_tv M t := by
  apply q_T_ext
  · exact h _ (by omega)
  · exact h _ (by omega)
  · exact h _ (by omega)
  · exact h _ (by omega)
  · exact h _ (by omega)
  · show M' t 4 = M t 4
    rw [h t (by omega)]
  · show M' t 5 = M t 5
    rw [h t (by omega)]
  · show M' t 6 = M t 6
    rw [h t (by omega)]
theorem q_shl_R {m : Int} (hm : 0 ≤ m ∧ m ≤ 5) : 1 ≤ q_shl 1 m ∧ q_shl 1 m ≤ 32 := by
  rcases (show m = 0 ∨ m = 1 ∨ m = 2 ∨ m = 3 ∨ m = 4 ∨ m = 5 by omega) with rfl | rfl | rfl | rfl | rfl | rfl <;> decide
set_option maxHeartbeats 4000000 in
set_option maxRecDepth 100000 in
theorem c_X8_spread (G : q_G) (hI : q_inj G) (M : q_M) (k : Nat) (n : Nat) (hk : q_sh G k = some (.inl (false, n))) (s : Int) (num : Int) (b : Int) (st : Int) (hs : (n = 6 ∨ (n = 5 ∧ s ≤ 31)) ∧ (0 ≤ s ∧ s ≤ 63) ∧ (0 ≤ num ∧ num ≤ 100000)) (hb : (b = 3 ∨ b = 6) ∧ (st = 1 ∨ st = 3)) : q_CV G yX8_spread wsX8_spread ({ frames := 1, cells := 0, slots := 0, locals := 21 } : Room) [.ref (q_ad G k), .int (q_I s), .int (q_I num), .int (q_I b), .int (q_I st)] M (fun M' => q_fr k M M' ∧ ∀ x, M' k x = if q_has s x = true then q_dig s num b x * st else M k x) := by
  refine q_CV.of hI (by decide) rfl RX8 rfl [(0, .ref (q_ad G k)), (1, .int (q_I s)), (2, .int (q_I num)), (3, .int (q_I b)), (4, .int (q_I st))] rfl (Nat.le_of_ble_eq_true rfl) (fun E F FV => ?_)
  refine q_MRof (fun hM => ?_)
  refine q_iload_n F dX8_spread_0 2 rfl ?_
  refine q_istore F dX8_spread_1 [(5, .int (q_I num)), (0, .ref (q_ad G k)), (1, .int (q_I s)), (2, .int (q_I num)), (3, .int (q_I b)), (4, .int (q_I st))] (Nat.le_of_ble_eq_true rfl) rfl ?_
  refine q_aload_n F dX8_spread_3 1 rfl ?_
  refine q_alen F (n : Int) hk rfl dX8_spread_4 ?_
  refine q_iconst F dX8_spread_5 ?_
  refine q_isub F dX8_spread_6 ?_
  refine q_nm (fun v7 e7 => ?_)
  refine q_istore F dX8_spread_7 [(6, .int (q_I v7)), (5, .int (q_I num)), (0, .ref (q_ad G k)), (1, .int (q_I s)), (2, .int (q_I num)), (3, .int (q_I b)), (4, .int (q_I st))] (Nat.le_of_ble_eq_true rfl) rfl ?_
  have lp9_1 : ∀ (k9_1 : Nat) (r : Int) (i : Int) (M1 : q_M), ((-1 ≤ i ∧ i < (n : Int)) ∧ r = num / q_pw b (q_ab s i) ∧ q_fr k M M1 ∧ ∀ x, M1 k x = if i < x ∧ q_has s x = true then q_dig s num b x * st else M k x) → (i + 1).toNat = k9_1 → q_Y G E 7 M1 [(0, .ref (q_ad G k)), (1, .int (q_I s)), (2, .int (q_I num)), (3, .int (q_I b)), (4, .int (q_I st)), (5, .int (q_I r)), (6, .int (q_I i))] 9 [] := by
    intro k9_1
    induction k9_1 using Nat.strongRecOn with
    | _ k9_1 ih9_1 =>
      intro r i  M1 hi9 hk9
      refine q_MRof (fun hM9 => ?_)
      have hr0 : 0 ≤ r ∧ r ≤ num := by rw [hi9.2.1]; exact q_div_R hs.2.2.1 (by omega) _
      have hmr := q_mul_R hr0.1 hb.1 hb.2
      have hst := q_ab_step (i := i) hs.2.1.1 hs.2.1.2
      refine q_iload F dX8_spread_9 6 rfl ?_
      refine q_if_lt F 50 dX8_spread_11 (by decide) (by omega) (fun c11 => ?_) (fun c11 => ?_)
      · exact q_vret F FV dX8_spread_50 ⟨hi9.2.2.1, fun x => by
        rw [hi9.2.2.2 x]
        by_cases hx : q_has s x = true
        · rw [if_pos ⟨by have := q_has_in hx; omega, hx⟩, if_pos hx]
        · rw [if_neg (fun h => hx h.2), if_neg hx]⟩
      · refine q_iload_n F dX8_spread_14 3 rfl ?_
        refine q_if_le F 50 dX8_spread_15 (by decide) (by omega) (fun c15 => ?_) (fun c15 => ?_)
        · exact q_vret F FV dX8_spread_50 ⟨hi9.2.2.1, fun x => by
        rw [hi9.2.2.2 x]
        by_cases hx : q_has s x = true
        · rw [if_pos ⟨by have := q_has_in hx; omega, hx⟩, if_pos hx]
        · rw [if_neg (fun h => hx h.2), if_neg hx]⟩
        · refine q_iload_n F dX8_spread_18 1 rfl ?_
          refine q_iload F dX8_spread_19 6 rfl ?_
          refine q_callSP (n := 2) F (c_X8_holds G hI M1 s i (by omega)) rfl gX8_spread_X8_holds ⟨by decide, by decide, by decide +kernel⟩ rfl ⟨rfl, rfl, Nat.le_of_ble_eq_true rfl, Nat.le_of_ble_eq_true rfl⟩ rfl (Nat.le_of_ble_eq_true rfl) dX8_spread_21 (fun h21 => ?_)
          refine q_ifb_eq F 44 dX8_spread_24 (by decide) (fun c24 => ?_) (fun c24 => ?_)
          · obtain ⟨v44, e44⟩ : ∃ z_ : Int, z_ = i + (-1) := ⟨_, rfl⟩
            refine q_iinc F dX8_spread_44 6 rfl e44 [(6, .int (q_I v44)), (0, .ref (q_ad G k)), (1, .int (q_I s)), (2, .int (q_I num)), (3, .int (q_I b)), (4, .int (q_I st)), (5, .int (q_I r))] (Nat.le_of_ble_eq_true rfl) rfl ?_
            refine q_goto F 9 dX8_spread_47 (by decide) ?_
            refine q_drop [1, 2, 3, 4, 5, 6, 0] rfl ?_
            exact ih9_1 _ (by omega) r v44 M1 ⟨by omega, by rw [e44, show i + -1 = i - 1 by omega, hst (by omega) (by omega), if_neg (by simp [c24])]; exact hi9.2.1, hi9.2.2.1, fun x => by
          rw [hi9.2.2.2 x]
          by_cases hl : i < x ∧ q_has s x = true
          · rw [if_pos hl, if_pos ⟨by omega, hl.2⟩]
          · rw [if_neg hl, if_neg]
            intro h
            by_cases hx : x = i
            · rw [hx, c24] at h
              exact absurd h.2 (by decide)
            · exact hl ⟨by omega, h.2⟩⟩ rfl
          · refine q_aload_n F dX8_spread_27 0 rfl ?_
            refine q_iload F dX8_spread_28 6 rfl ?_
            refine q_iload F dX8_spread_30 5 rfl ?_
            refine q_iload_n F dX8_spread_32 3 rfl ?_
            refine q_irem F dX8_spread_33 (by omega) ?_
            refine q_iload F dX8_spread_34 4 rfl ?_
            refine q_imul F dX8_spread_36 ?_
            refine q_iast F hk (by omega) (by omega) (by omega) dX8_spread_37 (fun N37 eN37 => ?_)
            refine q_iload F dX8_spread_38 5 rfl ?_
            refine q_iload_n F dX8_spread_40 3 rfl ?_
            refine q_idiv F dX8_spread_41 (by omega) ?_
            refine q_nm (fun v42 e42 => ?_)
            refine q_istore F dX8_spread_42 [(5, .int (q_I v42)), (0, .ref (q_ad G k)), (1, .int (q_I s)), (2, .int (q_I num)), (3, .int (q_I b)), (4, .int (q_I st)), (6, .int (q_I i))] (Nat.le_of_ble_eq_true rfl) rfl ?_
            obtain ⟨v44, e44⟩ : ∃ z_ : Int, z_ = i + (-1) := ⟨_, rfl⟩
            refine q_iinc F dX8_spread_44 6 rfl e44 [(6, .int (q_I v44)), (5, .int (q_I v42)), (0, .ref (q_ad G k)), (1, .int (q_I s)), (2, .int (q_I num)), (3, .int (q_I b)), (4, .int (q_I st))] (Nat.le_of_ble_eq_true rfl) rfl ?_
            refine q_goto F 9 dX8_spread_47 (by decide) ?_
            refine q_drop [2, 3, 4, 5, 6, 1, 0] rfl ?_
            exact ih9_1 _ (by omega) v42 v44 N37 ⟨by omega, by rw [e42, e44, show i + -1 = i - 1 by omega, hst (by omega) (by omega), if_pos c24, hi9.2.1]; exact q_pw_div (by omega) _, q_fr_tr hi9.2.2.1 (q_fr_up eN37), fun x => by
          rw [eN37, q_up_at]
          by_cases hx : x = i
          · subst hx
            rw [if_pos rfl, if_pos ⟨by omega, c24⟩]
            unfold q_dig
            rw [← hi9.2.1]
          · rw [if_neg hx, hi9.2.2.2 x]
            by_cases hl : i < x ∧ q_has s x = true
            · rw [if_pos hl, if_pos ⟨by omega, hl.2⟩]
            · rw [if_neg hl, if_neg (fun h => hl ⟨by omega, h.2⟩)]⟩ rfl
  refine q_drop [2, 3, 4, 5, 6, 1, 0] rfl ?_
  exact lp9_1 _ num v7 M ⟨by omega, by
    rcases hs.1 with rfl | ⟨rfl, h31⟩
    · rw [e7, show ((6 : Nat) : Int) - 1 = 5 by rfl, q_ab_5 hs.2.1.1 hs.2.1.2]; simp [q_pw]
    · rw [e7, show ((5 : Nat) : Int) - 1 = 4 by rfl, q_ab_4 hs.2.1.1 h31]; simp [q_pw], q_fr_rf, fun x => by
    rw [if_neg]; intro ⟨h1, h2⟩; have h3 := q_has_in h2; rcases hs.1 with rfl | ⟨rfl, h31⟩
    · omega
    · have := q_has_31 hs.2.1.1 h31 h2; omega⟩ rfl

set_option maxHeartbeats 4000000 in
set_option maxRecDepth 100000 in
theorem c_X6_bringIfAny (G : q_G) (hI : q_inj G) (M : q_M) (t : Nat) (ht : q_tr G t) (a : Int) (p : Int) (hv : q_cv M (t + 1)) (K : Int) (hb : q_Tb (q_tv M t) K) (hK : 0 ≤ K ∧ K ≤ 1000) (ha : (0 ≤ a ∧ a ≤ 2) ∧ (0 ≤ p ∧ p ≤ 9)) : q_CV G yX6_bringIfAny wsX6_bringIfAny ({ frames := 5, cells := 0, slots := 0, locals := 117 } : Room) [.ref (q_ad G t), .int (q_I a), .int (q_I p)] M (fun M' => q_keep M M' t ∧ q_tv M' t = q_bia (M (t + 1) 4) (M (t + 1) 5) (q_tv M t) a p) := by
  refine q_CV.of hI (by decide) rfl RX6 rfl [(0, .ref (q_ad G t)), (1, .int (q_I a)), (2, .int (q_I p))] rfl (Nat.le_of_ble_eq_true rfl) (fun E F FV => ?_)
  refine q_MRof (fun hM => ?_)
  have hv4 := hv.1
  have hv5 := hv.2.1
  refine q_iload_n F dX6_bringIfAny_0 2 rfl ?_
  refine q_if_le F 11 dX6_bringIfAny_1 (by decide) (by omega) (fun c1 => ?_) (fun c1 => ?_)
  · exact q_vret F FV dX6_bringIfAny_11 ⟨q_keep_rf, by unfold q_bia; rw [if_neg (fun h => absurd h.1 (by omega))]⟩
  · refine q_aload_n F dX6_bringIfAny_4 0 rfl ?_
    refine q_iload_n F dX6_bringIfAny_5 1 rfl ?_
    refine q_iload_n F dX6_bringIfAny_6 2 rfl ?_
    refine q_callVI (n := 2) (T := TX6) F (c_X6_bring G hI M t ht a p (by assumption) K (by assumption) (by omega) (by omega)) rfl rfl ht.1 gX6_bringIfAny_X6_bring rfl ⟨by decide, by decide, by decide +kernel⟩ rfl ⟨rfl, rfl, Nat.le_of_ble_eq_true rfl, Nat.le_of_ble_eq_true rfl⟩ rfl (Nat.le_of_ble_eq_true rfl) dX6_bringIfAny_7 (fun r7 N7 h7 p7 => ?_)
    refine q_pop F dX6_bringIfAny_10 rfl ?_
    exact q_vret F FV dX6_bringIfAny_11 (by
      refine ⟨p7.1, ?_⟩
      unfold q_bia
      rcases p7.2 with ⟨h1, h2, h3⟩ | ⟨h1, h2, h3⟩
      · rw [if_neg (c := 0 < p ∧ ¬ q_set (q_ins (qt_a (q_tv M t)) (M (t + 1) 4) a) = 0) (fun h => h.2 h1), h3]
      · rw [if_pos (c := 0 < p ∧ ¬ q_set (q_ins (qt_a (q_tv M t)) (M (t + 1) 4) a) = 0) ⟨c1, h1⟩]
        exact h3)

set_option maxHeartbeats 4000000 in
set_option maxRecDepth 100000 in
theorem c_X6_firstStop (G : q_G) (hI : q_inj G) (M : q_M) (t : Nat) (ht : q_tr G t) : q_CI G yX6_firstStop wsX6_firstStop ({ frames := 1, cells := 0, slots := 0, locals := 21 } : Room) [.ref (q_ad G t)] M (fun z M' => z = M (t + 8) 0 ∧ M' = M) := by
  refine q_CI.of hI (by decide) rfl RX6 rfl [(0, .ref (q_ad G t))] rfl (Nat.le_of_ble_eq_true rfl) (fun E F FI => ?_)
  have huX6 : ∀ w ∈ wsX60, w ∈ wsX6_firstStop := by decide +kernel
  refine q_MRof (fun hM => ?_)
  refine q_aload_n F dX6_firstStop_0 0 rfl ?_
  refine q_getr (T := TX6) (ref := "LeastHungry$Trial") F huX6 rfl ht.1 3 (by decide) (by decide +kernel) rfl rfl dX6_firstStop_1 ?_
  refine q_iconst F dX6_firstStop_4 ?_
  refine q_callNP (n := 2) F (c_X8_at G hI M (t + 8) 5 ht.2.2.2.2 0 (by omega)) rfl gX6_firstStop_X8_at_n102 (host := RX8) (by decide +kernel) (by decide +kernel) (by decide +kernel) ⟨by decide, by decide, by decide +kernel⟩ rfl ⟨rfl, rfl, Nat.le_of_ble_eq_true rfl, Nat.le_of_ble_eq_true rfl⟩ rfl (Nat.le_of_ble_eq_true rfl) dX6_firstStop_5 (fun h5 => ?_)
  exact q_iret F FI dX6_firstStop_8 (by omega) ⟨rfl, rfl⟩

set_option maxHeartbeats 4000000 in
set_option maxRecDepth 100000 in
theorem c_X6_portionsOfAll (G : q_G) (hI : q_inj G) (M : q_M) (t : Nat) (ht : q_tr G t) (K : Int) (hb : q_Tb (q_tv M t) K) (hK : 0 ≤ K ∧ K ≤ 1000) : q_CI G yX6_portionsOfAll wsX6_portionsOfAll ({ frames := 0, cells := 0, slots := 0, locals := 0 } : Room) [.ref (q_ad G t)] M (fun z M' => z = q_s6 (M (t + 6)) ∧ M' = M) := by
  refine q_CI.of hI (by decide) rfl RX6 rfl [(0, .ref (q_ad G t))] rfl (Nat.le_of_ble_eq_true rfl) (fun E F FI => ?_)
  have huX6 : ∀ w ∈ wsX60, w ∈ wsX6_portionsOfAll := by decide +kernel
  refine q_MRof (fun hM => ?_)
  have hR : ∀ x, 0 ≤ x → x < 6 → 0 ≤ M (t + 6) x ∧ M (t + 6) x ≤ K := fun x h0 h1 => (hb.1 x h0 h1).1
  refine q_iconst F dX6_portionsOfAll_0 ?_
  refine q_istore_n F dX6_portionsOfAll_1 [(1, .int (q_I 0)), (0, .ref (q_ad G t))] (Nat.le_of_ble_eq_true rfl) rfl ?_
  refine q_iconst F dX6_portionsOfAll_2 ?_
  refine q_istore_n F dX6_portionsOfAll_3 [(2, .int (q_I 0)), (1, .int (q_I 0)), (0, .ref (q_ad G t))] (Nat.le_of_ble_eq_true rfl) rfl ?_
  have lp4_1 : ∀ (k4_1 : Nat) (z : Int) (g : Int), (0 ≤ g ∧ g ≤ 6 ∧ z = q_s6 (q_lz (M (t + 6)) g)) → (6 - g).toNat = k4_1 → q_Y G E 3 M [(0, .ref (q_ad G t)), (1, .int (q_I z)), (2, .int (q_I g))] 4 [] := by
    intro k4_1
    induction k4_1 using Nat.strongRecOn with
    | _ k4_1 ih4_1 =>
      intro z g   hi4 hk4
      have hz : 0 ≤ z ∧ z ≤ 6 * K := by rw [hi4.2.2]; exact q_s6_K hR hK.1
      refine q_iload_n F dX6_portionsOfAll_4 2 rfl ?_
      refine q_aload_n F dX6_portionsOfAll_5 0 rfl ?_
      refine q_getr (T := TX6) (ref := "LeastHungry$Trial") F huX6 rfl ht.1 1 (by decide) (by decide +kernel) rfl rfl dX6_portionsOfAll_6 ?_
      refine q_alen F 6 ht.2.2.1 rfl dX6_portionsOfAll_9 ?_
      refine q_icmp_ge F 28 dX6_portionsOfAll_10 (by decide) (by omega) (fun c10 => ?_) (fun c10 => ?_)
      · refine q_iload_n F dX6_portionsOfAll_28 1 rfl ?_
        exact q_iret F FI dX6_portionsOfAll_29 (by omega) (by obtain ⟨h1, h2, h3⟩ := hi4; rw [h3, show g = 6 by omega, q_s6_6]; exact ⟨rfl, rfl⟩)
      · refine q_iload_n F dX6_portionsOfAll_13 1 rfl ?_
        refine q_aload_n F dX6_portionsOfAll_14 0 rfl ?_
        refine q_getr (T := TX6) (ref := "LeastHungry$Trial") F huX6 rfl ht.1 1 (by decide) (by decide +kernel) rfl rfl dX6_portionsOfAll_15 ?_
        refine q_iload_n F dX6_portionsOfAll_18 2 rfl ?_
        refine q_iald F ht.2.2.1 (Nat.le_of_ble_eq_true rfl) (by omega) dX6_portionsOfAll_19 (fun h19 => ?_)
        refine q_iadd F dX6_portionsOfAll_20 ?_
        refine q_nm (fun v21 e21 => ?_)
        refine q_istore_n F dX6_portionsOfAll_21 [(1, .int (q_I v21)), (0, .ref (q_ad G t)), (2, .int (q_I g))] (Nat.le_of_ble_eq_true rfl) rfl ?_
        obtain ⟨v22, e22⟩ : ∃ z_ : Int, z_ = g + 1 := ⟨_, rfl⟩
        refine q_iinc F dX6_portionsOfAll_22 2 rfl e22 [(2, .int (q_I v22)), (1, .int (q_I v21)), (0, .ref (q_ad G t))] (Nat.le_of_ble_eq_true rfl) rfl ?_
        refine q_goto F 4 dX6_portionsOfAll_25 (by decide) ?_
        refine q_drop [2, 1, 0] rfl ?_
        exact ih4_1 _ (by omega) v21 v22 (by obtain ⟨h1, h2, h3⟩ := hi4; refine ⟨by omega, by omega, ?_⟩; rw [e22, q_s6_step _ (by omega) (by omega), e21, h3]) rfl
  refine q_drop [2, 1, 0] rfl ?_
  exact lp4_1 _ 0 0 ⟨by omega, by omega, (q_s6_0 _).symm⟩ rfl

set_option maxHeartbeats 4000000 in
set_option maxRecDepth 100000 in
theorem c_X6_actDrawn (G : q_G) (hI : q_inj G) (M : q_M) (t : Nat) (ht : q_tr G t) (x : Int) (hv : q_cv M (t + 1)) (K : Int) (hb : q_Tb (q_tv M t) K) (hK : 0 ≤ K ∧ K ≤ 1000) (hx : 0 ≤ x ∧ x ≤ 65536) : q_CV G yX6_actDrawn wsX6_actDrawn ({ frames := 5, cells := 0, slots := 0, locals := 117 } : Room) [.ref (q_ad G t), .int (q_I x)] M (fun M' => q_keep M M' t ∧ q_tv M' t = q_dr q_hrA (M (t + 1) 4) (M (t + 1) 5) x (q_tv M t)) := by
  refine q_CV.of hI (by decide) rfl RX6 rfl [(0, .ref (q_ad G t)), (1, .int (q_I x))] rfl (Nat.le_of_ble_eq_true rfl) (fun E F FV => ?_)
  have huX6 : ∀ w ∈ wsX60, w ∈ wsX6_actDrawn := by decide +kernel
  refine q_MRof (fun hM => ?_)
  have hv4 := hv.1
  have hv5 := hv.2.1
  refine q_iload_n F dX6_actDrawn_0 1 rfl ?_
  refine q_iconst F dX6_actDrawn_1 ?_
  refine q_irem F dX6_actDrawn_2 (by omega) ?_
  refine q_nm (fun v3 e3 => ?_)
  rcases (show v3 = 0 ∨ v3 = 1 ∨ v3 = 2 ∨ (v3 < 0 ∨ 2 < v3) by omega) with c3 | c3 | c3 | c3
  · refine q_tableIn F 0 28 dX6_actDrawn_3 c3 (by decide) rfl (by decide) ?_
    refine q_aload_n F dX6_actDrawn_28 0 rfl ?_
    refine q_getr (T := TX6) (ref := "LeastHungry$Trial") F huX6 rfl ht.1 0 (by decide) (by decide +kernel) rfl rfl dX6_actDrawn_29 ?_
    refine q_callVV (n := 0) (T := TX1) F (c_X1_passHour G hI M (t + 1) ht.2.1 (by assumption)) rfl rfl ht.2.1.1 gX6_actDrawn_X1_passHour rfl ⟨by decide, by decide, by decide +kernel⟩ rfl ⟨rfl, rfl, Nat.le_of_ble_eq_true rfl, Nat.le_of_ble_eq_true rfl⟩ rfl (Nat.le_of_ble_eq_true rfl) dX6_actDrawn_32 (fun N32 p32 => ?_)
    refine q_goto F 98 dX6_actDrawn_35 (by decide) ?_
    exact q_vret F FV dX6_actDrawn_98 ⟨q_keep_fr p32.1 (by omega), by unfold q_dr; rw [← e3, if_pos c3]; exact q_tv_ho p32.1 p32.2⟩
  · refine q_tableIn F 1 38 dX6_actDrawn_3 c3 (by decide) rfl (by decide) ?_
    refine q_aload_n F dX6_actDrawn_38 0 rfl ?_
    refine q_iload_n F dX6_actDrawn_39 1 rfl ?_
    refine q_iconst F dX6_actDrawn_40 ?_
    refine q_idiv F dX6_actDrawn_41 (by omega) ?_
    refine q_bipush F dX6_actDrawn_42 (by decide) ?_
    refine q_irem F dX6_actDrawn_44 (by omega) ?_
    refine q_iload_n F dX6_actDrawn_45 1 rfl ?_
    refine q_bipush F dX6_actDrawn_46 (by decide) ?_
    refine q_idiv F dX6_actDrawn_48 (by omega) ?_
    refine q_iconst F dX6_actDrawn_49 ?_
    refine q_irem F dX6_actDrawn_50 (by omega) ?_
    refine q_callVI (n := 2) (T := TX6) F (c_X6_go G hI M t ht _ _ (by assumption) (by omega)) rfl rfl ht.1 gX6_actDrawn_X6_go rfl ⟨by decide, by decide, by decide +kernel⟩ rfl ⟨rfl, rfl, Nat.le_of_ble_eq_true rfl, Nat.le_of_ble_eq_true rfl⟩ rfl (Nat.le_of_ble_eq_true rfl) dX6_actDrawn_51 (fun r51 N51 h51 p51 => ?_)
    refine q_pop F dX6_actDrawn_54 rfl ?_
    refine q_goto F 98 dX6_actDrawn_55 (by decide) ?_
    exact q_vret F FV dX6_actDrawn_98 (by
      have h := q_wI_go (M := M) (o := t + 1) ⟨fun _ _ => rfl, ⟨rfl, rfl⟩, hv, hb⟩ (by omega) (by omega) p51
      refine ⟨h.2.2, ?_⟩
      unfold q_dr
      rw [← e3, if_neg (by omega), if_pos c3]
      exact h.2.1)
  · refine q_tableIn F 2 58 dX6_actDrawn_3 c3 (by decide) rfl (by decide) ?_
    refine q_aload_n F dX6_actDrawn_58 0 rfl ?_
    refine q_iload_n F dX6_actDrawn_59 1 rfl ?_
    refine q_iconst F dX6_actDrawn_60 ?_
    refine q_idiv F dX6_actDrawn_61 (by omega) ?_
    refine q_bipush F dX6_actDrawn_62 (by decide) ?_
    refine q_irem F dX6_actDrawn_64 (by omega) ?_
    refine q_iload_n F dX6_actDrawn_65 1 rfl ?_
    refine q_bipush F dX6_actDrawn_66 (by decide) ?_
    refine q_idiv F dX6_actDrawn_68 (by omega) ?_
    refine q_bipush F dX6_actDrawn_69 (by decide) ?_
    refine q_irem F dX6_actDrawn_71 (by omega) ?_
    refine q_callVI (n := 2) (T := TX6) F (c_X6_pretend G hI M t ht _ _ (by assumption) (by omega)) rfl rfl ht.1 gX6_actDrawn_X6_pretend rfl ⟨by decide, by decide, by decide +kernel⟩ rfl ⟨rfl, rfl, Nat.le_of_ble_eq_true rfl, Nat.le_of_ble_eq_true rfl⟩ rfl (Nat.le_of_ble_eq_true rfl) dX6_actDrawn_72 (fun r72 N72 h72 p72 => ?_)
    refine q_pop F dX6_actDrawn_75 rfl ?_
    refine q_goto F 98 dX6_actDrawn_76 (by decide) ?_
    exact q_vret F FV dX6_actDrawn_98 (by
      obtain ⟨q1, q2⟩ := p72
      unfold q_dr
      rw [← e3, if_neg (by omega), if_neg (by omega), if_pos c3]
      by_cases hz : q_has (M (t + 1) 4) (x / 4 % 6) = true
      · rw [if_pos hz] at q1 ⊢
        rw [if_pos q1] at q2
        exact ⟨by rw [q2]; exact q_keep_up (by omega) (by omega), by rw [q2]; exact q_tv_fe⟩
      · rw [if_neg hz] at q1 ⊢
        rw [if_neg (by omega)] at q2
        exact ⟨by rw [q2]; exact q_keep_rf, by rw [q2]⟩)
  · refine q_tableOut F 79 dX6_actDrawn_3 (by omega) (by decide) ?_
    refine q_aload_n F dX6_actDrawn_79 0 rfl ?_
    refine q_iload_n F dX6_actDrawn_80 1 rfl ?_
    refine q_bipush F dX6_actDrawn_81 (by decide) ?_
    refine q_idiv F dX6_actDrawn_83 (by omega) ?_
    refine q_iconst F dX6_actDrawn_84 ?_
    refine q_irem F dX6_actDrawn_85 (by omega) ?_
    refine q_iconst F dX6_actDrawn_86 ?_
    refine q_iload_n F dX6_actDrawn_87 1 rfl ?_
    refine q_iconst F dX6_actDrawn_88 ?_
    refine q_idiv F dX6_actDrawn_89 (by omega) ?_
    refine q_bipush F dX6_actDrawn_90 (by decide) ?_
    refine q_irem F dX6_actDrawn_92 (by omega) ?_
    refine q_iadd F dX6_actDrawn_93 ?_
    refine q_callVI (n := 2) (T := TX6) F (c_X6_bring G hI M t ht _ _ (by assumption) K (by assumption) (by omega) (by omega)) rfl rfl ht.1 gX6_actDrawn_X6_bring rfl ⟨by decide, by decide, by decide +kernel⟩ rfl ⟨rfl, rfl, Nat.le_of_ble_eq_true rfl, Nat.le_of_ble_eq_true rfl⟩ rfl (Nat.le_of_ble_eq_true rfl) dX6_actDrawn_94 (fun r94 N94 h94 p94 => ?_)
    refine q_pop F dX6_actDrawn_97 rfl ?_
    exact q_vret F FV dX6_actDrawn_98 (by
      refine ⟨p94.1, ?_⟩
      unfold q_dr
      rw [← e3, if_neg (by omega), if_neg (by omega), if_neg (by omega)]
      rcases p94.2 with ⟨h1, h2, h3⟩ | ⟨h1, h2, h3⟩
      · rw [if_pos (c := q_set (q_ins (qt_a (q_tv M t)) (M (t + 1) 4) (x / 64 % 3)) = 0) h1, h3]
      · rw [if_neg (c := q_set (q_ins (qt_a (q_tv M t)) (M (t + 1) 4) (x / 64 % 3)) = 0) h1]
        exact h3)

set_option maxHeartbeats 4000000 in
set_option maxRecDepth 100000 in
theorem c_X6_draw (G : q_G) (hI : q_inj G) (M : q_M) (t : Nat) (ht : q_tr G t) (o : Nat) (ho : q_co G o) (seed : Int) (m : Int) (hvo : q_cv M o) (hd : o + 4 < t) (hm : (0 ≤ seed ∧ seed ≤ 9999) ∧ (1 ≤ m ∧ m ≤ 99)) : q_CV G yX6_draw wsX6_draw ({ frames := 6, cells := 0, slots := 0, locals := 138 } : Room) [.ref (q_ad G t), .ref (q_ad G o), .int (q_I seed), .int (q_I m)] M (fun M' => q_wI M M' t o 99 ∧ q_sim (M o 4) (q_tv M' t) (q_yr (q_hrT (M o 4)) (M o 4) (M o 5) m.toNat (seed, q_T0 (M (o + 1)) (M (o + 2)) (M (o + 3)))).2) := by
  refine q_CV.of hI (by decide) rfl RX6 rfl [(0, .ref (q_ad G t)), (1, .ref (q_ad G o)), (2, .int (q_I seed)), (3, .int (q_I m))] rfl (Nat.le_of_ble_eq_true rfl) (fun E F FV => ?_)
  refine q_MRof (fun hM => ?_)
  refine q_aload_n F dX6_draw_0 0 rfl ?_
  refine q_aload_n F dX6_draw_1 1 rfl ?_
  refine q_callVV (n := 1) (T := TX6) F (c_X6_begin G hI M t ht o ho (by assumption) (by omega)) rfl rfl ht.1 gX6_draw_X6_begin rfl ⟨by decide, by decide, by decide +kernel⟩ rfl ⟨rfl, rfl, Nat.le_of_ble_eq_true rfl, Nat.le_of_ble_eq_true rfl⟩ rfl (Nat.le_of_ble_eq_true rfl) dX6_draw_2 (fun N2 p2 => ?_)
  refine q_iload_n F dX6_draw_5 2 rfl ?_
  refine q_istore F dX6_draw_6 [(4, .int (q_I seed)), (0, .ref (q_ad G t)), (1, .ref (q_ad G o)), (2, .int (q_I seed)), (3, .int (q_I m))] (Nat.le_of_ble_eq_true rfl) rfl ?_
  refine q_iconst F dX6_draw_8 ?_
  refine q_istore F dX6_draw_9 [(5, .int (q_I 0)), (4, .int (q_I seed)), (0, .ref (q_ad G t)), (1, .ref (q_ad G o)), (2, .int (q_I seed)), (3, .int (q_I m))] (Nat.le_of_ble_eq_true rfl) rfl ?_
  have lp11_1 : ∀ (k11_1 : Nat) (x : Int) (i : Int) (M1 : q_M), ((0 ≤ i ∧ i ≤ m) ∧ (0 ≤ x ∧ x ≤ 65536) ∧ q_wI M M1 t o i ∧ (x, q_tv M1 t) = q_yr q_hrA (M o 4) (M o 5) i.toNat (seed, q_tv N2 t)) → (m - i).toNat = k11_1 → q_Y G E 6 M1 [(0, .ref (q_ad G t)), (1, .ref (q_ad G o)), (2, .int (q_I seed)), (3, .int (q_I m)), (4, .int (q_I x)), (5, .int (q_I i))] 11 [] := by
    intro k11_1
    induction k11_1 using Nat.strongRecOn with
    | _ k11_1 ih11_1 =>
      intro x i  M1 hi11 hk11
      refine q_MRof (fun hM11 => ?_)
      refine q_iload F dX6_draw_11 5 rfl ?_
      refine q_iload_n F dX6_draw_13 3 rfl ?_
      refine q_icmp_ge F 42 dX6_draw_14 (by decide) (by omega) (fun c14 => ?_) (fun c14 => ?_)
      · exact q_vret F FV dX6_draw_42 (by
      have h := q_yr_sim (ke := M o 5) q_hrA_ok q_hrT_ok m.toNat (x := seed) p2.2.2.2.1
      rw [show m = i by omega, ← hi11.2.2.2] at h
      rw [show m = i by omega]
      exact ⟨⟨hi11.2.2.1.1, hi11.2.2.1.2.1, hi11.2.2.1.2.2.1, q_Tb_mono hi11.2.2.1.2.2.2 (by omega)⟩, h.2⟩)
      · refine q_bipush F dX6_draw_17 (by decide) ?_
        refine q_iload F dX6_draw_19 4 rfl ?_
        refine q_imul F dX6_draw_21 ?_
        refine q_bipush F dX6_draw_22 (by decide) ?_
        refine q_iadd F dX6_draw_24 ?_
        refine q_ldc (n := 65537) F dX6_draw_25 (by decide +kernel) ?_
        refine q_irem F dX6_draw_27 (by omega) ?_
        refine q_nm (fun v28 e28 => ?_)
        refine q_istore F dX6_draw_28 [(4, .int (q_I v28)), (0, .ref (q_ad G t)), (1, .ref (q_ad G o)), (2, .int (q_I seed)), (3, .int (q_I m)), (5, .int (q_I i))] (Nat.le_of_ble_eq_true rfl) rfl ?_
        refine q_aload_n F dX6_draw_30 1 rfl ?_
        refine q_iload F dX6_draw_31 0 rfl ?_
        refine q_callVV (n := 1) (T := TX6) F (c_X6_actDrawn G hI M1 t ht v28 hi11.2.2.1.2.2.1 i hi11.2.2.1.2.2.2 (by omega) (by omega)) rfl rfl ht.1 gX6_draw_X6_actDrawn rfl ⟨by decide, by decide, by decide +kernel⟩ rfl ⟨rfl, rfl, Nat.le_of_ble_eq_true rfl, Nat.le_of_ble_eq_true rfl⟩ rfl (Nat.le_of_ble_eq_true rfl) dX6_draw_33 (fun N33 p33 => ?_)
        obtain ⟨v36, e36⟩ : ∃ z_ : Int, z_ = i + 1 := ⟨_, rfl⟩
        refine q_iinc F dX6_draw_36 5 rfl e36 [(5, .int (q_I v36)), (4, .int (q_I v28)), (0, .ref (q_ad G t)), (1, .ref (q_ad G o)), (2, .int (q_I seed)), (3, .int (q_I m))] (Nat.le_of_ble_eq_true rfl) rfl ?_
        refine q_goto F 11 dX6_draw_39 (by decide) ?_
        refine q_drop [2, 3, 4, 5, 1, 0] rfl ?_
        have hw : q_tv N33 t = q_dr q_hrA (M o 4) (M o 5) v28 (q_tv M1 t) := by rw [p33.2, hi11.2.2.1.2.1.1, hi11.2.2.1.2.1.2]
        exact ih11_1 _ (by omega) v28 v36 N33 ⟨by omega, by omega, by
      rw [e36]
      refine q_wI_s hi11.2.2.1 p33.1 ?_
      rw [hw]
      exact q_dr_vb (fun h hh => q_hrA_v hh) (q_Tv_of hi11.2.2.1.2.2.1) hi11.2.2.1.2.2.2 (by omega), by
      rw [show v36.toNat = i.toNat + 1 by omega, hw, e28]
      have h4 := hi11.2.2.2
      unfold q_yr
      rw [← h4]⟩ rfl
  refine q_drop [2, 3, 4, 5, 1, 0] rfl ?_
  exact lp11_1 _ seed 0 N2 ⟨by omega, by omega, ⟨p2.1, p2.2.1, p2.2.2.1, p2.2.2.2.2.1⟩, rfl⟩ rfl

set_option maxHeartbeats 4000000 in
set_option maxRecDepth 100000 in
theorem c_X6_walk (G : q_G) (hI : q_inj G) (M : q_M) (t : Nat) (ht : q_tr G t) (o : Nat) (ho : q_co G o) (g : Int) (m : Int) (d : Int) (way : Int) (hvo : q_cv M o) (hd : o + 4 < t) (hm : (0 ≤ g ∧ g < 6) ∧ (0 ≤ m ∧ m ≤ 5) ∧ (0 ≤ d ∧ d ≤ 999) ∧ (0 ≤ way ∧ way ≤ 242)) (hg : q_has (M o 4) g = true) : q_CI G yX6_walk wsX6_walk ({ frames := 6, cells := 0, slots := 0, locals := 139 } : Room) [.ref (q_ad G t), .ref (q_ad G o), .int (q_I g), .int (q_I m), .int (q_I d), .int (q_I way)] M (fun z M' => z = qt_h (q_wk (q_hrT (M o 4)) (M o 4) (M o 5) d g (fun x => way / q_pw 3 (m - 1 - x).toNat % 3) m.toNat (q_T0 (M (o + 1)) (M (o + 2)) (M (o + 3)))) g ∧ (∀ j, (j < t ∨ t + 8 < j) → M' j = M j) ∧ (0 < m → M' (t + 8) 0 = way / q_pw 3 (m - 1).toNat % 3)) := by
  refine q_CI.of hI (by decide) rfl RX6 rfl [(0, .ref (q_ad G t)), (1, .ref (q_ad G o)), (2, .int (q_I g)), (3, .int (q_I m)), (4, .int (q_I d)), (5, .int (q_I way))] rfl (Nat.le_of_ble_eq_true rfl) (fun E F FI => ?_)
  have huX1 : ∀ w ∈ wsX10, w ∈ wsX6_walk := by decide +kernel
  have huX6 : ∀ w ∈ wsX60, w ∈ wsX6_walk := by decide +kernel
  refine q_MRof (fun hM => ?_)
  refine q_aload_n F dX6_walk_0 0 rfl ?_
  refine q_aload_n F dX6_walk_1 1 rfl ?_
  refine q_callVV (n := 1) (T := TX6) F (c_X6_begin G hI M t ht o ho (by assumption) (by omega)) rfl rfl ht.1 gX6_walk_X6_begin rfl ⟨by decide, by decide, by decide +kernel⟩ rfl ⟨rfl, rfl, Nat.le_of_ble_eq_true rfl, Nat.le_of_ble_eq_true rfl⟩ rfl (Nat.le_of_ble_eq_true rfl) dX6_walk_2 (fun N2 p2 => ?_)
  refine q_aload_n F dX6_walk_5 0 rfl ?_
  refine q_getr (T := TX6) (ref := "LeastHungry$Trial") F huX6 rfl ht.1 3 (by decide) (by decide +kernel) rfl rfl dX6_walk_6 ?_
  refine q_iconst F dX6_walk_9 ?_
  refine q_iload_n F dX6_walk_10 3 rfl ?_
  refine q_ishl F dX6_walk_11 (fun z11 e11 h11 => ?_)
  have hz11 : 1 ≤ z11 ∧ z11 ≤ 32 := by rw [e11]; exact q_shl_R hm.2.1
  refine q_iconst F dX6_walk_12 ?_
  refine q_isub F dX6_walk_13 ?_
  refine q_iload F dX6_walk_14 5 rfl ?_
  refine q_iconst F dX6_walk_16 ?_
  refine q_iconst F dX6_walk_17 ?_
  refine q_callNV (n := 5) F (c_X8_spread G hI N2 (t + 8) 5 ht.2.2.2.2 _ way 3 1 (by omega) (by decide)) rfl gX6_walk_X8_spread_n144 (host := RX8) (by decide +kernel) (by decide +kernel) (by decide +kernel) ⟨by decide, by decide, by decide +kernel⟩ rfl ⟨rfl, rfl, Nat.le_of_ble_eq_true rfl, Nat.le_of_ble_eq_true rfl⟩ rfl (Nat.le_of_ble_eq_true rfl) dX6_walk_18 (fun N18 p18 => ?_)
  have hst : ∀ x, 0 ≤ x → x < m → N18 (t + 8) x = way / q_pw 3 (m - 1 - x).toNat % 3 := fun x h0 h1 => by rw [p18.2 x, e11]; exact q_dig_m hm.2.1 h0 h1
  have tv18 : q_tv N18 t = q_tv N2 t := q_tv_fr8 p18.1
  have w18 : q_wI M N18 t o 0 := ⟨fun j hj => by rw [p18.1 j (by omega)]; exact p2.1 j hj, by rw [p18.1 _ (by omega)]; exact p2.2.1, q_cv_fr p2.2.2.1 p18.1 (by omega), by rw [tv18]; exact p2.2.2.2.2.1⟩
  refine q_iconst F dX6_walk_21 ?_
  refine q_istore F dX6_walk_22 [(6, .int (q_I 0)), (0, .ref (q_ad G t)), (1, .ref (q_ad G o)), (2, .int (q_I g)), (3, .int (q_I m)), (4, .int (q_I d)), (5, .int (q_I way))] (Nat.le_of_ble_eq_true rfl) rfl ?_
  have lp24_1 : ∀ (k24_1 : Nat) (i : Int) (M1 : q_M), ((0 ≤ i ∧ i ≤ m) ∧ q_wI M M1 t o (3 * i) ∧ q_tv M1 t = q_wk q_hrA (M o 4) (M o 5) d g (N18 (t + 8)) i.toNat (q_tv N2 t) ∧ M1 (t + 8) = N18 (t + 8)) → (m - i).toNat = k24_1 → q_Y G E 7 M1 [(0, .ref (q_ad G t)), (1, .ref (q_ad G o)), (2, .int (q_I g)), (3, .int (q_I m)), (4, .int (q_I d)), (6, .int (q_I i))] 24 [] := by
    intro k24_1
    induction k24_1 using Nat.strongRecOn with
    | _ k24_1 ih24_1 =>
      intro i  M1 hi24 hk24
      refine q_MRof (fun hM24 => ?_)
      refine q_iload F dX6_walk_24 5 rfl ?_
      refine q_iload_n F dX6_walk_26 3 rfl ?_
      refine q_icmp_ge F 91 dX6_walk_27 (by decide) (by omega) (fun c27 => ?_) (fun c27 => ?_)
      · refine q_aload_n F dX6_walk_91 0 rfl ?_
        refine q_getr (T := TX6) (ref := "LeastHungry$Trial") F huX6 rfl ht.1 0 (by decide) (by decide +kernel) rfl rfl dX6_walk_92 ?_
        refine q_getr (T := TX1) (ref := "LeastHungry$Company") F huX1 rfl ht.2.1.1 0 (by decide) (by decide +kernel) rfl rfl dX6_walk_95 ?_
        refine q_iload_n F dX6_walk_98 2 rfl ?_
        refine q_callNP (n := 2) F (c_X8_at G hI M1 ((t + 1) + 1) 6 ht.2.1.2.1 g (by omega)) rfl gX6_walk_X8_at_n102 (host := RX8) (by decide +kernel) (by decide +kernel) (by decide +kernel) ⟨by decide, by decide, by decide +kernel⟩ rfl ⟨rfl, rfl, Nat.le_of_ble_eq_true rfl, Nat.le_of_ble_eq_true rfl⟩ rfl (Nat.le_of_ble_eq_true rfl) dX6_walk_99 (fun h99 => ?_)
        exact q_iret F FI dX6_walk_102 (by omega) (by
      have hsim := q_wk_sim (ke := M o 5) (d := d) (g := g) (st := N18 (t + 8)) (st' := fun x => way / q_pw 3 (m - 1 - x).toNat % 3) q_hrA_ok q_hrT_ok m.toNat (fun j hj => hst j (by omega) (by omega)) p2.2.2.2.1
      rw [show i = m by omega] at hi24
      rw [← hi24.2.2.1] at hsim
      refine ⟨(hsim.1 g hg).1, hi24.2.1.1, fun h => ?_⟩
      rw [hi24.2.2.2, hst 0 (by omega) h, show m - 1 - 0 = m - 1 by omega])
      · refine q_aload_n F dX6_walk_30 0 rfl ?_
        refine q_iload_n F dX6_walk_31 2 rfl ?_
        refine q_aload_n F dX6_walk_32 0 rfl ?_
        refine q_getr (T := TX6) (ref := "LeastHungry$Trial") F huX6 rfl ht.1 3 (by decide) (by decide +kernel) rfl rfl dX6_walk_33 ?_
        refine q_iload F dX6_walk_36 5 rfl ?_
        refine q_callNP (n := 2) F (c_X8_at G hI M1 (t + 8) 5 ht.2.2.2.2 i (by omega)) rfl gX6_walk_X8_at_n102 (host := RX8) (by decide +kernel) (by decide +kernel) (by decide +kernel) ⟨by decide, by decide, by decide +kernel⟩ rfl ⟨rfl, rfl, Nat.le_of_ble_eq_true rfl, Nat.le_of_ble_eq_true rfl⟩ rfl (Nat.le_of_ble_eq_true rfl) dX6_walk_38 (fun h38 => ?_)
        have hdg : 0 ≤ M1 (t + 8) i ∧ M1 (t + 8) i ≤ 2 := by rw [hi24.2.2.2, hst i hi24.1.1 c27]; omega
        refine q_callVI (n := 2) (T := TX6) F (c_X6_go G hI M1 t ht g _ hi24.2.1.2.2.1 ⟨hm.1, hdg⟩) rfl rfl ht.1 gX6_walk_X6_go rfl ⟨by decide, by decide, by decide +kernel⟩ rfl ⟨rfl, rfl, Nat.le_of_ble_eq_true rfl, Nat.le_of_ble_eq_true rfl⟩ rfl (Nat.le_of_ble_eq_true rfl) dX6_walk_41 (fun r41 N41 h41 p41 => ?_)
        have w1 := q_wI_go hi24.2.1 hm.1 hdg p41
        refine q_pop F dX6_walk_44 rfl ?_
        refine q_aload_n F dX6_walk_45 0 rfl ?_
        refine q_iconst F dX6_walk_46 ?_
        refine q_iload F dX6_walk_47 4 rfl ?_
        refine q_bipush F dX6_walk_49 (by decide) ?_
        refine q_idiv F dX6_walk_51 (by omega) ?_
        refine q_callVV (n := 2) (T := TX6) F (c_X6_bringIfAny G hI N41 t ht 0 _ w1.1.2.2.1 (3 * i) w1.1.2.2.2 (by omega) (by omega)) rfl rfl ht.1 gX6_walk_X6_bringIfAny rfl ⟨by decide, by decide, by decide +kernel⟩ rfl ⟨rfl, rfl, Nat.le_of_ble_eq_true rfl, Nat.le_of_ble_eq_true rfl⟩ rfl (Nat.le_of_ble_eq_true rfl) dX6_walk_52 (fun N52 p52 => ?_)
        have w2 := q_wI_bia w1.1 (by omega) p52
        refine q_aload_n F dX6_walk_55 0 rfl ?_
        refine q_iconst F dX6_walk_56 ?_
        refine q_iload F dX6_walk_57 4 rfl ?_
        refine q_bipush F dX6_walk_59 (by decide) ?_
        refine q_idiv F dX6_walk_61 (by omega) ?_
        refine q_bipush F dX6_walk_62 (by decide) ?_
        refine q_irem F dX6_walk_64 (by omega) ?_
        refine q_callVV (n := 2) (T := TX6) F (c_X6_bringIfAny G hI N52 t ht 1 _ w2.1.2.2.1 (3 * i + 1) w2.1.2.2.2 (by omega) (by omega)) rfl rfl ht.1 gX6_walk_X6_bringIfAny rfl ⟨by decide, by decide, by decide +kernel⟩ rfl ⟨rfl, rfl, Nat.le_of_ble_eq_true rfl, Nat.le_of_ble_eq_true rfl⟩ rfl (Nat.le_of_ble_eq_true rfl) dX6_walk_65 (fun N65 p65 => ?_)
        have w3 := q_wI_bia w2.1 (by omega) p65
        refine q_aload_n F dX6_walk_68 0 rfl ?_
        refine q_iconst F dX6_walk_69 ?_
        refine q_iload F dX6_walk_70 4 rfl ?_
        refine q_bipush F dX6_walk_72 (by decide) ?_
        refine q_irem F dX6_walk_74 (by omega) ?_
        refine q_callVV (n := 2) (T := TX6) F (c_X6_bringIfAny G hI N65 t ht 2 _ w3.1.2.2.1 (3 * i + 1 + 1) w3.1.2.2.2 (by omega) (by omega)) rfl rfl ht.1 gX6_walk_X6_bringIfAny rfl ⟨by decide, by decide, by decide +kernel⟩ rfl ⟨rfl, rfl, Nat.le_of_ble_eq_true rfl, Nat.le_of_ble_eq_true rfl⟩ rfl (Nat.le_of_ble_eq_true rfl) dX6_walk_75 (fun N75 p75 => ?_)
        have w4 := q_wI_bia w3.1 (by omega) p75
        refine q_aload_n F dX6_walk_78 0 rfl ?_
        refine q_getr (T := TX6) (ref := "LeastHungry$Trial") F huX6 rfl ht.1 0 (by decide) (by decide +kernel) rfl rfl dX6_walk_79 ?_
        refine q_callVV (n := 0) (T := TX1) F (c_X1_passHour G hI N75 (t + 1) ht.2.1 w4.1.2.2.1) rfl rfl ht.2.1.1 gX6_walk_X1_passHour rfl ⟨by decide, by decide, by decide +kernel⟩ rfl ⟨rfl, rfl, Nat.le_of_ble_eq_true rfl, Nat.le_of_ble_eq_true rfl⟩ rfl (Nat.le_of_ble_eq_true rfl) dX6_walk_82 (fun N82 p82 => ?_)
        have w5 := q_wI_ho w4.1 p82
        obtain ⟨v85, e85⟩ : ∃ z_ : Int, z_ = i + 1 := ⟨_, rfl⟩
        refine q_iinc F dX6_walk_85 5 rfl e85 [(6, .int (q_I v85)), (0, .ref (q_ad G t)), (1, .ref (q_ad G o)), (2, .int (q_I g)), (3, .int (q_I m)), (4, .int (q_I d))] (Nat.le_of_ble_eq_true rfl) rfl ?_
        refine q_goto F 24 dX6_walk_88 (by decide) ?_
        refine q_drop [1, 2, 3, 4, 5, 0] rfl ?_
        exact ih24_1 _ (by omega) v85 N82 ⟨by omega, by rw [e85, show 3 * (i + 1) = 3 * i + 1 + 1 + 1 by omega]; exact w5.1, by
      rw [w5.2.1, w4.2.1, w3.2.1, w2.2.1, w1.2.1, hi24.2.2.1, show v85.toNat = i.toNat + 1 by omega, hi24.2.2.2]
      show _ = q_wst q_hrA (M o 4) (M o 5) d g (N18 (t + 8) (i.toNat : Int)) _
      rw [Int.toNat_of_nonneg hi24.1.1]
      rfl, by rw [w5.2.2.2.1, w4.2.2.2.1, w3.2.2.2.1, w2.2.2.2.1, w1.2.2.2.1]; exact hi24.2.2.2⟩ rfl
  refine q_drop [1, 2, 3, 4, 5, 0] rfl ?_
  exact lp24_1 _ 0 N18 ⟨by omega, w18, tv18, rfl⟩ rfl
