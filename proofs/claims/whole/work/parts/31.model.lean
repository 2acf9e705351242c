/-! belches: lowest terms; chances by the reference -/
theorem q_l2_nat (E u l : Nat) (hE : 0 < E) : (∃ u' l' : Nat, u = E * u' ∧ l = E * l' ∧ q_l2 (E : Int) ((u : Int), (l : Int)) = ((u' : Int), (l' : Int))) ∨ (¬ (E ∣ u ∧ E ∣ l) ∧ q_l2 (E : Int) ((u : Int), (l : Int)) = ((u : Int), (l : Int))) := by
  by_cases h : E ∣ u ∧ E ∣ l
  · obtain ⟨⟨u', rfl⟩, ⟨l', rfl⟩⟩ := h
    refine Or.inl ⟨u', l', rfl, rfl, ?_⟩
    have e1 : ((E * u' : Nat) : Int) = (E : Int) * (u' : Int) := Int.natCast_mul E u'
    have e2 : ((E * l' : Nat) : Int) = (E : Int) * (l' : Int) := Int.natCast_mul E l'
    unfold q_l2
    show (if ((E * u' : Nat) : Int) % (E : Int) = 0 ∧ ((E * l' : Nat) : Int) % (E : Int) = 0 then (((E * u' : Nat) : Int) / (E : Int), ((E * l' : Nat) : Int) / (E : Int)) else (((E * u' : Nat) : Int), ((E * l' : Nat) : Int))) = _
    rw [e1, e2, if_pos ⟨Int.mul_emod_right _ _, Int.mul_emod_right _ _⟩, Int.mul_ediv_cancel_left _ (by omega), Int.mul_ediv_cancel_left _ (by omega)]
  · refine Or.inr ⟨h, ?_⟩
    unfold q_l2
    rw [if_neg]
    intro q
    exact h ⟨Int.natCast_dvd_natCast.mp (Int.dvd_of_emod_eq_zero q.1), Int.natCast_dvd_natCast.mp (Int.dvd_of_emod_eq_zero q.2)⟩
theorem q_lo_inv (U L : Nat) : ∀ n : Nat, ∃ D u l : Nat, 0 < D ∧ U = D * u ∧ L = D * l ∧ q_lo n ((U : Int), (L : Int)) = ((u : Int), (l : Int)) ∧ (2 ∣ u → 2 ∣ l → 2 ^ n ∣ D) ∧ (5 ∣ u → 5 ∣ l → 5 ^ n ∣ D)
  | 0 => ⟨1, U, L, by omega, by omega, by omega, rfl, fun _ _ => Nat.dvd_refl _, fun _ _ => Nat.dvd_refl _⟩
  | n + 1 => by
    obtain ⟨D, u, l, hD, hU, hL, hq, h2, h5⟩ := q_lo_inv U L n
    have e : q_lo (n + 1) ((U : Int), (L : Int)) = q_l2 5 (q_l2 2 (q_lo n ((U : Int), (L : Int)))) := rfl
    rw [hq] at e
    have st2 : ∃ D' u' l' : Nat, 0 < D' ∧ U = D' * u' ∧ L = D' * l' ∧ q_l2 2 ((u : Int), (l : Int)) = ((u' : Int), (l' : Int)) ∧ (2 ∣ u' → 2 ∣ l' → 2 ^ (n + 1) ∣ D') ∧ (5 ∣ u' → 5 ∣ l' → 5 ^ n ∣ D') := by
      rcases q_l2_nat 2 u l (by omega) with ⟨u', l', hu, hl, hr⟩ | ⟨hn, hr⟩
      · refine ⟨D * 2, u', l', by omega, by rw [hU, hu, Nat.mul_assoc], by rw [hL, hl, Nat.mul_assoc], hr, fun _ _ => ?_, fun a b => ?_⟩
        · exact Nat.mul_dvd_mul (h2 ⟨u', hu⟩ ⟨l', hl⟩) (Nat.dvd_refl 2)
        · exact Nat.dvd_trans (h5 (by rw [hu]; exact Nat.dvd_trans a ⟨2, Nat.mul_comm _ _⟩) (by rw [hl]; exact Nat.dvd_trans b ⟨2, Nat.mul_comm _ _⟩)) ⟨2, rfl⟩
      · exact ⟨D, u, l, hD, hU, hL, hr, fun a b => absurd ⟨a, b⟩ hn, h5⟩
    obtain ⟨D', u', l', hD', hU', hL', hq', h2', h5'⟩ := st2
    rw [hq'] at e
    rcases q_l2_nat 5 u' l' (by omega) with ⟨u2, l2, hu, hl, hr⟩ | ⟨hn, hr⟩
    · refine ⟨D' * 5, u2, l2, by omega, by rw [hU', hu, Nat.mul_assoc], by rw [hL', hl, Nat.mul_assoc], e.trans hr, fun a b => ?_, fun _ _ => ?_⟩
      · exact Nat.dvd_trans (h2' (by rw [hu]; exact Nat.dvd_trans a ⟨5, Nat.mul_comm _ _⟩) (by rw [hl]; exact Nat.dvd_trans b ⟨5, Nat.mul_comm _ _⟩)) ⟨5, rfl⟩
      · exact Nat.mul_dvd_mul (h5' ⟨u2, hu⟩ ⟨l2, hl⟩) (Nat.dvd_refl 5)
    · exact ⟨D', u', l', hD', hU', hL', e.trans hr, h2', fun a b => absurd ⟨a, b⟩ hn⟩
theorem q_lo_gcd {U L k : Nat} (hL : L = 10 ^ k) (hk : k ≤ 6) : q_lo 6 ((U : Int), (L : Int)) = (((U / Nat.gcd U L : Nat) : Int), ((L / Nat.gcd U L : Nat) : Int)) := by
  obtain ⟨D, u, l, hD, hU, hLl, hq, h2, h5⟩ := q_lo_inv U L 6
  have hLd : L ∣ 1000000 := by
    rw [hL]
    exact Nat.dvd_trans (Nat.pow_dvd_pow 10 hk) ⟨1, rfl⟩
  have hlL : l ∣ L := ⟨D, by rw [hLl, Nat.mul_comm]⟩
  have hc : Nat.gcd u l = 1 := by
    have hcl : Nat.gcd u l ∣ 1000000 := Nat.dvd_trans (Nat.gcd_dvd_right u l) (Nat.dvd_trans hlL hLd)
    have n2 : ¬ 2 ∣ Nat.gcd u l := fun h => by
      have a := Nat.dvd_trans h (Nat.gcd_dvd_left u l)
      have b := Nat.dvd_trans h (Nat.gcd_dvd_right u l)
      have hd : 2 ^ 6 * 2 ∣ L := by
        rw [hLl]
        exact Nat.mul_dvd_mul (h2 a b) b
      exact absurd (Nat.dvd_trans hd hLd) (by decide)
    have n5 : ¬ 5 ∣ Nat.gcd u l := fun h => by
      have a := Nat.dvd_trans h (Nat.gcd_dvd_left u l)
      have b := Nat.dvd_trans h (Nat.gcd_dvd_right u l)
      have hd : 5 ^ 6 * 5 ∣ L := by
        rw [hLl]
        exact Nat.mul_dvd_mul (h5 a b) b
      exact absurd (Nat.dvd_trans hd hLd) (by decide)
    have c2 : Nat.Coprime (Nat.gcd u l) 2 := by
      have hg := Nat.gcd_dvd_right (Nat.gcd u l) 2
      have hg1 := Nat.gcd_dvd_left (Nat.gcd u l) 2
      have hle := Nat.le_of_dvd (by omega) hg
      have hpos := Nat.gcd_pos_of_pos_right (Nat.gcd u l) (show 0 < 2 by omega)
      show Nat.gcd (Nat.gcd u l) 2 = 1
      generalize Nat.gcd (Nat.gcd u l) 2 = x at *
      rcases (show x = 1 ∨ x = 2 by omega) with rfl | rfl
      · rfl
      · exact absurd hg1 n2
    have c5 : Nat.Coprime (Nat.gcd u l) 5 := by
      have hg := Nat.gcd_dvd_right (Nat.gcd u l) 5
      have hg1 := Nat.gcd_dvd_left (Nat.gcd u l) 5
      have hle := Nat.le_of_dvd (by omega) hg
      have hpos := Nat.gcd_pos_of_pos_right (Nat.gcd u l) (show 0 < 5 by omega)
      show Nat.gcd (Nat.gcd u l) 5 = 1
      generalize Nat.gcd (Nat.gcd u l) 5 = x at *
      rcases (show x = 1 ∨ x = 2 ∨ x = 3 ∨ x = 4 ∨ x = 5 by omega) with rfl | rfl | rfl | rfl | rfl
      · rfl
      · exact absurd hg (by decide)
      · exact absurd hg (by decide)
      · exact absurd hg (by decide)
      · exact absurd hg1 n5
    have cc : Nat.Coprime (Nat.gcd u l) 1000000 := Nat.Coprime.mul_right (Nat.Coprime.pow_right 6 c2) (Nat.Coprime.pow_right 6 c5)
    exact Nat.Coprime.eq_one_of_dvd cc hcl
  have hg : Nat.gcd U L = D := by
    rw [hU, hLl, Nat.gcd_mul_left, hc, Nat.mul_one]
  rw [hq, hg, hU, hLl, Nat.mul_div_cancel_left _ hD, Nat.mul_div_cancel_left _ hD]
theorem q_gc_s {x y : Int} (hx : 0 ≤ x) (hy : 0 < y) : Nat.gcd y.toNat (x % y).toNat = Nat.gcd x.toNat y.toNat := by
  obtain ⟨a, rfl⟩ := Int.eq_ofNat_of_zero_le hx
  obtain ⟨b, rfl⟩ := Int.eq_ofNat_of_zero_le (Int.le_of_lt hy)
  rw [← Int.natCast_emod, Int.toNat_natCast, Int.toNat_natCast, Int.toNat_natCast, Nat.gcd_comm b, ← Nat.gcd_rec b a, Nat.gcd_comm]
theorem q_pw_nat : ∀ k : Nat, q_pw 10 k = ((10 ^ k : Nat) : Int)
  | 0 => rfl
  | k + 1 => by
    rw [q_pw_s, q_pw_nat k, Nat.pow_succ, Int.natCast_mul]
    rfl
/-- what the reference divides by -/
theorem q_lo_of {up low x : Int} {k : Nat} (hu : 0 ≤ up) (hl : low = q_pw 10 k) (hk : k ≤ 6) (hx : 0 ≤ x) (hg : Nat.gcd x.toNat (0 : Int).toNat = Nat.gcd up.toNat low.toNat) : 0 < x ∧ (q_lo 6 (up, low)).1 = up / x ∧ (q_lo 6 (up, low)).2 = low / x := by
  obtain ⟨U, rfl⟩ := Int.eq_ofNat_of_zero_le hu
  obtain ⟨X, rfl⟩ := Int.eq_ofNat_of_zero_le hx
  rw [q_pw_nat] at hl
  rw [hl]
  rw [hl, Int.toNat_natCast, Int.toNat_natCast, Int.toNat_natCast, show (0 : Int).toNat = 0 from rfl, Nat.gcd_zero_right] at hg
  have h := q_lo_gcd (U := U) (L := 10 ^ k) rfl hk
  rw [h, ← hg]
  have hpos : 0 < X := by
    rw [hg]
    exact Nat.gcd_pos_of_pos_right _ (Nat.pow_pos (by omega))
  exact ⟨by omega, rfl, rfl⟩
def q_bF (h f a : Int → Int) (th g p t pl fei c : Int) : Int := if q_and c (q_xor fei (-1)) = 0 then (if q_has (q_set (q_tk h (fun x => if q_has c x = true then 0 else f x) a th 9 pl p)) g = true then q_wgt fei c t else 0) else 0
theorem q_fo_9 {h f : Int → Int} {x : Int} (hh : 0 ≤ h x) (hf : f x ≤ 9) : q_fo h f 9 x = false := by
  unfold q_fo q_shn
  exact decide_eq_false (by omega)
theorem q_bF_ch {h f a : Int → Int} {th g p t pl fei c : Int} (hh : q_hv h) (hf : q_fvv f) (g0 : 0 ≤ g) (g1 : g < 6) : q_bF h f a th g p t pl fei c = if q_hun h a th pl g = true then q_chT h f fei (q_set (q_hun h a th pl)) g p t c else 0 := by
  have hf9 : ∀ x, 0 ≤ x → x < 6 → (if q_has c x = true then (0 : Int) else f x) ≤ 9 := fun x x0 x1 => by
    have := hf x x0 x1
    split <;> omega
  have el : ∀ x, 0 ≤ x → x < 6 → q_el h (fun x => if q_has c x = true then 0 else f x) a th 9 pl x = q_hun h a th pl x := fun x x0 x1 => by
    unfold q_el
    rw [q_fo_9 (hh x x0 x1).1 (hf9 x x0 x1)]
    simp
  have sh : ∀ x, 0 ≤ x → x < 6 → q_shn h (fun x => if q_has c x = true then 0 else f x) x = q_shA h f c x := fun x x0 x1 => by
    show max 0 (h x - (if q_has c x = true then 0 else f x)) = if q_has c x = true then h x else q_shn h f x
    by_cases hc : q_has c x = true
    · rw [if_pos hc, if_pos hc]
      have := hh x x0 x1
      omega
    · rw [if_neg hc, if_neg hc]
      rfl
  have tk : q_has (q_set (q_tk h (fun x => if q_has c x = true then 0 else f x) a th 9 pl p)) g = (q_hun h a th pl g && decide (q_place (q_shA h f c) (q_set (q_hun h a th pl)) g < p)) := by
    rw [q_has_set g0 g1]
    unfold q_tk
    rw [el g g0 g1]
    have : q_rk (q_shn h (fun x => if q_has c x = true then 0 else f x)) (q_el h (fun x => if q_has c x = true then 0 else f x) a th 9 pl) g = q_place (q_shA h f c) (q_set (q_hun h a th pl)) g := by
      rw [q_place_rk]
      exact q_rk_congr sh (fun x x0 x1 => by rw [el x x0 x1, q_has_set x0 x1]) g0 g1
    rw [this]
  unfold q_bF q_chT
  rw [tk]
  cases hg : q_hun h a th pl g
  · simp
  · simp
theorem q_smN_if {F : Int → Int} {b : Bool} : ∀ n : Nat, q_smN (fun c => if b = true then F c else 0) n = if b = true then q_smN F n else 0
  | 0 => by
    cases b <;> rfl
  | n + 1 => by
    rw [q_smN_s, q_smN_if n]
    cases b
    · rfl
    · rfl
theorem q_bel_tk {M M1 N M2 : q_M} {o pl p : Int} (kz : q_kz M M1 ∨ True) (h1 : M1 1 = M 1 ∧ M1 2 = M 2 ∧ M1 3 = M 3 ∧ M1 0 0 = M 0 0) (hN : q_an M1 N) (f : ∀ j, j ≠ 8 → M2 j = N j) (h8 : ∀ y, 0 ≤ y → y < 6 → M2 8 y = if q_has o y = true then 0 else M 2 y) (hk : M2 0 4 = 9) :
    q_set (q_ru (M2 7) (M2 8) (M2 9) (M2 0 0) (M2 0 4) 0 pl p) = q_set (q_tk (M 1) (fun x => if q_has o x = true then 0 else M 2 x) (M 3) (M 0 0) 9 pl p) := by
  rw [q_ru_0, hk, show M2 0 0 = M 0 0 from by rw [f 0 (by omega), hN.1 0 (by omega), h1.2.2.2]]
  refine q_set_congr (fun x _ _ => q_tk_sim (fun y hy => ?_) x)
  have hi := q_has_in hy
  have := (hN.2 y hi.1 hi.2).1
  rw [f 7 (by omega), f 9 (by omega), h8 y hi.1 hi.2, this.1, this.2.2, h1.1, h1.2.2.1]
  exact ⟨rfl, rfl, rfl⟩
theorem q_S_belch9 {h f a : Int → Int} {th g p t w up low x : Int} {fei : Int} (hv : q_hv h ∧ q_fvv f) (hg : q_has th g = true) (d : (1 ≤ p ∧ p ≤ 9) ∧ (0 ≤ t ∧ t ≤ 10) ∧ (0 ≤ w ∧ w ≤ 1)) (hfei : fei = q_set (fun x => q_ins a th (a g) x && decide (0 < f x))) (hup : up = q_smN (q_bF h f a th g p t (a g) fei) 64) (hlow : low = q_pw 10 (q_cnt (q_has fei)).toNat) (hx : 0 ≤ x) (hgc : Nat.gcd x.toNat (0 : Int).toNat = Nat.gcd up.toNat low.toNat) (hu : 0 ≤ up) :
    0 < x ∧ S_belch h f a th g p t w = if w = 0 then up / x else low / x := by
  have hi := q_has_in hg
  have hc := q_cnt_R (q_has fei)
  have e1 : up = q_ch h f a th (a g) g p t := by
    rw [hup]
    unfold q_ch
    rw [← hfei, ← q_smN_if]
    exact q_smN_congr 64 (fun c _ _ => q_bF_ch hv.1 hv.2 hi.1 hi.2)
  have e2 : low = q_blo f a th (a g) := by
    rw [hlow, hfei]
    rfl
  obtain ⟨h0, h1, h2⟩ := q_lo_of (k := (q_cnt (q_has fei)).toNat) hu hlow (by omega) hx hgc
  refine ⟨h0, ?_⟩
  unfold S_belch
  rw [if_pos hg, if_pos d, ← e1, ← e2, h1, h2]
set_option maxHeartbeats 4000000 in
set_option maxRecDepth 100000 in
theorem c_X9_belch (G : q_G) (hI : q_inj G) (M : q_M) (hm : q_mo G) (g : Int) (p : Int) (t : Int) (w : Int) (hgR : -2147483648 ≤ g ∧ g ≤ 2147483647) (hpR : -2147483648 ≤ p ∧ p ≤ 2147483647) (htR : -2147483648 ≤ t ∧ t ≤ 2147483647) (hwR : -2147483648 ≤ w ∧ w ≤ 2147483647) (hZ : q_Z M) : q_CL G yX9_belch wsX9_belch ({ frames := 3, cells := 0, slots := 0, locals := 71 } : Room) [.ref (q_ad G 0), .int (q_I g), .int (q_I p), .int (q_I t), .int (q_I w)] M (fun r M' => r = q_J (S_belch (M 1) (M 2) (M 3) (M 0 0) g p t w) ∧ q_kz M M') := by
  refine q_CL.of hI (by decide) rfl RX9 rfl [(0, .ref (q_ad G 0)), (1, .int (q_I g)), (2, .int (q_I p)), (3, .int (q_I t)), (4, .int (q_I w))] rfl (Nat.le_of_ble_eq_true rfl) (fun E F FL => ?_)
  have huX9 : ∀ w ∈ wsX90, w ∈ wsX9_belch := by decide +kernel
  refine q_MRof (fun hM => ?_)
  obtain ⟨⟨xt, xk⟩, ⟨xh, xf, xa⟩, xF, xs, xp⟩ := id hZ
  have hz := hZ.1
  refine q_aload_n F dX9_belch_0 0 rfl ?_
  refine q_iload_n F dX9_belch_1 1 rfl ?_
  refine q_callVP (n := 1) (T := TX9) F (c_X9_isThere G hI M hm g (by omega) (by assumption)) rfl rfl hm.1 gX9_belch_X9_isThere rfl ⟨by decide, by decide, by decide +kernel⟩ rfl ⟨rfl, rfl, Nat.le_of_ble_eq_true rfl, Nat.le_of_ble_eq_true rfl⟩ rfl (Nat.le_of_ble_eq_true rfl) dX9_belch_2 (fun h2 => ?_)
  refine q_ifb_ne F 12 dX9_belch_5 (by decide) (fun c5 => ?_) (fun c5 => ?_)
  · have hgi := q_has_in c5
    refine q_iload_n F dX9_belch_12 2 rfl ?_
    refine q_iconst F dX9_belch_13 ?_
    refine q_bipush F dX9_belch_14 (by decide) ?_
    refine q_callSP (n := 3) F (c_X9_in G hI M p 1 9 (by omega)) rfl gX9_belch_X9_in ⟨by decide, by decide, by decide +kernel⟩ rfl ⟨rfl, rfl, Nat.le_of_ble_eq_true rfl, Nat.le_of_ble_eq_true rfl⟩ rfl (Nat.le_of_ble_eq_true rfl) dX9_belch_16 (fun h16 => ?_)
    refine q_ifb_eq F 42 dX9_belch_19 (by decide) (fun c19 => ?_) (fun c19 => ?_)
    · refine q_ldc2 (n := (-1000000000000000002)) F dX9_belch_42 (by decide +kernel) ?_
      exact q_lret F FL dX9_belch_45 ⟨by unfold S_belch; rw [if_pos c5, if_neg (fun h => absurd h.1 (q_df c19))], q_kz_rf⟩
    · refine q_iload_n F dX9_belch_22 3 rfl ?_
      refine q_iconst F dX9_belch_23 ?_
      refine q_bipush F dX9_belch_24 (by decide) ?_
      refine q_callSP (n := 3) F (c_X9_in G hI M t 0 10 (by omega)) rfl gX9_belch_X9_in ⟨by decide, by decide, by decide +kernel⟩ rfl ⟨rfl, rfl, Nat.le_of_ble_eq_true rfl, Nat.le_of_ble_eq_true rfl⟩ rfl (Nat.le_of_ble_eq_true rfl) dX9_belch_26 (fun h26 => ?_)
      refine q_ifb_eq F 42 dX9_belch_29 (by decide) (fun c29 => ?_) (fun c29 => ?_)
      · refine q_ldc2 (n := (-1000000000000000002)) F dX9_belch_42 (by decide +kernel) ?_
        exact q_lret F FL dX9_belch_45 ⟨by unfold S_belch; rw [if_pos c5, if_neg (fun h => absurd h.2.1 (q_df c29))], q_kz_rf⟩
      · refine q_iload F dX9_belch_32 4 rfl ?_
        refine q_iconst F dX9_belch_34 ?_
        refine q_iconst F dX9_belch_35 ?_
        refine q_callSP (n := 3) F (c_X9_in G hI M w 0 1 (by omega)) rfl gX9_belch_X9_in ⟨by decide, by decide, by decide +kernel⟩ rfl ⟨rfl, rfl, Nat.le_of_ble_eq_true rfl, Nat.le_of_ble_eq_true rfl⟩ rfl (Nat.le_of_ble_eq_true rfl) dX9_belch_36 (fun h36 => ?_)
        refine q_ifb_ne F 46 dX9_belch_39 (by decide) (fun c39 => ?_) (fun c39 => ?_)
        · have d2 := q_dt c19
          have d3 := q_dt c29
          have d4 := q_dt c39
          refine q_aload_n F dX9_belch_46 0 rfl ?_
          refine q_getr (T := TX9) (ref := "LeastHungryModel") F huX9 rfl hm.1 3 (by decide) (by decide +kernel) rfl rfl dX9_belch_47 ?_
          refine q_iload_n F dX9_belch_50 1 rfl ?_
          refine q_iald F hm.2.2.2.1 (Nat.le_of_ble_eq_true rfl) (by omega) dX9_belch_51 (fun h51 => ?_)
          refine q_nm (fun v52 e52 => ?_)
          refine q_istore F dX9_belch_52 [(5, .int (q_I v52)), (0, .ref (q_ad G 0)), (1, .int (q_I g)), (2, .int (q_I p)), (3, .int (q_I t)), (4, .int (q_I w))] (Nat.le_of_ble_eq_true rfl) rfl ?_
          refine q_aload_n F dX9_belch_54 1 rfl ?_
          refine q_geti (T := TX9) (ref := "LeastHungryModel") F huX9 rfl hm.1 4 (by decide) (by decide +kernel) rfl 4 rfl rfl dX9_belch_55 (fun h55 => ?_)
          refine q_nm (fun v58 e58 => ?_)
          refine q_istore F dX9_belch_58 [(6, .int (q_I v58)), (5, .int (q_I v52)), (0, .ref (q_ad G 0)), (1, .int (q_I g)), (2, .int (q_I p)), (3, .int (q_I t)), (4, .int (q_I w))] (Nat.le_of_ble_eq_true rfl) rfl ?_
          refine q_iconst F dX9_belch_60 ?_
          refine q_istore F dX9_belch_61 [(7, .int (q_I 0)), (6, .int (q_I v58)), (5, .int (q_I v52)), (0, .ref (q_ad G 0)), (1, .int (q_I g)), (2, .int (q_I p)), (3, .int (q_I t)), (4, .int (q_I w))] (Nat.le_of_ble_eq_true rfl) rfl ?_
          refine q_iconst F dX9_belch_63 ?_
          refine q_istore F dX9_belch_64 [(8, .int (q_I 0)), (7, .int (q_I 0)), (6, .int (q_I v58)), (5, .int (q_I v52)), (0, .ref (q_ad G 0)), (1, .int (q_I g)), (2, .int (q_I p)), (3, .int (q_I t)), (4, .int (q_I w))] (Nat.le_of_ble_eq_true rfl) rfl ?_
          have lp66_1 : ∀ (k66_1 : Nat) (s : Int) (x : Int), ((0 ≤ x ∧ x ≤ 6) ∧ s = q_set (q_lt (fun x => q_ins (M 3) (M 0 0) v52 x && decide (0 < M 2 x)) x)) → (6 - x).toNat = k66_1 → q_Y G E 18 M [(0, .ref (q_ad G 0)), (1, .int (q_I g)), (2, .int (q_I p)), (3, .int (q_I t)), (4, .int (q_I w)), (5, .int (q_I v52)), (6, .int (q_I v58)), (7, .int (q_I s)), (8, .int (q_I x))] 66 [] := by
            intro k66_1
            induction k66_1 using Nat.strongRecOn with
            | _ k66_1 ih66_1 =>
              intro s x   hi66 hk66
              have hsR : 0 ≤ s ∧ s ≤ 63 := by
                rw [hi66.2]
                exact q_set_R _
              refine q_iload F dX9_belch_66 8 rfl ?_
              refine q_bipush F dX9_belch_68 (by decide) ?_
              refine q_icmp_ge F 126 dX9_belch_70 (by decide) (by omega) (fun c70 => ?_) (fun c70 => ?_)
              · have hs : s = q_set (fun x => q_ins (M 3) (M 0 0) v52 x && decide (0 < M 2 x)) := by rw [hi66.2, show x = 6 by omega, q_set_6]
                have hsR : 0 ≤ s ∧ s ≤ 63 := by rw [hs]; exact q_set_R _
                have hcR := q_cnt_R (q_has s)
                refine q_lconst (z := 0) F dX9_belch_126 rfl ?_
                refine q_lstore F dX9_belch_127 [(8, .long (q_J 0)), (0, .ref (q_ad G 0)), (1, .int (q_I g)), (2, .int (q_I p)), (3, .int (q_I t)), (4, .int (q_I w)), (5, .int (q_I v52)), (6, .int (q_I v58)), (7, .int (q_I s))] (Nat.le_of_ble_eq_true rfl) rfl ?_
                refine q_lconst (z := 1) F dX9_belch_129 rfl ?_
                refine q_lstore F dX9_belch_130 [(10, .long (q_J 1)), (8, .long (q_J 0)), (0, .ref (q_ad G 0)), (1, .int (q_I g)), (2, .int (q_I p)), (3, .int (q_I t)), (4, .int (q_I w)), (5, .int (q_I v52)), (6, .int (q_I v58)), (7, .int (q_I s))] (Nat.le_of_ble_eq_true rfl) rfl ?_
                refine q_iconst F dX9_belch_132 ?_
                refine q_istore F dX9_belch_133 [(12, .int (q_I 0)), (10, .long (q_J 1)), (8, .long (q_J 0)), (0, .ref (q_ad G 0)), (1, .int (q_I g)), (2, .int (q_I p)), (3, .int (q_I t)), (4, .int (q_I w)), (5, .int (q_I v52)), (6, .int (q_I v58)), (7, .int (q_I s))] (Nat.le_of_ble_eq_true rfl) rfl ?_
                have lp135_2 : ∀ (k135_2 : Nat) (low : Int) (k : Int), ((0 ≤ k ∧ k ≤ q_cnt (q_has s)) ∧ low = q_pw 10 k.toNat) → (6 - k).toNat = k135_2 → q_Y G E 18 M [(0, .ref (q_ad G 0)), (1, .int (q_I g)), (2, .int (q_I p)), (3, .int (q_I t)), (4, .int (q_I w)), (5, .int (q_I v52)), (6, .int (q_I v58)), (7, .int (q_I s)), (8, .long (q_J 0)), (10, .long (q_J low)), (12, .int (q_I k))] 135 [] := by
                  intro k135_2
                  induction k135_2 using Nat.strongRecOn with
                  | _ k135_2 ih135_2 =>
                    intro low k   hi135 hk135
                    refine q_iload F dX9_belch_135 10 rfl ?_
                    refine q_iload F dX9_belch_137 7 rfl ?_
                    refine q_callSP (n := 1) F (c_X9_bits G hI M s (by omega)) rfl gX9_belch_X9_bits ⟨by decide, by decide, by decide +kernel⟩ rfl ⟨rfl, rfl, Nat.le_of_ble_eq_true rfl, Nat.le_of_ble_eq_true rfl⟩ rfl (Nat.le_of_ble_eq_true rfl) dX9_belch_139 (fun h139 => ?_)
                    refine q_icmp_ge F 159 dX9_belch_142 (by decide) (by omega) (fun c142 => ?_) (fun c142 => ?_)
                    · refine q_aload_n F dX9_belch_159 0 rfl ?_
                      have hlow : low = q_pw 10 (q_cnt (q_has s)).toNat := by rw [hi135.2, show k = q_cnt (q_has s) by omega]
                      have hlR := q_pw_R (b := 10) (by omega) (q_cnt (q_has s)).toNat (by omega)
                      rw [← hlow] at hlR
                      refine q_bipush F dX9_belch_160 (by decide) ?_
                      refine q_puti (T := TX9) (ref := "LeastHungryModel") F huX9 rfl hm.1 4 (by decide) (by decide +kernel) rfl 4 rfl tyX9 tyX9_ok nmX9 rfl rfl (by decide +kernel) (by omega) dX9_belch_162 (fun N162 eN162 => ?_)
                      have k162 : ∀ j, j ≠ 0 → N162 j = M j := fun j hj => by rw [eN162, q_up_ne hj]
                      have k162a : ∀ i, i ≠ 4 → N162 0 i = M 0 i := fun i hi => by rw [eN162, q_up_at, if_neg hi]
                      have k162b : N162 0 4 = 9 := by rw [eN162, q_up_at, if_pos rfl]
                      refine q_iconst F dX9_belch_165 ?_
                      refine q_istore F dX9_belch_166 [(12, .int (q_I 0)), (0, .ref (q_ad G 0)), (1, .int (q_I g)), (2, .int (q_I p)), (3, .int (q_I t)), (4, .int (q_I w)), (5, .int (q_I v52)), (6, .int (q_I v58)), (7, .int (q_I s)), (8, .long (q_J 0)), (10, .long (q_J low))] (Nat.le_of_ble_eq_true rfl) rfl ?_
                      have lp168_3 : ∀ (k168_3 : Nat) (up : Int) (o : Int) (M1 : q_M), ((0 ≤ o ∧ o ≤ 64) ∧ up = q_smN (q_bF (M 1) (M 2) (M 3) (M 0 0) g p t v52 s) o.toNat ∧ q_kz N162 M1 ∧ M1 0 4 = 9) → (64 - o).toNat = k168_3 → q_Y G E 18 M1 [(0, .ref (q_ad G 0)), (1, .int (q_I g)), (2, .int (q_I p)), (3, .int (q_I t)), (4, .int (q_I w)), (5, .int (q_I v52)), (6, .int (q_I v58)), (7, .int (q_I s)), (8, .long (q_J up)), (10, .long (q_J low)), (12, .int (q_I o))] 168 [] := by
                        intro k168_3
                        induction k168_3 using Nat.strongRecOn with
                        | _ k168_3 ih168_3 =>
                          intro up o  M1 hi168 hk168
                          refine q_MRof (fun hM168 => ?_)
                          obtain ⟨u1, u2, u3, u4⟩ := id hi168
                          refine q_iload F dX9_belch_168 10 rfl ?_
                          refine q_bipush F dX9_belch_170 (by decide) ?_
                          refine q_icmp_ge F 307 dX9_belch_172 (by decide) (by omega) (fun c172 => ?_) (fun c172 => ?_)
                          · refine q_aload_n F dX9_belch_307 0 rfl ?_
                            refine q_iload F dX9_belch_308 6 rfl ?_
                            refine q_puti (T := TX9) (ref := "LeastHungryModel") F huX9 rfl hm.1 4 (by decide) (by decide +kernel) rfl 4 rfl tyX9 tyX9_ok nmX9 rfl rfl (by decide +kernel) (by omega) dX9_belch_310 (fun N310 eN310 => ?_)
                            have hkz : q_kz M N310 := by
                              refine ⟨fun j hj => by rw [eN310, q_up_ne (by omega), u3.1 j hj, k162 j (by omega)], ?_, ?_, ?_, ?_⟩
                              · rw [eN310, q_up_at, if_neg (by decide), u3.2.1, k162a 0 (by decide)]
                              · rw [eN310, q_up_at, if_pos rfl, e58]
                              · rw [eN310, q_up_at, if_neg (by decide), u3.2.2.2.1, k162a 6 (by decide)]
                              · rw [eN310, q_up_at, if_neg (by decide), u3.2.2.2.2, k162a 8 (by decide)]
                            have hupR := q_smN_R (F := (q_bF (M 1) (M 2) (M 3) (M 0 0) g p t v52 s)) (K := 1000000) 64 (fun c c0 c1 => by
                              have := q_wgt_R hsR (show 0 ≤ c ∧ c ≤ 63 by omega) d3
                              unfold q_bF
                              split
                              · split <;> omega
                              · omega)
                            have hup : up = q_smN (q_bF (M 1) (M 2) (M 3) (M 0 0) g p t v52 s) 64 := by rw [u2, show o = 64 by omega]; rfl
                            rw [← hup] at hupR
                            have hpl : v52 = M 3 g := e52
                            refine q_lload F dX9_belch_313 8 rfl ?_
                            refine q_lstore F dX9_belch_315 [(12, .long (q_J up)), (0, .ref (q_ad G 0)), (1, .int (q_I g)), (2, .int (q_I p)), (3, .int (q_I t)), (4, .int (q_I w)), (5, .int (q_I v52)), (6, .int (q_I v58)), (7, .int (q_I s)), (8, .long (q_J up)), (10, .long (q_J low))] (Nat.le_of_ble_eq_true rfl) rfl ?_
                            refine q_lload F dX9_belch_317 10 rfl ?_
                            refine q_lstore F dX9_belch_319 [(14, .long (q_J low)), (12, .long (q_J up)), (0, .ref (q_ad G 0)), (1, .int (q_I g)), (2, .int (q_I p)), (3, .int (q_I t)), (4, .int (q_I w)), (5, .int (q_I v52)), (6, .int (q_I v58)), (7, .int (q_I s)), (8, .long (q_J up)), (10, .long (q_J low))] (Nat.le_of_ble_eq_true rfl) rfl ?_
                            have lp321_4 : ∀ (k321_4 : Nat) (x2 : Int) (y2 : Int), ((0 ≤ x2 ∧ 0 ≤ y2 ∧ x2 ≤ 64000000 ∧ y2 ≤ 64000000) ∧ Nat.gcd x2.toNat y2.toNat = Nat.gcd up.toNat low.toNat) → y2.toNat = k321_4 → q_Y G E 18 N310 [(0, .ref (q_ad G 0)), (1, .int (q_I g)), (2, .int (q_I p)), (3, .int (q_I t)), (4, .int (q_I w)), (5, .int (q_I v52)), (6, .int (q_I v58)), (7, .int (q_I s)), (8, .long (q_J up)), (10, .long (q_J low)), (12, .long (q_J x2)), (14, .long (q_J y2))] 321 [] := by
                              intro k321_4
                              induction k321_4 using Nat.strongRecOn with
                              | _ k321_4 ih321_4 =>
                                intro x2 y2   hi321 hk321
                                refine q_lload F dX9_belch_321 11 rfl ?_
                                refine q_lconst (z := 0) F dX9_belch_323 rfl ?_
                                refine q_lcmp F dX9_belch_324 (by omega) (fun z324 e324 h324 => ?_)
                                refine q_if_eq F 346 dX9_belch_325 (by decide) (by omega) (fun c325 => ?_) (fun c325 => ?_)
                                · obtain ⟨hx0, hres⟩ := q_S_belch9 (w := w) (x := x2) (up := up) (low := low) (fei := s) ⟨xh, xf⟩ c5 ⟨d2, d3, d4⟩ (by rw [hs, hpl]) (by rw [hup, hpl]) hlow hi321.1.1 (by rw [← hi321.2, show y2 = 0 from e324.mp c325]) hupR.1
                                  refine q_iload F dX9_belch_346 4 rfl ?_
                                  refine q_if_ne F 359 dX9_belch_348 (by decide) (by omega) (fun c348 => ?_) (fun c348 => ?_)
                                  · refine q_lload F dX9_belch_359 9 rfl ?_
                                    refine q_lload F dX9_belch_361 10 rfl ?_
                                    refine q_ldiv F dX9_belch_363 (by omega) ?_
                                    exact q_lret F FL dX9_belch_364 ⟨by rw [hres, if_neg c348], hkz⟩
                                  · refine q_lload F dX9_belch_351 8 rfl ?_
                                    refine q_lload F dX9_belch_353 10 rfl ?_
                                    refine q_ldiv F dX9_belch_355 (by omega) ?_
                                    refine q_goto F 364 dX9_belch_356 (by decide) ?_
                                    exact q_lret F FL dX9_belch_364 ⟨by rw [hres, if_pos c348], hkz⟩
                                · refine q_lload F dX9_belch_328 10 rfl ?_
                                  refine q_lload F dX9_belch_330 11 rfl ?_
                                  refine q_lrem F dX9_belch_332 (by omega) ?_
                                  refine q_nmJ (fun v333 e333 => ?_)
                                  refine q_lstore F dX9_belch_333 [(16, .long (q_J v333)), (0, .ref (q_ad G 0)), (1, .int (q_I g)), (2, .int (q_I p)), (3, .int (q_I t)), (4, .int (q_I w)), (5, .int (q_I v52)), (6, .int (q_I v58)), (7, .int (q_I s)), (8, .long (q_J up)), (10, .long (q_J low)), (12, .long (q_J x2)), (14, .long (q_J y2))] (Nat.le_of_ble_eq_true rfl) rfl ?_
                                  have hmd : 0 ≤ v333 ∧ v333 < y2 := ⟨by rw [e333]; exact Int.emod_nonneg _ (by omega), by rw [e333]; exact Int.emod_lt_of_pos _ (by omega)⟩
                                  refine q_lload F dX9_belch_335 12 rfl ?_
                                  refine q_lstore F dX9_belch_337 [(12, .long (q_J y2)), (16, .long (q_J v333)), (0, .ref (q_ad G 0)), (1, .int (q_I g)), (2, .int (q_I p)), (3, .int (q_I t)), (4, .int (q_I w)), (5, .int (q_I v52)), (6, .int (q_I v58)), (7, .int (q_I s)), (8, .long (q_J up)), (10, .long (q_J low)), (14, .long (q_J y2))] (Nat.le_of_ble_eq_true rfl) rfl ?_
                                  refine q_lload F dX9_belch_339 1 rfl ?_
                                  refine q_lstore F dX9_belch_341 [(14, .long (q_J v333)), (12, .long (q_J y2)), (16, .long (q_J v333)), (0, .ref (q_ad G 0)), (1, .int (q_I g)), (2, .int (q_I p)), (3, .int (q_I t)), (4, .int (q_I w)), (5, .int (q_I v52)), (6, .int (q_I v58)), (7, .int (q_I s)), (8, .long (q_J up)), (10, .long (q_J low))] (Nat.le_of_ble_eq_true rfl) rfl ?_
                                  refine q_goto F 321 dX9_belch_343 (by decide) ?_
                                  refine q_drop [3, 4, 5, 6, 7, 8, 9, 10, 11, 12, 1, 0] rfl ?_
                                  exact ih321_4 _ (by omega) y2 v333 ⟨by omega, by rw [e333, q_gc_s hi321.1.1 (by omega)]; exact hi321.2⟩ rfl
                            refine q_drop [2, 3, 4, 5, 6, 7, 8, 9, 10, 11, 1, 0] rfl ?_
                            exact lp321_4 _ up low ⟨by omega, rfl⟩ rfl
                          · refine q_iload F dX9_belch_175 10 rfl ?_
                            refine q_iload F dX9_belch_177 7 rfl ?_
                            refine q_iconst F dX9_belch_179 ?_
                            refine q_ixor F dX9_belch_180 (fun z180 e180 h180 => ?_)
                            refine q_iand F dX9_belch_181 (fun z181 e181 h181 => ?_)
                            refine q_if_ne F 301 dX9_belch_182 (by decide) (by omega) (fun c182 => ?_) (fun c182 => ?_)
                            · obtain ⟨v301, e301⟩ : ∃ z_ : Int, z_ = o + 1 := ⟨_, rfl⟩
                              refine q_iinc F dX9_belch_301 10 rfl e301 [(12, .int (q_I v301)), (0, .ref (q_ad G 0)), (1, .int (q_I g)), (2, .int (q_I p)), (3, .int (q_I t)), (4, .int (q_I w)), (5, .int (q_I v52)), (6, .int (q_I v58)), (7, .int (q_I s)), (8, .long (q_J up)), (10, .long (q_J low))] (Nat.le_of_ble_eq_true rfl) rfl ?_
                              refine q_goto F 168 dX9_belch_304 (by decide) ?_
                              refine q_drop [1, 2, 3, 4, 5, 6, 7, 8, 9, 10, 0] rfl ?_
                              exact ih168_3 _ (by omega) up v301 M1 ⟨by omega, by
                                    rw [e301, show (o + 1).toNat = o.toNat + 1 by omega, q_smN_s, ← u2, Int.toNat_of_nonneg u1.1]
                                    unfold q_bF
                                    rw [if_neg (by rw [← e180, ← e181]; exact c182)]
                                    omega, u3, u4⟩ rfl
                            · refine q_lconst (z := 1) F dX9_belch_185 rfl ?_
                              refine q_lstore F dX9_belch_186 [(13, .long (q_J 1)), (0, .ref (q_ad G 0)), (1, .int (q_I g)), (2, .int (q_I p)), (3, .int (q_I t)), (4, .int (q_I w)), (5, .int (q_I v52)), (6, .int (q_I v58)), (7, .int (q_I s)), (8, .long (q_J up)), (10, .long (q_J low)), (12, .int (q_I o))] (Nat.le_of_ble_eq_true rfl) rfl ?_
                              refine q_aload_n F dX9_belch_188 1 rfl ?_
                              refine q_callVV (n := 0) (T := TX9) F (c_X9_asNow G hI M1 hm) rfl rfl hm.1 gX9_belch_X9_asNow rfl ⟨by decide, by decide, by decide +kernel⟩ rfl ⟨rfl, rfl, Nat.le_of_ble_eq_true rfl, Nat.le_of_ble_eq_true rfl⟩ rfl (Nat.le_of_ble_eq_true rfl) dX9_belch_189 (fun N189 p189 => ?_)
                              have hM1 : M1 1 = M 1 ∧ M1 2 = M 2 ∧ M1 3 = M 3 ∧ M1 0 0 = M 0 0 := ⟨by rw [u3.1 1 (by omega), k162 1 (by omega)], by rw [u3.1 2 (by omega), k162 2 (by omega)], by rw [u3.1 3 (by omega), k162 3 (by omega)], by rw [u3.2.1, k162a 0 (by decide)]⟩
                              refine q_iconst F dX9_belch_192 ?_
                              refine q_istore F dX9_belch_193 [(15, .int (q_I 0)), (13, .long (q_J 1)), (0, .ref (q_ad G 0)), (1, .int (q_I g)), (2, .int (q_I p)), (3, .int (q_I t)), (4, .int (q_I w)), (5, .int (q_I v52)), (6, .int (q_I v58)), (7, .int (q_I s)), (8, .long (q_J up)), (10, .long (q_J low)), (12, .int (q_I o))] (Nat.le_of_ble_eq_true rfl) rfl ?_
                              have lp195_5 : ∀ (k195_5 : Nat) (own : Int) (q : Int) (M2 : q_M), ((0 ≤ q ∧ q ≤ 6) ∧ own = q_pw t (q_cnt (q_lt (q_has o) q)).toNat * q_pw (10 - t) (q_cnt (q_lt (q_has (q_and s (q_xor o (-1)))) q)).toNat ∧ (∀ j, j ≠ 8 → M2 j = N189 j) ∧ (∀ y, 0 ≤ y → y < q → M2 8 y = if q_has o y = true then 0 else M 2 y) ∧ (∀ y, q ≤ y → y < 6 → M2 8 y = M 2 y)) → (6 - q).toNat = k195_5 → q_Y G E 18 M2 [(0, .ref (q_ad G 0)), (1, .int (q_I g)), (2, .int (q_I p)), (3, .int (q_I t)), (4, .int (q_I w)), (5, .int (q_I v52)), (6, .int (q_I v58)), (7, .int (q_I s)), (8, .long (q_J up)), (10, .long (q_J low)), (12, .int (q_I o)), (13, .long (q_J own)), (15, .int (q_I q))] 195 [] := by
                                intro k195_5
                                induction k195_5 using Nat.strongRecOn with
                                | _ k195_5 ih195_5 =>
                                  intro own q  M2 hi195 hk195
                                  refine q_MRof (fun hM195 => ?_)
                                  have ho : 0 ≤ o ∧ o ≤ 63 := by omega
                                  have v2R : M2 0 4 = M1 0 4 := by rw [hi195.2.2.1 0 (by omega), p189.1 0 (by omega)]
                                  have hsub : q_sub o s := by
                                    unfold q_sub
                                    rw [← e180, ← e181]
                                    exact c182
                                  have hcoR := q_cnt_R (q_lt (q_has o) q)
                                  have hcnR := q_cnt_R (q_lt (q_has (q_and s (q_xor o (-1)))) q)
                                  have hoq : q_has s q = false → q_has o q = false := fun h => by
                                    cases hq : q_has o q
                                    · rfl
                                    · rw [(q_sub_iff ho hsR).mp hsub q hq] at h
                                      cases h
                                  refine q_iload F dX9_belch_195 12 rfl ?_
                                  refine q_bipush F dX9_belch_197 (by decide) ?_
                                  refine q_icmp_ge F 275 dX9_belch_199 (by decide) (by omega) (fun c199 => ?_) (fun c199 => ?_)
                                  · obtain ⟨w1, w2, w3, w4, w5⟩ := id hi195
                                    have hq6 : q = 6 := by omega
                                    have htk := q_bel_tk (M := M) (M1 := M1) (N := N189) (M2 := M2) (o := o) (pl := v52) (p := p) (Or.inr trivial) hM1 p189 w3 (fun y h0 h1 => w4 y h0 (by omega)) (by rw [v2R, u4])
                                    have hown : own = q_wgt s o t := by
                                      rw [w2, hq6, q_cnt_6, q_cnt_6]
                                      rfl
                                    have zv2 : q_zv M2 := by
                                      refine ⟨⟨?_, ?_⟩, ?_, fun y h0 h1 => ?_, ?_⟩
                                      · rw [w3 0 (by omega), p189.1 0 (by omega), hM1.2.2.2]; exact xt
                                      · rw [v2R, u4]; omega
                                      · rw [w3 7 (by omega)]
                                        intro y h0 h1
                                        rw [(p189.2 y h0 h1).1.1, hM1.1]
                                        exact xh y h0 h1
                                      · rw [w4 y h0 (by omega)]
                                        have := xf y h0 h1
                                        split <;> omega
                                      · rw [w3 9 (by omega)]
                                        intro y h0 h1
                                        rw [(p189.2 y h0 h1).1.2.2, hM1.2.2.1]
                                        exact xa y h0 h1
                                    have hsb := q_set_R (q_ru (M2 7) (M2 8) (M2 9) (M2 0 0) (M2 0 4) 0 v52 p)
                                    refine q_lload F dX9_belch_275 8 rfl ?_
                                    refine q_aload_n F dX9_belch_277 0 rfl ?_
                                    refine q_iload F dX9_belch_278 5 rfl ?_
                                    refine q_iload_n F dX9_belch_280 2 rfl ?_
                                    refine q_iconst F dX9_belch_281 ?_
                                    refine q_callVP (n := 3) (T := TX9) F (c_X9_servedBy G hI M2 hm v52 p 0 zv2 (by omega)) rfl rfl hm.1 gX9_belch_X9_servedBy rfl ⟨by decide, by decide, by decide +kernel⟩ rfl ⟨rfl, rfl, Nat.le_of_ble_eq_true rfl, Nat.le_of_ble_eq_true rfl⟩ rfl (Nat.le_of_ble_eq_true rfl) dX9_belch_282 (fun h282 => ?_)
                                    refine q_iload_n F dX9_belch_285 1 rfl ?_
                                    refine q_callSP (n := 2) F (c_X9_has G hI M2 _ g (by omega)) rfl gX9_belch_X9_has ⟨by decide, by decide, by decide +kernel⟩ rfl ⟨rfl, rfl, Nat.le_of_ble_eq_true rfl, Nat.le_of_ble_eq_true rfl⟩ rfl (Nat.le_of_ble_eq_true rfl) dX9_belch_286 (fun h286 => ?_)
                                    refine q_ifb_eq F 297 dX9_belch_289 (by decide) (fun c289 => ?_) (fun c289 => ?_)
                                    · refine q_lconst (z := 0) F dX9_belch_297 rfl ?_
                                      refine q_ladd F dX9_belch_298 ?_
                                      refine q_nmJ (fun v299 e299 => ?_)
                                      refine q_lstore F dX9_belch_299 [(8, .long (q_J v299)), (0, .ref (q_ad G 0)), (1, .int (q_I g)), (2, .int (q_I p)), (3, .int (q_I t)), (4, .int (q_I w)), (5, .int (q_I v52)), (6, .int (q_I v58)), (7, .int (q_I s)), (10, .long (q_J low)), (12, .int (q_I o)), (13, .long (q_J own)), (15, .int (q_I q))] (Nat.le_of_ble_eq_true rfl) rfl ?_
                                      obtain ⟨v301, e301⟩ : ∃ z_ : Int, z_ = o + 1 := ⟨_, rfl⟩
                                      refine q_iinc F dX9_belch_301 10 rfl e301 [(12, .int (q_I v301)), (8, .long (q_J v299)), (0, .ref (q_ad G 0)), (1, .int (q_I g)), (2, .int (q_I p)), (3, .int (q_I t)), (4, .int (q_I w)), (5, .int (q_I v52)), (6, .int (q_I v58)), (7, .int (q_I s)), (10, .long (q_J low)), (13, .long (q_J own)), (15, .int (q_I q))] (Nat.le_of_ble_eq_true rfl) rfl ?_
                                      refine q_goto F 168 dX9_belch_304 (by decide) ?_
                                      refine q_drop [2, 3, 4, 5, 6, 7, 8, 9, 1, 10, 0] rfl ?_
                                      exact ih168_3 _ (by omega) v299 v301 M2 ⟨by omega, by
                                            rw [e301, show (o + 1).toNat = o.toNat + 1 by omega, q_smN_s, ← u2, Int.toNat_of_nonneg u1.1, e299]
                                            unfold q_bF
                                            rw [if_pos (by rw [← e180, ← e181]; exact c182), ← htk, if_neg (by rw [c289]; decide)], q_kz_tr u3 (q_kz_tr (q_an_kz p189) (q_kz_fr (k := 8) hi195.2.2.1 (by omega))), by rw [v2R, u4]⟩ rfl
                                    · refine q_lload F dX9_belch_292 11 rfl ?_
                                      refine q_goto F 298 dX9_belch_294 (by decide) ?_
                                      refine q_ladd F dX9_belch_298 ?_
                                      refine q_nmJ (fun v299 e299 => ?_)
                                      refine q_lstore F dX9_belch_299 [(8, .long (q_J v299)), (0, .ref (q_ad G 0)), (1, .int (q_I g)), (2, .int (q_I p)), (3, .int (q_I t)), (4, .int (q_I w)), (5, .int (q_I v52)), (6, .int (q_I v58)), (7, .int (q_I s)), (10, .long (q_J low)), (12, .int (q_I o)), (13, .long (q_J own)), (15, .int (q_I q))] (Nat.le_of_ble_eq_true rfl) rfl ?_
                                      obtain ⟨v301, e301⟩ : ∃ z_ : Int, z_ = o + 1 := ⟨_, rfl⟩
                                      refine q_iinc F dX9_belch_301 10 rfl e301 [(12, .int (q_I v301)), (8, .long (q_J v299)), (0, .ref (q_ad G 0)), (1, .int (q_I g)), (2, .int (q_I p)), (3, .int (q_I t)), (4, .int (q_I w)), (5, .int (q_I v52)), (6, .int (q_I v58)), (7, .int (q_I s)), (10, .long (q_J low)), (13, .long (q_J own)), (15, .int (q_I q))] (Nat.le_of_ble_eq_true rfl) rfl ?_
                                      refine q_goto F 168 dX9_belch_304 (by decide) ?_
                                      refine q_drop [2, 3, 4, 5, 6, 7, 8, 9, 1, 10, 0] rfl ?_
                                      exact ih168_3 _ (by omega) v299 v301 M2 ⟨by omega, by
                                            rw [e301, show (o + 1).toNat = o.toNat + 1 by omega, q_smN_s, ← u2, Int.toNat_of_nonneg u1.1, e299]
                                            unfold q_bF
                                            rw [if_pos (by rw [← e180, ← e181]; exact c182), ← htk, if_pos c289, hown], q_kz_tr u3 (q_kz_tr (q_an_kz p189) (q_kz_fr (k := 8) hi195.2.2.1 (by omega))), by rw [v2R, u4]⟩ rfl
                                  · refine q_lload F dX9_belch_202 11 rfl ?_
                                    refine q_iload F dX9_belch_204 7 rfl ?_
                                    refine q_iload F dX9_belch_206 12 rfl ?_
                                    refine q_callSP (n := 2) F (c_X9_has G hI M2 s q (by omega)) rfl gX9_belch_X9_has ⟨by decide, by decide, by decide +kernel⟩ rfl ⟨rfl, rfl, Nat.le_of_ble_eq_true rfl, Nat.le_of_ble_eq_true rfl⟩ rfl (Nat.le_of_ble_eq_true rfl) dX9_belch_208 (fun h208 => ?_)
                                    refine q_ifb_ne F 218 dX9_belch_211 (by decide) (fun c211 => ?_) (fun c211 => ?_)
                                    · refine q_iload F dX9_belch_218 10 rfl ?_
                                      refine q_iload F dX9_belch_220 12 rfl ?_
                                      refine q_callSP (n := 2) F (c_X9_has G hI M2 o q (by omega)) rfl gX9_belch_X9_has ⟨by decide, by decide, by decide +kernel⟩ rfl ⟨rfl, rfl, Nat.le_of_ble_eq_true rfl, Nat.le_of_ble_eq_true rfl⟩ rfl (Nat.le_of_ble_eq_true rfl) dX9_belch_222 (fun h222 => ?_)
                                      refine q_ifb_eq F 233 dX9_belch_225 (by decide) (fun c225 => ?_) (fun c225 => ?_)
                                      · refine q_bipush F dX9_belch_233 (by decide) ?_
                                        refine q_iload_n F dX9_belch_235 3 rfl ?_
                                        refine q_isub F dX9_belch_236 ?_
                                        refine q_i2l F dX9_belch_237 (by omega) ?_
                                        refine q_lmul F dX9_belch_238 ?_
                                        refine q_nmJ (fun v239 e239 => ?_)
                                        refine q_lstore F dX9_belch_239 [(13, .long (q_J v239)), (0, .ref (q_ad G 0)), (1, .int (q_I g)), (2, .int (q_I p)), (3, .int (q_I t)), (4, .int (q_I w)), (5, .int (q_I v52)), (6, .int (q_I v58)), (7, .int (q_I s)), (8, .long (q_J up)), (10, .long (q_J low)), (12, .int (q_I o)), (15, .int (q_I q))] (Nat.le_of_ble_eq_true rfl) rfl ?_
                                        refine q_aload_n F dX9_belch_241 1 rfl ?_
                                        refine q_getr (T := TX9) (ref := "LeastHungryModel") F huX9 rfl hm.1 11 (by decide) (by decide +kernel) rfl rfl dX9_belch_242 ?_
                                        refine q_iload F dX9_belch_245 12 rfl ?_
                                        refine q_iload F dX9_belch_247 11 rfl ?_
                                        refine q_iload F dX9_belch_249 12 rfl ?_
                                        refine q_callSP (n := 2) F (c_X9_has G hI M2 o q (by omega)) rfl gX9_belch_X9_has ⟨by decide, by decide, by decide +kernel⟩ rfl ⟨rfl, rfl, Nat.le_of_ble_eq_true rfl, Nat.le_of_ble_eq_true rfl⟩ rfl (Nat.le_of_ble_eq_true rfl) dX9_belch_251 (fun h251 => ?_)
                                        refine q_ifb_eq F 261 dX9_belch_254 (by decide) (fun c254 => ?_) (fun c254 => ?_)
                                        · refine q_aload_n F dX9_belch_261 1 rfl ?_
                                          refine q_getr (T := TX9) (ref := "LeastHungryModel") F huX9 rfl hm.1 11 (by decide) (by decide +kernel) rfl rfl dX9_belch_262 ?_
                                          refine q_iload F dX9_belch_265 12 rfl ?_
                                          refine q_iald F hm.2.2.2.2.2.2.2.2.1 (Nat.le_of_ble_eq_true rfl) (by omega) dX9_belch_267 (fun h267 => ?_)
                                          refine q_iast F hm.2.2.2.2.2.2.2.2.1 (Nat.le_of_ble_eq_true rfl) (by omega) (by omega) dX9_belch_268 (fun N268 eN268 => ?_)
                                          obtain ⟨v269, e269⟩ : ∃ z_ : Int, z_ = q + 1 := ⟨_, rfl⟩
                                          refine q_iinc F dX9_belch_269 12 rfl e269 [(15, .int (q_I v269)), (13, .long (q_J v239)), (0, .ref (q_ad G 0)), (1, .int (q_I g)), (2, .int (q_I p)), (3, .int (q_I t)), (4, .int (q_I w)), (5, .int (q_I v52)), (6, .int (q_I v58)), (7, .int (q_I s)), (8, .long (q_J up)), (10, .long (q_J low)), (12, .int (q_I o))] (Nat.le_of_ble_eq_true rfl) rfl ?_
                                          refine q_goto F 195 dX9_belch_272 (by decide) ?_
                                          refine q_drop [2, 3, 4, 5, 6, 7, 8, 9, 10, 11, 12, 1, 0] rfl ?_
                                          exact ih195_5 _ (by omega) v239 v269 N268 ⟨by omega, by
                                                have s1 := q_cnt_step (q_has o) (g := q) (by omega) (by omega)
                                                have s2 := q_cnt_step (q_has (q_and s (q_xor o (-1)))) (g := q) (by omega) (by omega)
                                                rw [q_has_and hsR ho hi195.1.1 c199] at s2
                                                rw [c225, if_neg (by decide)] at s1
                                                rw [c211, c225, Bool.not_false, Bool.and_true, if_pos rfl] at s2
                                                rw [e239, e269, s1, s2, hi195.2.1, show ((q_cnt (q_lt (q_has (q_and s (q_xor o (-1)))) q)) + 1).toNat = (q_cnt (q_lt (q_has (q_and s (q_xor o (-1)))) q)).toNat + 1 by omega, q_pw_s, Int.mul_assoc], fun j hj => by rw [eN268, q_up_ne hj]; exact hi195.2.2.1 j hj, fun y h0 h1 => by
                                                rw [eN268, q_up_at]
                                                by_cases hy : y = q
                                                · rw [if_pos hy, hy, c254]
                                                  exact hi195.2.2.2.2 q (by omega) (by omega)
                                                · rw [if_neg hy]
                                                  exact hi195.2.2.2.1 y h0 (by omega), fun y h0 h1 => by
                                                rw [eN268, q_up_at, if_neg (by omega)]
                                                exact hi195.2.2.2.2 y (by omega) h1⟩ rfl
                                        · refine q_iconst F dX9_belch_257 ?_
                                          refine q_goto F 268 dX9_belch_258 (by decide) ?_
                                          refine q_iast F hm.2.2.2.2.2.2.2.2.1 (Nat.le_of_ble_eq_true rfl) (by omega) (by omega) dX9_belch_268 (fun N268 eN268 => ?_)
                                          obtain ⟨v269, e269⟩ : ∃ z_ : Int, z_ = q + 1 := ⟨_, rfl⟩
                                          refine q_iinc F dX9_belch_269 12 rfl e269 [(15, .int (q_I v269)), (13, .long (q_J v239)), (0, .ref (q_ad G 0)), (1, .int (q_I g)), (2, .int (q_I p)), (3, .int (q_I t)), (4, .int (q_I w)), (5, .int (q_I v52)), (6, .int (q_I v58)), (7, .int (q_I s)), (8, .long (q_J up)), (10, .long (q_J low)), (12, .int (q_I o))] (Nat.le_of_ble_eq_true rfl) rfl ?_
                                          refine q_goto F 195 dX9_belch_272 (by decide) ?_
                                          refine q_drop [2, 3, 4, 5, 6, 7, 8, 9, 10, 11, 12, 1, 0] rfl ?_
                                          exact ih195_5 _ (by omega) v239 v269 N268 ⟨by omega, by
                                                have s1 := q_cnt_step (q_has o) (g := q) (by omega) (by omega)
                                                have s2 := q_cnt_step (q_has (q_and s (q_xor o (-1)))) (g := q) (by omega) (by omega)
                                                rw [q_has_and hsR ho hi195.1.1 c199] at s2
                                                rw [c225, if_neg (by decide)] at s1
                                                rw [c211, c225, Bool.not_false, Bool.and_true, if_pos rfl] at s2
                                                rw [e239, e269, s1, s2, hi195.2.1, show ((q_cnt (q_lt (q_has (q_and s (q_xor o (-1)))) q)) + 1).toNat = (q_cnt (q_lt (q_has (q_and s (q_xor o (-1)))) q)).toNat + 1 by omega, q_pw_s, Int.mul_assoc], fun j hj => by rw [eN268, q_up_ne hj]; exact hi195.2.2.1 j hj, fun y h0 h1 => by
                                                rw [eN268, q_up_at]
                                                by_cases hy : y = q
                                                · rw [if_pos hy, hy, c254]
                                                  rfl
                                                · rw [if_neg hy]
                                                  exact hi195.2.2.2.1 y h0 (by omega), fun y h0 h1 => by
                                                rw [eN268, q_up_at, if_neg (by omega)]
                                                exact hi195.2.2.2.2 y (by omega) h1⟩ rfl
                                      · refine q_iload_n F dX9_belch_228 3 rfl ?_
                                        refine q_i2l F dX9_belch_229 (by omega) ?_
                                        refine q_goto F 238 dX9_belch_230 (by decide) ?_
                                        refine q_lmul F dX9_belch_238 ?_
                                        refine q_nmJ (fun v239 e239 => ?_)
                                        refine q_lstore F dX9_belch_239 [(13, .long (q_J v239)), (0, .ref (q_ad G 0)), (1, .int (q_I g)), (2, .int (q_I p)), (3, .int (q_I t)), (4, .int (q_I w)), (5, .int (q_I v52)), (6, .int (q_I v58)), (7, .int (q_I s)), (8, .long (q_J up)), (10, .long (q_J low)), (12, .int (q_I o)), (15, .int (q_I q))] (Nat.le_of_ble_eq_true rfl) rfl ?_
                                        refine q_aload_n F dX9_belch_241 1 rfl ?_
                                        refine q_getr (T := TX9) (ref := "LeastHungryModel") F huX9 rfl hm.1 11 (by decide) (by decide +kernel) rfl rfl dX9_belch_242 ?_
                                        refine q_iload F dX9_belch_245 12 rfl ?_
                                        refine q_iload F dX9_belch_247 11 rfl ?_
                                        refine q_iload F dX9_belch_249 12 rfl ?_
                                        refine q_callSP (n := 2) F (c_X9_has G hI M2 o q (by omega)) rfl gX9_belch_X9_has ⟨by decide, by decide, by decide +kernel⟩ rfl ⟨rfl, rfl, Nat.le_of_ble_eq_true rfl, Nat.le_of_ble_eq_true rfl⟩ rfl (Nat.le_of_ble_eq_true rfl) dX9_belch_251 (fun h251 => ?_)
                                        refine q_ifb_eq F 261 dX9_belch_254 (by decide) (fun c254 => ?_) (fun c254 => ?_)
                                        · refine q_aload_n F dX9_belch_261 1 rfl ?_
                                          refine q_getr (T := TX9) (ref := "LeastHungryModel") F huX9 rfl hm.1 11 (by decide) (by decide +kernel) rfl rfl dX9_belch_262 ?_
                                          refine q_iload F dX9_belch_265 12 rfl ?_
                                          refine q_iald F hm.2.2.2.2.2.2.2.2.1 (Nat.le_of_ble_eq_true rfl) (by omega) dX9_belch_267 (fun h267 => ?_)
                                          refine q_iast F hm.2.2.2.2.2.2.2.2.1 (Nat.le_of_ble_eq_true rfl) (by omega) (by omega) dX9_belch_268 (fun N268 eN268 => ?_)
                                          obtain ⟨v269, e269⟩ : ∃ z_ : Int, z_ = q + 1 := ⟨_, rfl⟩
                                          refine q_iinc F dX9_belch_269 12 rfl e269 [(15, .int (q_I v269)), (13, .long (q_J v239)), (0, .ref (q_ad G 0)), (1, .int (q_I g)), (2, .int (q_I p)), (3, .int (q_I t)), (4, .int (q_I w)), (5, .int (q_I v52)), (6, .int (q_I v58)), (7, .int (q_I s)), (8, .long (q_J up)), (10, .long (q_J low)), (12, .int (q_I o))] (Nat.le_of_ble_eq_true rfl) rfl ?_
                                          refine q_goto F 195 dX9_belch_272 (by decide) ?_
                                          refine q_drop [2, 3, 4, 5, 6, 7, 8, 9, 10, 11, 12, 1, 0] rfl ?_
                                          exact ih195_5 _ (by omega) v239 v269 N268 ⟨by omega, by
                                                have s1 := q_cnt_step (q_has o) (g := q) (by omega) (by omega)
                                                have s2 := q_cnt_step (q_has (q_and s (q_xor o (-1)))) (g := q) (by omega) (by omega)
                                                rw [q_has_and hsR ho hi195.1.1 c199] at s2
                                                rw [c225, if_pos rfl] at s1
                                                rw [c225, Bool.not_true, Bool.and_false, if_neg (by decide)] at s2
                                                rw [e239, e269, s1, s2, hi195.2.1, show ((q_cnt (q_lt (q_has o) q)) + 1).toNat = (q_cnt (q_lt (q_has o) q)).toNat + 1 by omega, q_pw_s, Int.mul_right_comm], fun j hj => by rw [eN268, q_up_ne hj]; exact hi195.2.2.1 j hj, fun y h0 h1 => by
                                                rw [eN268, q_up_at]
                                                by_cases hy : y = q
                                                · rw [if_pos hy, hy, c254]
                                                  exact hi195.2.2.2.2 q (by omega) (by omega)
                                                · rw [if_neg hy]
                                                  exact hi195.2.2.2.1 y h0 (by omega), fun y h0 h1 => by
                                                rw [eN268, q_up_at, if_neg (by omega)]
                                                exact hi195.2.2.2.2 y (by omega) h1⟩ rfl
                                        · refine q_iconst F dX9_belch_257 ?_
                                          refine q_goto F 268 dX9_belch_258 (by decide) ?_
                                          refine q_iast F hm.2.2.2.2.2.2.2.2.1 (Nat.le_of_ble_eq_true rfl) (by omega) (by omega) dX9_belch_268 (fun N268 eN268 => ?_)
                                          obtain ⟨v269, e269⟩ : ∃ z_ : Int, z_ = q + 1 := ⟨_, rfl⟩
                                          refine q_iinc F dX9_belch_269 12 rfl e269 [(15, .int (q_I v269)), (13, .long (q_J v239)), (0, .ref (q_ad G 0)), (1, .int (q_I g)), (2, .int (q_I p)), (3, .int (q_I t)), (4, .int (q_I w)), (5, .int (q_I v52)), (6, .int (q_I v58)), (7, .int (q_I s)), (8, .long (q_J up)), (10, .long (q_J low)), (12, .int (q_I o))] (Nat.le_of_ble_eq_true rfl) rfl ?_
                                          refine q_goto F 195 dX9_belch_272 (by decide) ?_
                                          refine q_drop [2, 3, 4, 5, 6, 7, 8, 9, 10, 11, 12, 1, 0] rfl ?_
                                          exact ih195_5 _ (by omega) v239 v269 N268 ⟨by omega, by
                                                have s1 := q_cnt_step (q_has o) (g := q) (by omega) (by omega)
                                                have s2 := q_cnt_step (q_has (q_and s (q_xor o (-1)))) (g := q) (by omega) (by omega)
                                                rw [q_has_and hsR ho hi195.1.1 c199] at s2
                                                rw [c225, if_pos rfl] at s1
                                                rw [c225, Bool.not_true, Bool.and_false, if_neg (by decide)] at s2
                                                rw [e239, e269, s1, s2, hi195.2.1, show ((q_cnt (q_lt (q_has o) q)) + 1).toNat = (q_cnt (q_lt (q_has o) q)).toNat + 1 by omega, q_pw_s, Int.mul_right_comm], fun j hj => by rw [eN268, q_up_ne hj]; exact hi195.2.2.1 j hj, fun y h0 h1 => by
                                                rw [eN268, q_up_at]
                                                by_cases hy : y = q
                                                · rw [if_pos hy, hy, c254]
                                                  rfl
                                                · rw [if_neg hy]
                                                  exact hi195.2.2.2.1 y h0 (by omega), fun y h0 h1 => by
                                                rw [eN268, q_up_at, if_neg (by omega)]
                                                exact hi195.2.2.2.2 y (by omega) h1⟩ rfl
                                    · refine q_lconst (z := 1) F dX9_belch_214 rfl ?_
                                      refine q_goto F 238 dX9_belch_215 (by decide) ?_
                                      refine q_lmul F dX9_belch_238 ?_
                                      refine q_nmJ (fun v239 e239 => ?_)
                                      refine q_lstore F dX9_belch_239 [(13, .long (q_J v239)), (0, .ref (q_ad G 0)), (1, .int (q_I g)), (2, .int (q_I p)), (3, .int (q_I t)), (4, .int (q_I w)), (5, .int (q_I v52)), (6, .int (q_I v58)), (7, .int (q_I s)), (8, .long (q_J up)), (10, .long (q_J low)), (12, .int (q_I o)), (15, .int (q_I q))] (Nat.le_of_ble_eq_true rfl) rfl ?_
                                      refine q_aload_n F dX9_belch_241 1 rfl ?_
                                      refine q_getr (T := TX9) (ref := "LeastHungryModel") F huX9 rfl hm.1 11 (by decide) (by decide +kernel) rfl rfl dX9_belch_242 ?_
                                      refine q_iload F dX9_belch_245 12 rfl ?_
                                      refine q_iload F dX9_belch_247 11 rfl ?_
                                      refine q_iload F dX9_belch_249 12 rfl ?_
                                      refine q_callSP (n := 2) F (c_X9_has G hI M2 o q (by omega)) rfl gX9_belch_X9_has ⟨by decide, by decide, by decide +kernel⟩ rfl ⟨rfl, rfl, Nat.le_of_ble_eq_true rfl, Nat.le_of_ble_eq_true rfl⟩ rfl (Nat.le_of_ble_eq_true rfl) dX9_belch_251 (fun h251 => ?_)
                                      refine q_ifb_eq F 261 dX9_belch_254 (by decide) (fun c254 => ?_) (fun c254 => ?_)
                                      · refine q_aload_n F dX9_belch_261 1 rfl ?_
                                        refine q_getr (T := TX9) (ref := "LeastHungryModel") F huX9 rfl hm.1 11 (by decide) (by decide +kernel) rfl rfl dX9_belch_262 ?_
                                        refine q_iload F dX9_belch_265 12 rfl ?_
                                        refine q_iald F hm.2.2.2.2.2.2.2.2.1 (Nat.le_of_ble_eq_true rfl) (by omega) dX9_belch_267 (fun h267 => ?_)
                                        refine q_iast F hm.2.2.2.2.2.2.2.2.1 (Nat.le_of_ble_eq_true rfl) (by omega) (by omega) dX9_belch_268 (fun N268 eN268 => ?_)
                                        obtain ⟨v269, e269⟩ : ∃ z_ : Int, z_ = q + 1 := ⟨_, rfl⟩
                                        refine q_iinc F dX9_belch_269 12 rfl e269 [(15, .int (q_I v269)), (13, .long (q_J v239)), (0, .ref (q_ad G 0)), (1, .int (q_I g)), (2, .int (q_I p)), (3, .int (q_I t)), (4, .int (q_I w)), (5, .int (q_I v52)), (6, .int (q_I v58)), (7, .int (q_I s)), (8, .long (q_J up)), (10, .long (q_J low)), (12, .int (q_I o))] (Nat.le_of_ble_eq_true rfl) rfl ?_
                                        refine q_goto F 195 dX9_belch_272 (by decide) ?_
                                        refine q_drop [2, 3, 4, 5, 6, 7, 8, 9, 10, 11, 12, 1, 0] rfl ?_
                                        exact ih195_5 _ (by omega) v239 v269 N268 ⟨by omega, by
                                              have s1 := q_cnt_step (q_has o) (g := q) (by omega) (by omega)
                                              have s2 := q_cnt_step (q_has (q_and s (q_xor o (-1)))) (g := q) (by omega) (by omega)
                                              rw [q_has_and hsR ho hi195.1.1 c199] at s2
                                              rw [(hoq c211), if_neg (by decide)] at s1
                                              rw [c211, Bool.false_and, if_neg (by decide)] at s2
                                              rw [e239, e269, s1, s2, hi195.2.1]
                                              omega, fun j hj => by rw [eN268, q_up_ne hj]; exact hi195.2.2.1 j hj, fun y h0 h1 => by
                                              rw [eN268, q_up_at]
                                              by_cases hy : y = q
                                              · rw [if_pos hy, hy, c254]
                                                exact hi195.2.2.2.2 q (by omega) (by omega)
                                              · rw [if_neg hy]
                                                exact hi195.2.2.2.1 y h0 (by omega), fun y h0 h1 => by
                                              rw [eN268, q_up_at, if_neg (by omega)]
                                              exact hi195.2.2.2.2 y (by omega) h1⟩ rfl
                                      · refine q_iconst F dX9_belch_257 ?_
                                        refine q_goto F 268 dX9_belch_258 (by decide) ?_
                                        refine q_iast F hm.2.2.2.2.2.2.2.2.1 (Nat.le_of_ble_eq_true rfl) (by omega) (by omega) dX9_belch_268 (fun N268 eN268 => ?_)
                                        obtain ⟨v269, e269⟩ : ∃ z_ : Int, z_ = q + 1 := ⟨_, rfl⟩
                                        refine q_iinc F dX9_belch_269 12 rfl e269 [(15, .int (q_I v269)), (13, .long (q_J v239)), (0, .ref (q_ad G 0)), (1, .int (q_I g)), (2, .int (q_I p)), (3, .int (q_I t)), (4, .int (q_I w)), (5, .int (q_I v52)), (6, .int (q_I v58)), (7, .int (q_I s)), (8, .long (q_J up)), (10, .long (q_J low)), (12, .int (q_I o))] (Nat.le_of_ble_eq_true rfl) rfl ?_
                                        refine q_goto F 195 dX9_belch_272 (by decide) ?_
                                        refine q_drop [2, 3, 4, 5, 6, 7, 8, 9, 10, 11, 12, 1, 0] rfl ?_
                                        exact ih195_5 _ (by omega) v239 v269 N268 ⟨by omega, by
                                              have s1 := q_cnt_step (q_has o) (g := q) (by omega) (by omega)
                                              have s2 := q_cnt_step (q_has (q_and s (q_xor o (-1)))) (g := q) (by omega) (by omega)
                                              rw [q_has_and hsR ho hi195.1.1 c199] at s2
                                              rw [(hoq c211), if_neg (by decide)] at s1
                                              rw [c211, Bool.false_and, if_neg (by decide)] at s2
                                              rw [e239, e269, s1, s2, hi195.2.1]
                                              omega, fun j hj => by rw [eN268, q_up_ne hj]; exact hi195.2.2.1 j hj, fun y h0 h1 => by
                                              rw [eN268, q_up_at]
                                              by_cases hy : y = q
                                              · rw [if_pos hy, hy, c254]
                                                rfl
                                              · rw [if_neg hy]
                                                exact hi195.2.2.2.1 y h0 (by omega), fun y h0 h1 => by
                                              rw [eN268, q_up_at, if_neg (by omega)]
                                              exact hi195.2.2.2.2 y (by omega) h1⟩ rfl
                              refine q_drop [2, 3, 4, 5, 6, 7, 8, 9, 10, 11, 12, 1, 0] rfl ?_
                              exact lp195_5 _ 1 0 N189 ⟨by omega, by rw [q_cnt_0, q_cnt_0]; rfl, fun _ _ => rfl, fun y h0 h1 => by omega, fun y h0 h1 => by rw [(p189.2 y h0 h1).1.2.1, hM1.2.1]⟩ rfl
                      refine q_drop [1, 2, 3, 4, 5, 6, 7, 8, 9, 10, 0] rfl ?_
                      exact lp168_3 _ 0 0 N162 ⟨by omega, rfl, q_kz_rf, k162b⟩ rfl
                    · refine q_lload F dX9_belch_145 9 rfl ?_
                      refine q_ldc2 (n := 10) F dX9_belch_147 (by decide +kernel) ?_
                      refine q_lmul F dX9_belch_150 ?_
                      refine q_nmJ (fun v151 e151 => ?_)
                      refine q_lstore F dX9_belch_151 [(10, .long (q_J v151)), (0, .ref (q_ad G 0)), (1, .int (q_I g)), (2, .int (q_I p)), (3, .int (q_I t)), (4, .int (q_I w)), (5, .int (q_I v52)), (6, .int (q_I v58)), (7, .int (q_I s)), (8, .long (q_J 0)), (12, .int (q_I k))] (Nat.le_of_ble_eq_true rfl) rfl ?_
                      obtain ⟨v153, e153⟩ : ∃ z_ : Int, z_ = k + 1 := ⟨_, rfl⟩
                      refine q_iinc F dX9_belch_153 10 rfl e153 [(12, .int (q_I v153)), (10, .long (q_J v151)), (0, .ref (q_ad G 0)), (1, .int (q_I g)), (2, .int (q_I p)), (3, .int (q_I t)), (4, .int (q_I w)), (5, .int (q_I v52)), (6, .int (q_I v58)), (7, .int (q_I s)), (8, .long (q_J 0))] (Nat.le_of_ble_eq_true rfl) rfl ?_
                      refine q_goto F 135 dX9_belch_156 (by decide) ?_
                      refine q_drop [2, 3, 4, 5, 6, 7, 8, 9, 10, 1, 0] rfl ?_
                      exact ih135_2 _ (by omega) v151 v153 ⟨by omega, by rw [e151, hi135.2, e153, show (k + 1).toNat = k.toNat + 1 by omega]; rfl⟩ rfl
                refine q_drop [3, 4, 5, 6, 7, 8, 9, 10, 2, 1, 0] rfl ?_
                exact lp135_2 _ 1 0 ⟨by omega, rfl⟩ rfl
              · refine q_iload F dX9_belch_73 7 rfl ?_
                refine q_aload_n F dX9_belch_75 0 rfl ?_
                refine q_geti (T := TX9) (ref := "LeastHungryModel") F huX9 rfl hm.1 0 (by decide) (by decide +kernel) rfl 0 rfl rfl dX9_belch_76 (fun h76 => ?_)
                refine q_iload F dX9_belch_79 8 rfl ?_
                refine q_callSP (n := 2) F (c_X9_has G hI M _ x (by omega)) rfl gX9_belch_X9_has ⟨by decide, by decide, by decide +kernel⟩ rfl ⟨rfl, rfl, Nat.le_of_ble_eq_true rfl, Nat.le_of_ble_eq_true rfl⟩ rfl (Nat.le_of_ble_eq_true rfl) dX9_belch_81 (fun h81 => ?_)
                refine q_ifb_eq F 116 dX9_belch_84 (by decide) (fun c84 => ?_) (fun c84 => ?_)
                · refine q_iconst F dX9_belch_116 ?_
                  refine q_ior F dX9_belch_117 (fun z117 e117 h117 => ?_)
                  refine q_istore F dX9_belch_118 [(7, .int (q_I z117)), (0, .ref (q_ad G 0)), (1, .int (q_I g)), (2, .int (q_I p)), (3, .int (q_I t)), (4, .int (q_I w)), (5, .int (q_I v52)), (6, .int (q_I v58)), (8, .int (q_I x))] (Nat.le_of_ble_eq_true rfl) rfl ?_
                  obtain ⟨v120, e120⟩ : ∃ z_ : Int, z_ = x + 1 := ⟨_, rfl⟩
                  refine q_iinc F dX9_belch_120 8 rfl e120 [(8, .int (q_I v120)), (7, .int (q_I z117)), (0, .ref (q_ad G 0)), (1, .int (q_I g)), (2, .int (q_I p)), (3, .int (q_I t)), (4, .int (q_I w)), (5, .int (q_I v52)), (6, .int (q_I v58))] (Nat.le_of_ble_eq_true rfl) rfl ?_
                  refine q_goto F 66 dX9_belch_123 (by decide) ?_
                  refine q_drop [2, 3, 4, 5, 6, 7, 8, 1, 0] rfl ?_
                  exact ih66_1 _ (by omega) z117 v120 ⟨by omega, by rw [e120, q_set_step _ (by omega) (by omega), if_neg (by unfold q_ins; rw [c84]; simp), e117, q_or_0 hsR.1 hsR.2]; exact hi66.2⟩ rfl
                · refine q_aload_n F dX9_belch_87 0 rfl ?_
                  refine q_getr (T := TX9) (ref := "LeastHungryModel") F huX9 rfl hm.1 3 (by decide) (by decide +kernel) rfl rfl dX9_belch_88 ?_
                  refine q_iload F dX9_belch_91 8 rfl ?_
                  refine q_iald F hm.2.2.2.1 (Nat.le_of_ble_eq_true rfl) (by omega) dX9_belch_93 (fun h93 => ?_)
                  refine q_iload F dX9_belch_94 5 rfl ?_
                  refine q_icmp_ne F 116 dX9_belch_96 (by decide) (by omega) (fun c96 => ?_) (fun c96 => ?_)
                  · refine q_iconst F dX9_belch_116 ?_
                    refine q_ior F dX9_belch_117 (fun z117 e117 h117 => ?_)
                    refine q_istore F dX9_belch_118 [(7, .int (q_I z117)), (0, .ref (q_ad G 0)), (1, .int (q_I g)), (2, .int (q_I p)), (3, .int (q_I t)), (4, .int (q_I w)), (5, .int (q_I v52)), (6, .int (q_I v58)), (8, .int (q_I x))] (Nat.le_of_ble_eq_true rfl) rfl ?_
                    obtain ⟨v120, e120⟩ : ∃ z_ : Int, z_ = x + 1 := ⟨_, rfl⟩
                    refine q_iinc F dX9_belch_120 8 rfl e120 [(8, .int (q_I v120)), (7, .int (q_I z117)), (0, .ref (q_ad G 0)), (1, .int (q_I g)), (2, .int (q_I p)), (3, .int (q_I t)), (4, .int (q_I w)), (5, .int (q_I v52)), (6, .int (q_I v58))] (Nat.le_of_ble_eq_true rfl) rfl ?_
                    refine q_goto F 66 dX9_belch_123 (by decide) ?_
                    refine q_drop [2, 3, 4, 5, 6, 7, 8, 1, 0] rfl ?_
                    exact ih66_1 _ (by omega) z117 v120 ⟨by omega, by rw [e120, q_set_step _ (by omega) (by omega), if_neg (by unfold q_ins; rw [decide_eq_false c96]; simp), e117, q_or_0 hsR.1 hsR.2]; exact hi66.2⟩ rfl
                  · refine q_aload_n F dX9_belch_99 0 rfl ?_
                    refine q_getr (T := TX9) (ref := "LeastHungryModel") F huX9 rfl hm.1 2 (by decide) (by decide +kernel) rfl rfl dX9_belch_100 ?_
                    refine q_iload F dX9_belch_103 8 rfl ?_
                    refine q_iald F hm.2.2.1 (Nat.le_of_ble_eq_true rfl) (by omega) dX9_belch_105 (fun h105 => ?_)
                    refine q_if_le F 116 dX9_belch_106 (by decide) (by omega) (fun c106 => ?_) (fun c106 => ?_)
                    · refine q_iconst F dX9_belch_116 ?_
                      refine q_ior F dX9_belch_117 (fun z117 e117 h117 => ?_)
                      refine q_istore F dX9_belch_118 [(7, .int (q_I z117)), (0, .ref (q_ad G 0)), (1, .int (q_I g)), (2, .int (q_I p)), (3, .int (q_I t)), (4, .int (q_I w)), (5, .int (q_I v52)), (6, .int (q_I v58)), (8, .int (q_I x))] (Nat.le_of_ble_eq_true rfl) rfl ?_
                      obtain ⟨v120, e120⟩ : ∃ z_ : Int, z_ = x + 1 := ⟨_, rfl⟩
                      refine q_iinc F dX9_belch_120 8 rfl e120 [(8, .int (q_I v120)), (7, .int (q_I z117)), (0, .ref (q_ad G 0)), (1, .int (q_I g)), (2, .int (q_I p)), (3, .int (q_I t)), (4, .int (q_I w)), (5, .int (q_I v52)), (6, .int (q_I v58))] (Nat.le_of_ble_eq_true rfl) rfl ?_
                      refine q_goto F 66 dX9_belch_123 (by decide) ?_
                      refine q_drop [2, 3, 4, 5, 6, 7, 8, 1, 0] rfl ?_
                      exact ih66_1 _ (by omega) z117 v120 ⟨by omega, by rw [e120, q_set_step _ (by omega) (by omega), if_neg (by rw [decide_eq_false (show ¬ 0 < M 2 x by omega)]; simp), e117, q_or_0 hsR.1 hsR.2]; exact hi66.2⟩ rfl
                    · refine q_iconst F dX9_belch_109 ?_
                      refine q_iload F dX9_belch_110 8 rfl ?_
                      refine q_ishl F dX9_belch_112 (fun z112 e112 h112 => ?_)
                      refine q_goto F 117 dX9_belch_113 (by decide) ?_
                      refine q_ior F dX9_belch_117 (fun z117 e117 h117 => ?_)
                      refine q_istore F dX9_belch_118 [(7, .int (q_I z117)), (0, .ref (q_ad G 0)), (1, .int (q_I g)), (2, .int (q_I p)), (3, .int (q_I t)), (4, .int (q_I w)), (5, .int (q_I v52)), (6, .int (q_I v58)), (8, .int (q_I x))] (Nat.le_of_ble_eq_true rfl) rfl ?_
                      obtain ⟨v120, e120⟩ : ∃ z_ : Int, z_ = x + 1 := ⟨_, rfl⟩
                      refine q_iinc F dX9_belch_120 8 rfl e120 [(8, .int (q_I v120)), (7, .int (q_I z117)), (0, .ref (q_ad G 0)), (1, .int (q_I g)), (2, .int (q_I p)), (3, .int (q_I t)), (4, .int (q_I w)), (5, .int (q_I v52)), (6, .int (q_I v58))] (Nat.le_of_ble_eq_true rfl) rfl ?_
                      refine q_goto F 66 dX9_belch_123 (by decide) ?_
                      refine q_drop [2, 3, 4, 5, 6, 7, 8, 1, 0] rfl ?_
                      exact ih66_1 _ (by omega) z117 v120 ⟨by omega, by rw [e120, q_set_step _ (by omega) (by omega), if_pos (by unfold q_ins; rw [c84, decide_eq_true c96, decide_eq_true (show 0 < M 2 x by omega)]; rfl), e117, e112, ← hi66.2]⟩ rfl
          refine q_drop [4, 5, 6, 7, 8, 3, 2, 1, 0] rfl ?_
          exact lp66_1 _ 0 0 ⟨by omega, (q_set_0 _).symm⟩ rfl
        · refine q_ldc2 (n := (-1000000000000000002)) F dX9_belch_42 (by decide +kernel) ?_
          exact q_lret F FL dX9_belch_45 ⟨by unfold S_belch; rw [if_pos c5, if_neg (fun h => absurd h.2.2 (q_df c39))], q_kz_rf⟩
  · refine q_ldc2 (n := (-1000000000000000001)) F dX9_belch_8 (by decide +kernel) ?_
    exact q_lret F FL dX9_belch_11 ⟨by unfold S_belch; rw [if_neg (by simp [c5])], q_kz_rf⟩
