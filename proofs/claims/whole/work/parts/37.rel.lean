/-! what ties the class to the reference, and that every call keeps it -/
def q_ki (MX MZ : q_M) (b : Nat) (n : Int) : Prop := MX b 5 = MZ 18 n ∧ (¬ MX b 5 = 0 → (MX (b + 1) 4 = MZ 17 (50 * n + 40) ∧ MX (b + 1) 5 = MZ 17 (50 * n + 41)) ∧ q_simR (MZ 17 (50 * n + 40)) (MX (b + 1 + 1)) (MX (b + 1 + 2)) (MX (b + 1 + 3)) (fun x => MZ 17 (50 * n + x)) (fun x => MZ 17 (50 * n + 6 + x)) (fun x => MZ 17 (50 * n + 12 + x)) ∧
  (∀ x, 0 ≤ x → x < 6 → MX (b + 6) x = MZ 17 (50 * n + 18 + x)) ∧ MX b 4 = MZ 17 (50 * n + 42) ∧ (∀ i, 0 ≤ i → i < 8 → MX (b + 7) i = MZ 17 (50 * n + 24 + 2 * i) ∧ MX (b + 8) i = MZ 17 (50 * n + 24 + (2 * i + 1))) ∧
  (q_hv (fun x => MZ 17 (50 * n + x)) ∧ q_fvv (fun x => MZ 17 (50 * n + 6 + x)) ∧ q_av (fun x => MZ 17 (50 * n + 12 + x))) ∧ q_sy (fun x => MZ 17 (50 * n + 18 + x)))
def q_rel (MX MZ : q_M) : Prop := q_X MX ∧ q_Z MZ ∧ q_sy (MZ 4) ∧ (MX (1 + 1) 4 = MZ 0 0 ∧ MX (1 + 1) 5 = MZ 0 4) ∧ q_simR (MZ 0 0) (MX (1 + 1 + 1)) (MX (1 + 1 + 2)) (MX (1 + 1 + 3)) (MZ 1) (MZ 2) (MZ 3) ∧ (∀ x, 0 ≤ x → x < 6 → MX (1 + 6) x = MZ 4 x) ∧ (MX 1 4 = MZ 0 6 ∧ ∀ i, 0 ≤ i → i < 8 → MX (1 + 7) i = MZ 5 (2 * i) ∧ MX (1 + 8) i = MZ 5 (2 * i + 1)) ∧ (MX 28 1 = MZ 0 8 ∧ MX (28 + 1) = MZ 6) ∧ q_ki MX MZ 10 0 ∧ q_ki MX MZ 19 1
theorem q_ki_fr {MX MX' MZ MZ' : q_M} {b : Nat} {n : Int} (h : q_ki MX MZ b n) (ex : ∀ j, b ≤ j → j ≤ b + 8 → j ≠ b + 5 → MX' j = MX j) (e17 : ∀ i, 50 * n ≤ i → i < 50 * n + 43 → MZ' 17 i = MZ 17 i) (e18 : MZ' 18 n = MZ 18 n) : q_ki MX' MZ' b n := by
  obtain ⟨h1, h2⟩ := h
  refine ⟨by rw [ex b (by omega) (by omega) (by omega), e18]; exact h1, fun hk => ?_⟩
  rw [ex b (by omega) (by omega) (by omega)] at hk
  obtain ⟨⟨a1, a2⟩, a3, a4, a5, a6, ⟨a7, a8, a9⟩, a10⟩ := h2 hk
  refine ⟨⟨?_, ?_⟩, fun x hx => ?_, fun x x0 x1 => ?_, ?_, fun i i0 i1 => ?_, ⟨fun x x0 x1 => ?_, fun x x0 x1 => ?_, fun x x0 x1 => ?_⟩, fun x y x0 x1 y0 y1 => ?_⟩
  · rw [ex (b + 1) (by omega) (by omega) (by omega), e17 _ (by omega) (by omega)]; exact a1
  · rw [ex (b + 1) (by omega) (by omega) (by omega), e17 _ (by omega) (by omega)]; exact a2
  · rw [e17 _ (by omega) (by omega)] at hx
    have hi := q_has_in hx
    show MX' (b + 1 + 1) x = MZ' 17 (50 * n + x) ∧ MX' (b + 1 + 2) x = MZ' 17 (50 * n + 6 + x) ∧ MX' (b + 1 + 3) x = MZ' 17 (50 * n + 12 + x)
    rw [ex (b + 1 + 1) (by omega) (by omega) (by omega), ex (b + 1 + 2) (by omega) (by omega) (by omega), ex (b + 1 + 3) (by omega) (by omega) (by omega), e17 _ (by omega) (by omega), e17 _ (by omega) (by omega), e17 _ (by omega) (by omega)]
    exact a3 x hx
  · rw [ex (b + 6) (by omega) (by omega) (by omega), e17 _ (by omega) (by omega)]; exact a4 x x0 x1
  · rw [ex b (by omega) (by omega) (by omega), e17 _ (by omega) (by omega)]; exact a5
  · rw [ex (b + 7) (by omega) (by omega) (by omega), ex (b + 8) (by omega) (by omega) (by omega), e17 _ (by omega) (by omega), e17 _ (by omega) (by omega)]; exact a6 i i0 i1
  · show 0 ≤ MZ' 17 (50 * n + x) ∧ MZ' 17 (50 * n + x) ≤ 20
    rw [e17 _ (by omega) (by omega)]; exact a7 x x0 x1
  · show 0 ≤ MZ' 17 (50 * n + 6 + x) ∧ MZ' 17 (50 * n + 6 + x) ≤ 9
    rw [e17 _ (by omega) (by omega)]; exact a8 x x0 x1
  · show 0 ≤ MZ' 17 (50 * n + 12 + x) ∧ MZ' 17 (50 * n + 12 + x) ≤ 2
    rw [e17 _ (by omega) (by omega)]; exact a9 x x0 x1
  · show q_has (MZ' 17 (50 * n + 18 + x)) y = q_has (MZ' 17 (50 * n + 18 + y)) x
    rw [e17 _ (by omega) (by omega), e17 _ (by omega) (by omega)]; exact a10 x y x0 x1 y0 y1
/-- a call that asks -/
theorem q_rel_q {MX MX' MZ MZ' : q_M} (h : q_rel MX MZ) (kp : q_kp MX MX') (w : q_ww MX') (kz : q_kz MZ MZ') : q_rel MX' MZ' := by
  obtain ⟨h1, h2, h3, h4, h5, h6, h7, h8, h9, h10⟩ := h
  have e17 : MZ' 17 = MZ 17 := kz.1 17 (by omega)
  have e18 : MZ' 18 = MZ 18 := kz.1 18 (by omega)
  refine ⟨q_X_kp h1 kp w, q_Z_kz h2 kz, ?_, ?_, ?_, ?_, ?_, ?_, ?_, ?_⟩
  · rw [kz.1 4 (by omega)]; exact h3
  · rw [kp (1 + 1) (by omega) (by omega), kz.2.1, kz.2.2.1]; exact h4
  · rw [kp (1 + 1 + 1) (by omega) (by omega), kp (1 + 1 + 2) (by omega) (by omega), kp (1 + 1 + 3) (by omega) (by omega), kz.2.1, kz.1 1 (by omega), kz.1 2 (by omega), kz.1 3 (by omega)]; exact h5
  · rw [kp (1 + 6) (by omega) (by omega), kz.1 4 (by omega)]; exact h6
  · rw [kp 1 (by omega) (by omega), kp (1 + 7) (by omega) (by omega), kp (1 + 8) (by omega) (by omega), kz.2.2.2.1, kz.1 5 (by omega)]; exact h7
  · rw [kp 28 (by omega) (by omega), kp (28 + 1) (by omega) (by omega), kz.2.2.2.2, kz.1 6 (by omega)]; exact h8
  · exact q_ki_fr h9 (fun j a b c => kp j (by omega) (by omega)) (fun i _ _ => by rw [e17]) (by rw [e18])
  · exact q_ki_fr h10 (fun j a b c => kp j (by omega) (by omega)) (fun i _ _ => by rw [e17]) (by rw [e18])
/-- frames of the class and of the reference, for calls that change something -/
theorem q_X_ch {M M' : q_M} (h : q_X M) (hc : q_cv M' (1 + 1)) (hf : q_fm (M' (1 + 6))) (hs : q_sv M' 1) (hp : q_pv M' 28) (hw : M' (56 + 1) = M (56 + 1)) (hi : ∀ j, 10 ≤ j → j ≤ 27 → M' j = M j) : q_X M' := by
  obtain ⟨-, -, -, -, h5, h6, h7⟩ := h
  have iv : ∀ b, b = 10 ∨ b = 19 → q_iv M b → q_iv M' b := fun b hb h => by
    unfold q_iv q_sv
    rw [hi b (by omega) (by omega), hi (b + 6) (by omega) (by omega), hi (b + 7) (by omega) (by omega), hi (b + 8) (by omega) (by omega)]
    exact ⟨h.1, q_cv_eq h.2.1 (fun j h1 h2 => hi j (by omega) (by omega)), h.2.2.1, h.2.2.2⟩
  exact ⟨hc, hf, hs, hp, by unfold q_ww; rw [hw]; exact h5, iv 10 (Or.inl rfl) h6, iv 19 (Or.inr rfl) h7⟩
theorem q_has_or {s g x : Int} (g0 : 0 ≤ g) (g1 : g < 6) (h : q_has (q_set (fun y => q_has s y || decide (y = g))) x = true) : x = g ∨ q_has s x = true := by
  have hi := q_has_in h
  rw [q_has_set hi.1 hi.2] at h
  by_cases hx : x = g
  · exact Or.inl hx
  · rw [decide_eq_false hx, Bool.or_false] at h
    exact Or.inr h
theorem q_rel_guest {MX MX' MZ MZ' : q_M} {g h f a zX zZ : Int} (r : q_rel MX MZ)
    (pX : (¬ (0 ≤ g ∧ g ≤ 5) → zX = -1 ∧ MX' = MX) ∧ (0 ≤ g ∧ g ≤ 5 → ¬ ((0 ≤ h ∧ h ≤ 20) ∧ (0 ≤ f ∧ f ≤ 9) ∧ (0 ≤ a ∧ a ≤ 2)) → zX = -2 ∧ MX' = MX) ∧ (0 ≤ g ∧ g ≤ 5 → (0 ≤ h ∧ h ≤ 20) ∧ (0 ≤ f ∧ f ≤ 9) ∧ (0 ≤ a ∧ a ≤ 2) → zX = q_cnt (fun x => q_has (MX (1 + 1) 4) x || decide (x = g)) ∧ MX' = q_up (q_up (q_up (q_up MX (1 + 1 + 1) g h) (1 + 1 + 2) g f) (1 + 1 + 3) g a) (1 + 1) 4 (q_set (fun x => q_has (MX (1 + 1) 4) x || decide (x = g)))))
    (pZ : (¬ (0 ≤ g ∧ g ≤ 5) → zZ = -1 ∧ MZ' = MZ) ∧ (0 ≤ g ∧ g ≤ 5 → ¬ ((0 ≤ h ∧ h ≤ 20) ∧ (0 ≤ f ∧ f ≤ 9) ∧ (0 ≤ a ∧ a ≤ 2)) → zZ = -2 ∧ MZ' = MZ) ∧ (0 ≤ g ∧ g ≤ 5 → (0 ≤ h ∧ h ≤ 20) ∧ (0 ≤ f ∧ f ≤ 9) ∧ (0 ≤ a ∧ a ≤ 2) → zZ = q_cnt (fun x => q_has (MZ 0 0) x || decide (x = g)) ∧ MZ' = q_up (q_up (q_up (q_up MZ 0 0 (q_set (fun x => q_has (MZ 0 0) x || decide (x = g)))) 1 g h) 2 g f) 3 g a)) : zX = zZ ∧ q_rel MX' MZ' := by
  by_cases c1 : 0 ≤ g ∧ g ≤ 5
  · by_cases c2 : (0 ≤ h ∧ h ≤ 20) ∧ (0 ≤ f ∧ f ≤ 9) ∧ (0 ≤ a ∧ a ≤ 2)
    · obtain ⟨e1, eX⟩ := pX.2.2 c1 c2
      obtain ⟨e2, eZ⟩ := pZ.2.2 c1 c2
      obtain ⟨h1, h2, h3, h4, h5, h6, h7, h8, h9, h10⟩ := r
      refine ⟨by rw [e1, e2, h4.1], ?_⟩
      have hthR := q_set_R (fun x => q_has (MZ 0 0) x || decide (x = g))
      rw [h4.1] at eX
      have x1 : MX' (1 + 1 + 1) = q_row (MX (1 + 1 + 1)) g h := by rw [eX, q_up_ne (by omega), q_up_ne (by omega), q_up_ne (by omega), q_up_row]
      have x2 : MX' (1 + 1 + 2) = q_row (MX (1 + 1 + 2)) g f := by rw [eX, q_up_ne (by omega), q_up_ne (by omega), q_up_row, q_up_ne (by omega)]
      have x3 : MX' (1 + 1 + 3) = q_row (MX (1 + 1 + 3)) g a := by rw [eX, q_up_ne (by omega), q_up_row, q_up_ne (by omega), q_up_ne (by omega)]
      have x0 : MX' (1 + 1) 4 = q_set (fun x => q_has (MZ 0 0) x || decide (x = g)) := by rw [eX, q_up_at, if_pos rfl]
      have x0' : ∀ i, i ≠ 4 → MX' (1 + 1) i = MX (1 + 1) i := fun i hi => by rw [eX, q_up_at, if_neg hi, q_up_ne (by omega), q_up_ne (by omega), q_up_ne (by omega)]
      have xo : ∀ j, j < 2 ∨ 5 < j → MX' j = MX j := fun j hj => by rw [eX, q_up_ne (by omega), q_up_ne (by omega), q_up_ne (by omega), q_up_ne (by omega)]
      have z1 : MZ' 1 = q_row (MZ 1) g h := by rw [eZ, q_up_ne (by omega), q_up_ne (by omega), q_up_row, q_up_ne (by omega)]
      have z2 : MZ' 2 = q_row (MZ 2) g f := by rw [eZ, q_up_ne (by omega), q_up_row, q_up_ne (by omega), q_up_ne (by omega)]
      have z3 : MZ' 3 = q_row (MZ 3) g a := by rw [eZ, q_up_row, q_up_ne (by omega), q_up_ne (by omega), q_up_ne (by omega)]
      have z0 : MZ' 0 0 = q_set (fun x => q_has (MZ 0 0) x || decide (x = g)) := by rw [eZ, q_up_ne (by omega), q_up_ne (by omega), q_up_ne (by omega), q_up_at, if_pos rfl]
      have z0' : ∀ i, i ≠ 0 → MZ' 0 i = MZ 0 i := fun i hi => by rw [eZ, q_up_ne (by omega), q_up_ne (by omega), q_up_ne (by omega), q_up_at, if_neg hi]
      have zo : ∀ j, 4 ≤ j → MZ' j = MZ j := fun j hj => by rw [eZ, q_up_ne (by omega), q_up_ne (by omega), q_up_ne (by omega), q_up_ne (by omega)]
      obtain ⟨xv, xf, xs, xp, xw, -, -⟩ := id h1
      obtain ⟨zt, ⟨zh, zf, za⟩, zF, zs, zp⟩ := id h2
      refine ⟨q_X_ch h1 ?_ (by rw [xo _ (by omega)]; exact xf) ?_ ?_ (xo _ (by omega)) (fun j a b => xo j (by omega)), ⟨⟨?_, ?_⟩, ⟨?_, ?_, ?_⟩, ?_, ?_, ?_⟩, ?_, ⟨?_, ?_⟩, fun x hx => ?_, ?_, ?_, ?_, ?_, ?_⟩
      · exact ⟨by rw [x0]; exact hthR, by rw [x0' 5 (by decide)]; exact xv.2.1, by rw [x1]; exact q_row_hv xv.2.2.1 c2.1, by rw [x2]; exact q_row_fv xv.2.2.2.1 c2.2.1, by rw [x3]; exact q_row_av xv.2.2.2.2 c2.2.2⟩
      · unfold q_sv; rw [xo 1 (by omega), xo (1 + 7) (by omega), xo (1 + 8) (by omega)]; exact xs
      · unfold q_pv; rw [xo 28 (by omega), xo (28 + 1) (by omega)]; exact xp
      · rw [z0]; exact hthR
      · rw [z0' 4 (by decide)]; exact zt.2
      · rw [z1]; exact q_row_hv zh c2.1
      · rw [z2]; exact q_row_fv zf c2.2.1
      · rw [z3]; exact q_row_av za c2.2.2
      · rw [zo 4 (by omega)]; exact zF
      · rw [zo 5 (by omega), z0' 6 (by decide)]; exact zs
      · rw [zo 6 (by omega), z0' 8 (by decide)]; exact zp
      · rw [zo 4 (by omega)]; exact h3
      · rw [x0, z0]
      · rw [x0' 5 (by decide), z0' 4 (by decide)]; exact h4.2
      · rw [z0] at hx
        rw [x1, x2, x3, z1, z2, z3]
        unfold q_row
        by_cases hxg : x = g
        · rw [if_pos hxg, if_pos hxg, if_pos hxg, if_pos hxg, if_pos hxg, if_pos hxg]
          exact ⟨rfl, rfl, rfl⟩
        · rw [if_neg hxg, if_neg hxg, if_neg hxg, if_neg hxg, if_neg hxg, if_neg hxg]
          exact h5 x ((q_has_or c1.1 (by omega) hx).resolve_left hxg)
      · rw [xo (1 + 6) (by omega), zo 4 (by omega)]; exact h6
      · rw [xo 1 (by omega), xo (1 + 7) (by omega), xo (1 + 8) (by omega), zo 5 (by omega), z0' 6 (by decide)]; exact h7
      · rw [xo 28 (by omega), xo (28 + 1) (by omega), zo 6 (by omega), z0' 8 (by decide)]; exact h8
      · exact q_ki_fr h9 (fun j a b c => xo j (by omega)) (fun i _ _ => by rw [zo 17 (by omega)]) (by rw [zo 18 (by omega)])
      · exact q_ki_fr h10 (fun j a b c => xo j (by omega)) (fun i _ _ => by rw [zo 17 (by omega)]) (by rw [zo 18 (by omega)])
    · obtain ⟨e1, eX⟩ := pX.2.1 c1 c2
      obtain ⟨e2, eZ⟩ := pZ.2.1 c1 c2
      exact ⟨by rw [e1, e2], by rw [eX, eZ]; exact r⟩
  · obtain ⟨e1, eX⟩ := pX.1 c1
    obtain ⟨e2, eZ⟩ := pZ.1 c1
    exact ⟨by rw [e1, e2], by rw [eX, eZ]; exact r⟩
theorem q_rel_leave {MX MX' MZ MZ' : q_M} {g zX zZ : Int} (r : q_rel MX MZ)
    (pX : (q_has (MX (1 + 1) 4) g = false → zX = -1 ∧ MX' = MX) ∧ (q_has (MX (1 + 1) 4) g = true → zX = q_cnt (fun x => q_has (MX (1 + 1) 4) x && !decide (x = g)) ∧ (∀ j, j ≠ 1 + 6 → j ≠ 1 + 1 → MX' j = MX j) ∧ (∀ i, i ≠ 4 → MX' (1 + 1) i = MX (1 + 1) i) ∧ MX' (1 + 1) 4 = q_set (fun x => q_has (MX (1 + 1) 4) x && !decide (x = g)) ∧ ∀ x, 0 ≤ x → x < 6 → MX' (1 + 6) x = q_set (fun y => q_has (MX (1 + 6) x) y && !(decide (x = g) || decide (y = g)))))
    (pZ : (q_has (MZ 0 0) g = false → zZ = -1 ∧ MZ' = MZ) ∧ (q_has (MZ 0 0) g = true → zZ = q_cnt (fun x => q_has (MZ 0 0) x && !decide (x = g)) ∧ (∀ j, j ≠ 0 → j ≠ 4 → MZ' j = MZ j) ∧ (∀ i, i ≠ 0 → MZ' 0 i = MZ 0 i) ∧ MZ' 0 0 = q_set (fun x => q_has (MZ 0 0) x && !decide (x = g)) ∧ ∀ x, 0 ≤ x → x < 6 → MZ' 4 x = q_set (fun y => q_has (MZ 4 x) y && !(decide (x = g) || decide (y = g))))) : zX = zZ ∧ q_rel MX' MZ' := by
  obtain ⟨h1, h2, h3, h4, h5, h6, h7, h8, h9, h10⟩ := id r
  rw [h4.1] at pX
  cases c1 : q_has (MZ 0 0) g
  · obtain ⟨e1, eX⟩ := pX.1 c1
    obtain ⟨e2, eZ⟩ := pZ.1 c1
    exact ⟨by rw [e1, e2], by rw [eX, eZ]; exact r⟩
  · obtain ⟨e1, xo, xi, x4, xF⟩ := pX.2 c1
    obtain ⟨e2, zo, zi, z0, zF'⟩ := pZ.2 c1
    have hthR := q_set_R (fun x => q_has (MZ 0 0) x && !decide (x = g))
    obtain ⟨xv, xf, xs, xp, xw, -, -⟩ := id h1
    obtain ⟨zt, ⟨zh, zf, za⟩, zF, zs, zp⟩ := id h2
    refine ⟨by rw [e1, e2], q_X_ch h1 ?_ ?_ ?_ ?_ (xo _ (by omega) (by omega)) (fun j a b => xo j (by omega) (by omega)), ⟨⟨?_, ?_⟩, ⟨?_, ?_, ?_⟩, ?_, ?_, ?_⟩, ?_, ⟨?_, ?_⟩, fun x hx => ?_, fun x y0 y1 => ?_, ?_, ?_, ?_, ?_⟩
    · exact ⟨by rw [x4]; exact hthR, by rw [xi 5 (by decide)]; exact xv.2.1, by rw [xo (1 + 1 + 1) (by omega) (by omega)]; exact xv.2.2.1, by rw [xo (1 + 1 + 2) (by omega) (by omega)]; exact xv.2.2.2.1, by rw [xo (1 + 1 + 3) (by omega) (by omega)]; exact xv.2.2.2.2⟩
    · intro x y0 y1
      rw [xF x y0 y1]
      exact q_set_R _
    · unfold q_sv; rw [xo 1 (by omega) (by omega), xo (1 + 7) (by omega) (by omega), xo (1 + 8) (by omega) (by omega)]; exact xs
    · unfold q_pv; rw [xo 28 (by omega) (by omega), xo (28 + 1) (by omega) (by omega)]; exact xp
    · rw [z0]; exact hthR
    · rw [zi 4 (by decide)]; exact zt.2
    · rw [zo 1 (by omega) (by omega)]; exact zh
    · rw [zo 2 (by omega) (by omega)]; exact zf
    · rw [zo 3 (by omega) (by omega)]; exact za
    · intro x y0 y1
      rw [zF' x y0 y1]
      exact q_set_R _
    · rw [zo 5 (by omega) (by omega), zi 6 (by decide)]; exact zs
    · rw [zo 6 (by omega) (by omega), zi 8 (by decide)]; exact zp
    · intro x y a0 a1 b0 b1
      rw [zF' x a0 a1, zF' y b0 b1, q_has_set b0 b1, q_has_set a0 a1, h3 x y a0 a1 b0 b1, Bool.or_comm]
    · rw [x4, z0]
    · rw [xi 5 (by decide), zi 4 (by decide)]; exact h4.2
    · rw [z0] at hx
      have hi := q_has_in hx
      rw [q_has_set hi.1 hi.2] at hx
      simp only [Bool.and_eq_true] at hx
      rw [xo (1 + 1 + 1) (by omega) (by omega), xo (1 + 1 + 2) (by omega) (by omega), xo (1 + 1 + 3) (by omega) (by omega), zo 1 (by omega) (by omega), zo 2 (by omega) (by omega), zo 3 (by omega) (by omega)]
      exact h5 x hx.1
    · rw [xF x y0 y1, zF' x y0 y1, h6 x y0 y1]
    · rw [xo 1 (by omega) (by omega), xo (1 + 7) (by omega) (by omega), xo (1 + 8) (by omega) (by omega), zo 5 (by omega) (by omega), zi 6 (by decide)]; exact h7
    · rw [xo 28 (by omega) (by omega), xo (28 + 1) (by omega) (by omega), zo 6 (by omega) (by omega), zi 8 (by decide)]; exact h8
    · exact q_ki_fr h9 (fun j a b c => xo j (by omega) (by omega)) (fun i _ _ => by rw [zo 17 (by omega) (by omega)]) (by rw [zo 18 (by omega) (by omega)])
    · exact q_ki_fr h10 (fun j a b c => xo j (by omega) (by omega)) (fun i _ _ => by rw [zo 17 (by omega) (by omega)]) (by rw [zo 18 (by omega) (by omega)])
