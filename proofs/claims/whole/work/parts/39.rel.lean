/-! done, images -/
theorem q_rel_done {MX MX' MZ MZ' : q_M} {zX zZ : Int} (r : q_rel MX MZ)
    (pX : zX = S_done (q_flt (MX (28 + 1)) (MX 28 1) 61 0) (q_NI (MX (1 + 1) 4) (MX (1 + 1) 5) (MX (28 + 1)) (MX 28 1) 0 (MX (1 + 1 + 1)) (MX (1 + 1 + 2)) (MX (1 + 1 + 3))) ∧ q_ww MX' ∧ (¬ S_bar (q_flt (MX (28 + 1)) (MX 28 1) 61 0) (q_NI (MX (1 + 1) 4) (MX (1 + 1) 5) (MX (28 + 1)) (MX 28 1) 0 (MX (1 + 1 + 1)) (MX (1 + 1 + 2)) (MX (1 + 1 + 3))) → q_kp MX MX') ∧ (S_bar (q_flt (MX (28 + 1)) (MX 28 1) 61 0) (q_NI (MX (1 + 1) 4) (MX (1 + 1) 5) (MX (28 + 1)) (MX 28 1) 0 (MX (1 + 1 + 1)) (MX (1 + 1 + 2)) (MX (1 + 1 + 3))) → (∀ j, j < 30 → j ≠ 6 → (j < 1 + 1 ∨ 1 + 1 + 3 < j) → j ≠ 28 → MX' j = MX j) ∧ MX' 28 1 = 0 ∧ (MX' (1 + 1) 4 = MX (1 + 1) 4 ∧ MX' (1 + 1) 5 = MX (1 + 1) 5) ∧ q_cv MX' (1 + 1) ∧ ∀ x, q_has (MX (1 + 1) 4) x = true → MX' (1 + 1 + 1) x = qt_h (q_NI (MX (1 + 1) 4) (MX (1 + 1) 5) (MX (28 + 1)) (MX 28 1) 0 (MX (1 + 1 + 1)) (MX (1 + 1 + 2)) (MX (1 + 1 + 3))).2.2 x ∧ MX' (1 + 1 + 2) x = qt_f (q_NI (MX (1 + 1) 4) (MX (1 + 1) 5) (MX (28 + 1)) (MX 28 1) 0 (MX (1 + 1 + 1)) (MX (1 + 1 + 2)) (MX (1 + 1 + 3))).2.2 x ∧ MX' (1 + 1 + 3) x = qt_a (q_NI (MX (1 + 1) 4) (MX (1 + 1) 5) (MX (28 + 1)) (MX 28 1) 0 (MX (1 + 1 + 1)) (MX (1 + 1 + 2)) (MX (1 + 1 + 3))).2.2 x))
    (pZ : zZ = S_done (q_flt (MZ 6) (MZ 0 8) 61 0) (q_NI (MZ 0 0) (MZ 0 4) (MZ 6) (MZ 0 8) 0 (MZ 1) (MZ 2) (MZ 3)) ∧ (¬ S_bar (q_flt (MZ 6) (MZ 0 8) 61 0) (q_NI (MZ 0 0) (MZ 0 4) (MZ 6) (MZ 0 8) 0 (MZ 1) (MZ 2) (MZ 3)) → q_kz MZ MZ') ∧ (S_bar (q_flt (MZ 6) (MZ 0 8) 61 0) (q_NI (MZ 0 0) (MZ 0 4) (MZ 6) (MZ 0 8) 0 (MZ 1) (MZ 2) (MZ 3)) → (∀ j, (4 ≤ j ∧ j ≤ 6) ∨ 17 ≤ j → MZ' j = MZ j) ∧ (MZ' 0 0 = MZ 0 0 ∧ MZ' 0 4 = MZ 0 4 ∧ MZ' 0 6 = MZ 0 6 ∧ MZ' 0 8 = 0) ∧ (q_hv (MZ' 1) ∧ q_fvv (MZ' 2) ∧ q_av (MZ' 3)) ∧ ∀ x, q_has (MZ 0 0) x = true → MZ' 1 x = qt_h (q_NI (MZ 0 0) (MZ 0 4) (MZ 6) (MZ 0 8) 0 (MZ 1) (MZ 2) (MZ 3)).2.2 x ∧ MZ' 2 x = qt_f (q_NI (MZ 0 0) (MZ 0 4) (MZ 6) (MZ 0 8) 0 (MZ 1) (MZ 2) (MZ 3)).2.2 x ∧ MZ' 3 x = qt_a (q_NI (MZ 0 0) (MZ 0 4) (MZ 6) (MZ 0 8) 0 (MZ 1) (MZ 2) (MZ 3)).2.2 x)) : zX = zZ ∧ q_rel MX' MZ' := by
  obtain ⟨h1, h2, h3, h4, h5, h6, h7, h8, h9, h10⟩ := id r
  rw [h4.1, h4.2, h8.1, h8.2] at pX
  obtain ⟨e1, xw, xn, xy⟩ := pX
  obtain ⟨e2, zn, zy⟩ := pZ
  have hbar := S_bar_sim (ke := MZ 0 4) (n := MZ 0 8) (pt := 0) (FL := q_flt (MZ 6) (MZ 0 8) 61 0) (pad := MZ 6) h5
  have hni := (q_NI_sim (ke := MZ 0 4) (n := MZ 0 8) (pt := 0) (pad := MZ 6) h5).2.2
  refine ⟨by rw [e1, e2, S_done_sim h5], ?_⟩
  by_cases c : S_bar (q_flt (MZ 6) (MZ 0 8) 61 0) (q_NI (MZ 0 0) (MZ 0 4) (MZ 6) (MZ 0 8) 0 (MZ 1) (MZ 2) (MZ 3))
  · obtain ⟨xo, x28, xth, xcv, xr⟩ := xy (hbar.mpr c)
    obtain ⟨zo, z0, zv, zr⟩ := zy c
    obtain ⟨xv, xf, xs, xp, xww, xi1, xi2⟩ := id h1
    obtain ⟨zt, -, zF, zs, zp⟩ := id h2
    have iv : ∀ b, b = 10 ∨ b = 19 → q_iv MX b → q_iv MX' b := fun b hb h => by
      unfold q_iv q_sv
      rw [xo b (by omega) (by omega) (by omega) (by omega), xo (b + 6) (by omega) (by omega) (by omega) (by omega), xo (b + 7) (by omega) (by omega) (by omega) (by omega), xo (b + 8) (by omega) (by omega) (by omega) (by omega)]
      exact ⟨h.1, q_cv_eq h.2.1 (fun j h1 h2 => xo j (by omega) (by omega) (by omega) (by omega)), h.2.2.1, h.2.2.2⟩
    refine ⟨⟨xcv, ?_, ?_, ⟨?_, ?_⟩, xw, iv 10 (Or.inl rfl) xi1, iv 19 (Or.inr rfl) xi2⟩, ⟨⟨?_, ?_⟩, zv, ?_, ?_, ⟨?_, ?_⟩⟩, ?_, ⟨?_, ?_⟩, fun x hx => ?_, ?_, ?_, ⟨?_, ?_⟩, ?_, ?_⟩
    · rw [xo (1 + 6) (by omega) (by omega) (by omega) (by omega)]; exact xf
    · unfold q_sv; rw [xo 1 (by omega) (by omega) (by omega) (by omega), xo (1 + 7) (by omega) (by omega) (by omega) (by omega), xo (1 + 8) (by omega) (by omega) (by omega) (by omega)]; exact xs
    · rw [x28]; omega
    · rw [xo (28 + 1) (by omega) (by omega) (by omega) (by omega)]; exact xp.2
    · rw [z0.1]; exact zt.1
    · rw [z0.2.1]; exact zt.2
    · rw [zo 4 (by omega)]; exact zF
    · rw [zo 5 (by omega), z0.2.2.1]; exact zs
    · rw [z0.2.2.2]; omega
    · rw [zo 6 (by omega)]; exact zp.2
    · rw [zo 4 (by omega)]; exact h3
    · rw [xth.1, z0.1]
    · rw [xth.2, z0.2.1]
    · rw [z0.1] at hx
      have a := xr x hx
      have b := zr x hx
      have d := hni.1 x hx
      exact ⟨by rw [a.1, b.1, d.1], by rw [a.2.1, b.2.1, d.2.1], by rw [a.2.2, b.2.2, d.2.2]⟩
    · rw [xo (1 + 6) (by omega) (by omega) (by omega) (by omega), zo 4 (by omega)]; exact h6
    · rw [xo 1 (by omega) (by omega) (by omega) (by omega), xo (1 + 7) (by omega) (by omega) (by omega) (by omega), xo (1 + 8) (by omega) (by omega) (by omega) (by omega), zo 5 (by omega), z0.2.2.1]; exact h7
    · rw [x28, z0.2.2.2]
    · rw [xo (28 + 1) (by omega) (by omega) (by omega) (by omega), zo 6 (by omega)]; exact h8.2
    · exact q_ki_fr h9 (fun j a b c => xo j (by omega) (by omega) (by omega) (by omega)) (fun i _ _ => by rw [zo 17 (by omega)]) (by rw [zo 18 (by omega)])
    · exact q_ki_fr h10 (fun j a b c => xo j (by omega) (by omega) (by omega) (by omega)) (fun i _ _ => by rw [zo 17 (by omega)]) (by rw [zo 18 (by omega)])
  · exact q_rel_q r (xn (fun q => c (hbar.mp q))) xw (zn c)
theorem q_iv_of {M M' : q_M} {b o : Nat} {k : Int} (h : q_ig M M' b o k) (hk : k = 0 ∨ k = 1) (v : q_cv M (o + 1) ∧ q_fm (M (o + 6)) ∧ q_sv M o) : q_iv M' b := by
  obtain ⟨-, h2, h3, h4, h5⟩ := h
  obtain ⟨v1, v2, v3⟩ := v
  refine ⟨by rw [h2.2]; exact hk, ⟨by rw [h3.1]; exact v1.1, by rw [h3.2]; exact v1.2.1, fun x x0 x1 => ?_, fun x x0 x1 => ?_, fun x x0 x1 => ?_⟩, fun x x0 x1 => ?_, ⟨?_, fun i i0 i1 => ?_⟩⟩
  · rw [(h4 x x0 x1).1.1]; exact v1.2.2.1 x x0 x1
  · rw [(h4 x x0 x1).1.2.1]; exact v1.2.2.2.1 x x0 x1
  · rw [(h4 x x0 x1).1.2.2]; exact v1.2.2.2.2 x x0 x1
  · rw [(h4 x x0 x1).2]; exact v2 x x0 x1
  · rw [h2.1]; exact v3.1
  · rw [(h5 i i0 i1).1, (h5 i i0 i1).2]; exact v3.2 i i0 i1
theorem q_rel_img {MX MX' MZ MZ' : q_M} {b : Nat} {n : Int} (hb : (b = 10 ∧ n = 0) ∨ (b = 19 ∧ n = 1)) (r : q_rel MX MZ) (hX : q_ig MX MX' b 1 1) (hZ : q_im MZ MZ' n) : q_rel MX' MZ' := by
  obtain ⟨h1, h2, h3, h4, h5, h6, h7, h8, h9, h10⟩ := id r
  obtain ⟨xv, xf, xs, xp, xw, xi1, xi2⟩ := id h1
  have hnew : q_iv MX' b := q_iv_of hX (Or.inr rfl) ⟨xv, xf, xs⟩
  obtain ⟨xo, x45, xth, xr, xsi⟩ := hX
  obtain ⟨zo, z17, z18, zk, zr, zsi, zth, zke, zn⟩ := hZ
  have ivo : ∀ c, (c = 10 ∨ c = 19) → c ≠ b → q_iv MX c → q_iv MX' c := fun c hc hcb h => by
    unfold q_iv q_sv
    rw [xo c (by omega), xo (c + 6) (by omega), xo (c + 7) (by omega), xo (c + 8) (by omega)]
    exact ⟨h.1, q_cv_eq h.2.1 (fun j h1 h2 => xo j (by omega)), h.2.2.1, h.2.2.2⟩
  have z00 : MZ' 0 = MZ 0 := zo 0 (by omega) (by omega)
  have kin : q_ki MX' MZ' b n := by
    obtain ⟨zt, ⟨zh, zf, za⟩, zF, zs, zp⟩ := id h2
    refine ⟨by rw [x45.2, zk], fun _ => ⟨⟨by rw [xth.1, zth]; exact h4.1, by rw [xth.2, zke]; exact h4.2⟩, fun x hx => ?_, fun x x0 x1 => ?_, by rw [x45.1, zn]; exact h7.1, fun i i0 i1 => ?_, ⟨fun x x0 x1 => ?_, fun x x0 x1 => ?_, fun x x0 x1 => ?_⟩, fun x y x0 x1 y0 y1 => ?_⟩⟩
    · rw [zth] at hx
      have hi := q_has_in hx
      have a := (xr x hi.1 hi.2).1
      have c := zr x hi.1 hi.2
      have d := h5 x hx
      show MX' (b + 1 + 1) x = MZ' 17 (50 * n + x) ∧ MX' (b + 1 + 2) x = MZ' 17 (50 * n + 6 + x) ∧ MX' (b + 1 + 3) x = MZ' 17 (50 * n + 12 + x)
      rw [a.1, a.2.1, a.2.2, c.1, c.2.1, c.2.2.1]
      exact d
    · rw [(xr x x0 x1).2, (zr x x0 x1).2.2.2]; exact h6 x x0 x1
    · rw [(xsi i i0 i1).1, (xsi i i0 i1).2, zsi (2 * i) (by omega) (by omega), zsi (2 * i + 1) (by omega) (by omega)]; exact h7.2 i i0 i1
    · show 0 ≤ MZ' 17 (50 * n + x) ∧ MZ' 17 (50 * n + x) ≤ 20
      rw [(zr x x0 x1).1]; exact zh x x0 x1
    · show 0 ≤ MZ' 17 (50 * n + 6 + x) ∧ MZ' 17 (50 * n + 6 + x) ≤ 9
      rw [(zr x x0 x1).2.1]; exact zf x x0 x1
    · show 0 ≤ MZ' 17 (50 * n + 12 + x) ∧ MZ' 17 (50 * n + 12 + x) ≤ 2
      rw [(zr x x0 x1).2.2.1]; exact za x x0 x1
    · show q_has (MZ' 17 (50 * n + 18 + x)) y = q_has (MZ' 17 (50 * n + 18 + y)) x
      rw [(zr x x0 x1).2.2.2, (zr y y0 y1).2.2.2]; exact h3 x y x0 x1 y0 y1
  refine ⟨⟨?_, ?_, ?_, ?_, ?_, ?_, ?_⟩, ⟨?_, ?_, ?_, ?_, ?_⟩, ?_, ?_, ?_, ?_, ?_, ?_, ?_, ?_⟩
  · exact q_cv_eq xv (fun j h1 h2 => xo j (by omega))
  · rw [xo (1 + 6) (by omega)]; exact xf
  · unfold q_sv; rw [xo 1 (by omega), xo (1 + 7) (by omega), xo (1 + 8) (by omega)]; exact xs
  · unfold q_pv; rw [xo 28 (by omega), xo (28 + 1) (by omega)]; exact xp
  · unfold q_ww; rw [xo (56 + 1) (by omega)]; exact xw
  · rcases hb with ⟨rfl, rfl⟩ | ⟨rfl, rfl⟩
    · exact hnew
    · exact ivo 10 (by omega) (by omega) xi1
  · rcases hb with ⟨rfl, rfl⟩ | ⟨rfl, rfl⟩
    · exact ivo 19 (by omega) (by omega) xi2
    · exact hnew
  · unfold q_z0; rw [z00]; exact h2.1
  · rw [zo 1 (by omega) (by omega), zo 2 (by omega) (by omega), zo 3 (by omega) (by omega)]; exact h2.2.1
  · rw [zo 4 (by omega) (by omega)]; exact h2.2.2.1
  · rw [zo 5 (by omega) (by omega), z00]; exact h2.2.2.2.1
  · rw [zo 6 (by omega) (by omega), z00]; exact h2.2.2.2.2
  · rw [zo 4 (by omega) (by omega)]; exact h3
  · rw [xo (1 + 1) (by omega), z00]; exact h4
  · rw [xo (1 + 1 + 1) (by omega), xo (1 + 1 + 2) (by omega), xo (1 + 1 + 3) (by omega), z00, zo 1 (by omega) (by omega), zo 2 (by omega) (by omega), zo 3 (by omega) (by omega)]; exact h5
  · rw [xo (1 + 6) (by omega), zo 4 (by omega) (by omega)]; exact h6
  · rw [xo 1 (by omega), xo (1 + 7) (by omega), xo (1 + 8) (by omega), z00, zo 5 (by omega) (by omega)]; exact h7
  · rw [xo 28 (by omega), xo (28 + 1) (by omega), z00, zo 6 (by omega) (by omega)]; exact h8
  · rcases hb with ⟨rfl, rfl⟩ | ⟨rfl, rfl⟩
    · exact kin
    · exact q_ki_fr h9 (fun j a c d => xo j (by omega)) (fun i a c => z17 i (by omega)) (z18 0 (by omega))
  · rcases hb with ⟨rfl, rfl⟩ | ⟨rfl, rfl⟩
    · exact q_ki_fr h10 (fun j a c d => xo j (by omega)) (fun i a c => z17 i (by omega)) (z18 1 (by omega))
    · exact kin
theorem q_rel_rst {MX MX' MZ MZ' : q_M} {b : Nat} {n : Int} (hb : (b = 10 ∧ n = 0) ∨ (b = 19 ∧ n = 1)) (r : q_rel MX MZ) (hk : ¬ MX b 5 = 0) (hX : q_ig MX MX' 1 b (MX 1 5)) (hZ : q_rm MZ MZ' n) : q_rel MX' MZ' := by
  obtain ⟨h1, h2, h3, h4, h5, h6, h7, h8, h9, h10⟩ := id r
  obtain ⟨xv, xf, xs, xp, xw, xi1, xi2⟩ := id h1
  have vb : q_iv MX b := by
    rcases hb with ⟨rfl, -⟩ | ⟨rfl, -⟩
    · exact xi1
    · exact xi2
  have kb : q_ki MX MZ b n := by
    rcases hb with ⟨rfl, rfl⟩ | ⟨rfl, rfl⟩
    · exact h9
    · exact h10
  obtain ⟨⟨k1, k2⟩, k3, k4, k5, k6, ⟨k7, k8, k9⟩, k10⟩ := kb.2 hk
  obtain ⟨xo, x45, xth, xr, xsi⟩ := hX
  obtain ⟨zo, z0o, zr, zsi, zth, zke, zn⟩ := hZ
  obtain ⟨-, v1, v2, v3⟩ := vb
  have ivo : ∀ c, (c = 10 ∨ c = 19) → q_iv MX c → q_iv MX' c := fun c hc h => by
    unfold q_iv q_sv
    rw [xo c (by omega), xo (c + 6) (by omega), xo (c + 7) (by omega), xo (c + 8) (by omega)]
    exact ⟨h.1, q_cv_eq h.2.1 (fun j h1 h2 => xo j (by omega)), h.2.2.1, h.2.2.2⟩
  have eF : ∀ x, 0 ≤ x → x < 6 → MX' (1 + 6) x = MZ' 4 x := fun x x0 x1 => by rw [(xr x x0 x1).2, (zr x x0 x1).2.2.2]; exact k4 x x0 x1
  have fm : q_fm (MX' (1 + 6)) := fun x x0 x1 => by rw [(xr x x0 x1).2]; exact v2 x x0 x1
  have sv : q_sv MX' 1 := ⟨by rw [x45.1]; exact v3.1, fun i i0 i1 => by rw [(xsi i i0 i1).1, (xsi i i0 i1).2]; exact v3.2 i i0 i1⟩
  have es : MX' 1 4 = MZ' 0 6 ∧ ∀ i, 0 ≤ i → i < 8 → MX' (1 + 7) i = MZ' 5 (2 * i) ∧ MX' (1 + 8) i = MZ' 5 (2 * i + 1) := ⟨by rw [x45.1, zn]; exact k5, fun i i0 i1 => by
    rw [(xsi i i0 i1).1, (xsi i i0 i1).2, zsi (2 * i) (by omega) (by omega), zsi (2 * i + 1) (by omega) (by omega)]; exact k6 i i0 i1⟩
  refine ⟨⟨⟨?_, ?_, ?_, ?_, ?_⟩, fm, sv, ?_, ?_, ivo 10 (Or.inl rfl) xi1, ivo 19 (Or.inr rfl) xi2⟩, ⟨⟨?_, ?_⟩, ⟨?_, ?_, ?_⟩, ?_, ⟨?_, ?_⟩, ?_⟩, ?_, ⟨?_, ?_⟩, ?_, eF, es, ?_, ?_, ?_⟩
  · rw [xth.1]; exact v1.1
  · rw [xth.2]; exact v1.2.1
  · intro x x0 x1; rw [(xr x x0 x1).1.1]; exact v1.2.2.1 x x0 x1
  · intro x x0 x1; rw [(xr x x0 x1).1.2.1]; exact v1.2.2.2.1 x x0 x1
  · intro x x0 x1; rw [(xr x x0 x1).1.2.2]; exact v1.2.2.2.2 x x0 x1
  · unfold q_pv; rw [xo 28 (by omega), xo (28 + 1) (by omega)]; exact xp
  · unfold q_ww; rw [xo (56 + 1) (by omega)]; exact xw
  · rw [zth, ← k1]; exact v1.1
  · rw [zke, ← k2]; exact v1.2.1
  · intro x x0 x1; rw [(zr x x0 x1).1]; exact k7 x x0 x1
  · intro x x0 x1; rw [(zr x x0 x1).2.1]; exact k8 x x0 x1
  · intro x x0 x1; rw [(zr x x0 x1).2.2.1]; exact k9 x x0 x1
  · intro x x0 x1; rw [← eF x x0 x1]; exact fm x x0 x1
  · rw [← es.1]; exact sv.1
  · intro i i0 i1; rw [← (es.2 i i0 i1).1, ← (es.2 i i0 i1).2]; exact sv.2 i i0 i1
  · rw [zo 6 (by omega), z0o 8 (by omega)]; exact h2.2.2.2.2
  · intro x y x0 x1 y0 y1
    rw [(zr x x0 x1).2.2.2, (zr y y0 y1).2.2.2]; exact k10 x y x0 x1 y0 y1
  · rw [xth.1, zth]; exact k1
  · rw [xth.2, zke]; exact k2
  · intro x hx
    rw [zth] at hx
    have hi := q_has_in hx
    have a := (xr x hi.1 hi.2).1
    have c := zr x hi.1 hi.2
    rw [a.1, a.2.1, a.2.2, c.1, c.2.1, c.2.2.1]
    exact k3 x hx
  · rw [xo 28 (by omega), xo (28 + 1) (by omega), zo 6 (by omega), z0o 8 (by omega)]; exact h8
  · exact q_ki_fr h9 (fun j a c d => xo j (by omega)) (fun i a c => by rw [zo 17 (by omega)]) (by rw [zo 18 (by omega)])
  · exact q_ki_fr h10 (fun j a c d => xo j (by omega)) (fun i a c => by rw [zo 17 (by omega)]) (by rw [zo 18 (by omega)])
theorem q_rel_image {MX MX' MZ MZ' : q_M} {n zX zZ : Int} (r : q_rel MX MZ) (pX : (¬ (0 ≤ n ∧ n ≤ 1) → zX = -2 ∧ MX' = MX) ∧ (n = 0 → zX = 1 ∧ q_ig MX MX' 10 1 1) ∧ (n = 1 → zX = 1 ∧ q_ig MX MX' 19 1 1)) (pZ : (¬ (0 ≤ n ∧ n ≤ 1) → zZ = -2 ∧ MZ' = MZ) ∧ (0 ≤ n ∧ n ≤ 1 → zZ = 1 ∧ q_im MZ MZ' n)) : zX = zZ ∧ q_rel MX' MZ' := by
  by_cases c : 0 ≤ n ∧ n ≤ 1
  · obtain ⟨e2, hZ⟩ := pZ.2 c
    rcases (show n = 0 ∨ n = 1 by omega) with rfl | rfl
    · obtain ⟨e1, hX⟩ := pX.2.1 rfl
      exact ⟨by rw [e1, e2], q_rel_img (Or.inl ⟨rfl, rfl⟩) r hX hZ⟩
    · obtain ⟨e1, hX⟩ := pX.2.2 rfl
      exact ⟨by rw [e1, e2], q_rel_img (Or.inr ⟨rfl, rfl⟩) r hX hZ⟩
  · obtain ⟨e1, eX⟩ := pX.1 c
    obtain ⟨e2, eZ⟩ := pZ.1 c
    exact ⟨by rw [e1, e2], by rw [eX, eZ]; exact r⟩
theorem q_rel_restore {MX MX' MZ MZ' : q_M} {n zX zZ : Int} (r : q_rel MX MZ) (pX : (¬ (0 ≤ n ∧ n ≤ 1) → zX = -2 ∧ MX' = MX) ∧ (n = 0 → (MX 10 5 = 0 → zX = -3 ∧ MX' = MX) ∧ (¬ MX 10 5 = 0 → zX = 1 ∧ q_ig MX MX' 1 10 (MX 1 5))) ∧ (n = 1 → (MX 19 5 = 0 → zX = -3 ∧ MX' = MX) ∧ (¬ MX 19 5 = 0 → zX = 1 ∧ q_ig MX MX' 1 19 (MX 1 5)))) (pZ : (¬ (0 ≤ n ∧ n ≤ 1) → zZ = -2 ∧ MZ' = MZ) ∧ (0 ≤ n ∧ n ≤ 1 → (MZ 18 n = 0 → zZ = -3 ∧ MZ' = MZ) ∧ (¬ MZ 18 n = 0 → zZ = 1 ∧ q_rm MZ MZ' n))) : zX = zZ ∧ q_rel MX' MZ' := by
  obtain ⟨h1, h2, h3, h4, h5, h6, h7, h8, h9, h10⟩ := id r
  by_cases c : 0 ≤ n ∧ n ≤ 1
  · have hZ := pZ.2 c
    rcases (show n = 0 ∨ n = 1 by omega) with rfl | rfl
    · have hX := pX.2.1 rfl
      rw [← h9.1] at hZ
      by_cases hk : MX 10 5 = 0
      · obtain ⟨e1, eX⟩ := hX.1 hk
        obtain ⟨e2, eZ⟩ := hZ.1 hk
        exact ⟨by rw [e1, e2], by rw [eX, eZ]; exact r⟩
      · obtain ⟨e1, eX⟩ := hX.2 hk
        obtain ⟨e2, eZ⟩ := hZ.2 hk
        exact ⟨by rw [e1, e2], q_rel_rst (Or.inl ⟨rfl, rfl⟩) r hk eX eZ⟩
    · have hX := pX.2.2 rfl
      rw [← h10.1] at hZ
      by_cases hk : MX 19 5 = 0
      · obtain ⟨e1, eX⟩ := hX.1 hk
        obtain ⟨e2, eZ⟩ := hZ.1 hk
        exact ⟨by rw [e1, e2], by rw [eX, eZ]; exact r⟩
      · obtain ⟨e1, eX⟩ := hX.2 hk
        obtain ⟨e2, eZ⟩ := hZ.2 hk
        exact ⟨by rw [e1, e2], q_rel_rst (Or.inr ⟨rfl, rfl⟩) r hk eX eZ⟩
  · obtain ⟨e1, eX⟩ := pX.1 c
    obtain ⟨e2, eZ⟩ := pZ.1 c
    exact ⟨by rw [e1, e2], by rw [eX, eZ]; exact r⟩
