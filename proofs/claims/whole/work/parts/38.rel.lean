/-! the other calls that change something -/
/-- both changed no more than one object's numbers or signs, feuds, sights -/
theorem q_rel_small {MX MX' MZ MZ' : q_M} (r : q_rel MX MZ) (xh : MX' (1 + 1 + 1) = MX (1 + 1 + 1) ∧ MX' (1 + 1 + 2) = MX (1 + 1 + 2) ∧ MX' (1 + 1 + 3) = MX (1 + 1 + 3) ∧ MX' (1 + 1) 4 = MX (1 + 1) 4) (zh : MZ' 1 = MZ 1 ∧ MZ' 2 = MZ 2 ∧ MZ' 3 = MZ 3 ∧ MZ' 0 0 = MZ 0 0)
    (ke : MX' (1 + 1) 5 = MZ' 0 4 ∧ 0 ≤ MZ' 0 4 ∧ MZ' 0 4 ≤ 9) (fe : q_fm (MX' (1 + 6)) ∧ q_sy (MZ' 4) ∧ ∀ x, 0 ≤ x → x < 6 → MX' (1 + 6) x = MZ' 4 x) (zF : q_fm (MZ' 4))
    (si : q_sv MX' 1 ∧ MX' 1 4 = MZ' 0 6 ∧ ∀ i, 0 ≤ i → i < 8 → MX' (1 + 7) i = MZ' 5 (2 * i) ∧ MX' (1 + 8) i = MZ' 5 (2 * i + 1)) (pa : q_pv MX' 28 ∧ MX' 28 1 = MZ' 0 8 ∧ MX' (28 + 1) = MZ' 6)
    (hw : MX' (56 + 1) = MX (56 + 1)) (xi : ∀ j, 10 ≤ j → j ≤ 27 → MX' j = MX j) (zi : ∀ j, 17 ≤ j → MZ' j = MZ j) : q_rel MX' MZ' := by
  obtain ⟨h1, h2, h3, h4, h5, h6, h7, h8, h9, h10⟩ := r
  obtain ⟨xv, -⟩ := id h1
  obtain ⟨zt, zr, -⟩ := id h2
  refine ⟨q_X_ch h1 ?_ fe.1 si.1 pa.1 hw xi, ⟨⟨?_, ke.2⟩, ?_, zF, ⟨?_, fun i i0 i1 => ?_⟩, ⟨?_, fun i i0 i1 => ?_⟩⟩, fe.2.1, ⟨?_, ke.1⟩, ?_, fe.2.2, si.2, pa.2, ?_, ?_⟩
  · unfold q_cv; rw [xh.1, xh.2.1, xh.2.2.1, xh.2.2.2]
    exact ⟨xv.1, by rw [ke.1]; exact ke.2, xv.2.2⟩
  · rw [zh.2.2.2]; exact zt.1
  · rw [zh.1, zh.2.1, zh.2.2.1]; exact zr
  · rw [← si.2.1]; exact si.1.1
  · rw [← (si.2.2 i i0 i1).1, ← (si.2.2 i i0 i1).2]; exact si.1.2 i i0 i1
  · rw [← pa.2.1]; exact pa.1.1
  · rw [← pa.2.2]; exact pa.1.2 i i0 i1
  · rw [xh.2.2.2, zh.2.2.2]; exact h4.1
  · rw [xh.1, xh.2.1, xh.2.2.1, zh.1, zh.2.1, zh.2.2.1, zh.2.2.2]; exact h5
  · exact q_ki_fr h9 (fun j a b c => xi j (by omega) (by omega)) (fun i _ _ => by rw [zi 17 (by omega)]) (by rw [zi 18 (by omega)])
  · exact q_ki_fr h10 (fun j a b c => xi j (by omega) (by omega)) (fun i _ _ => by rw [zi 17 (by omega)]) (by rw [zi 18 (by omega)])
theorem q_rel_keen {MX MX' MZ MZ' : q_M} {v zX zZ : Int} (r : q_rel MX MZ) (pX : (¬ (0 ≤ v ∧ v ≤ 9) → zX = -2 ∧ MX' = MX) ∧ (0 ≤ v ∧ v ≤ 9 → zX = MX (1 + 1) 5 ∧ MX' = q_up MX (1 + 1) 5 v)) (pZ : (¬ (0 ≤ v ∧ v ≤ 9) → zZ = -2 ∧ MZ' = MZ) ∧ (0 ≤ v ∧ v ≤ 9 → zZ = MZ 0 4 ∧ MZ' = q_up MZ 0 4 v)) : zX = zZ ∧ q_rel MX' MZ' := by
  by_cases c1 : 0 ≤ v ∧ v ≤ 9
  · obtain ⟨e1, eX⟩ := pX.2 c1
    obtain ⟨e2, eZ⟩ := pZ.2 c1
    obtain ⟨h1, h2, h3, h4, h5, h6, h7, h8, h9, h10⟩ := id r
    obtain ⟨xv, xf, xs, xp, -⟩ := id h1
    obtain ⟨zt, zr, zF, zs, zp⟩ := id h2
    have xo : ∀ j, j ≠ 2 → MX' j = MX j := fun j hj => by rw [eX, q_up_ne (by omega)]
    have zo : ∀ j, j ≠ 0 → MZ' j = MZ j := fun j hj => by rw [eZ, q_up_ne hj]
    have zi : ∀ i, i ≠ 4 → MZ' 0 i = MZ 0 i := fun i hi => by rw [eZ, q_up_at, if_neg hi]
    refine ⟨by rw [e1, e2, h4.2], q_rel_small r ⟨xo _ (by omega), xo _ (by omega), xo _ (by omega), by rw [eX, q_up_at, if_neg (by decide)]⟩ ⟨zo 1 (by omega), zo 2 (by omega), zo 3 (by omega), zi 0 (by decide)⟩ ⟨?_, ?_⟩ ⟨by rw [xo (1 + 6) (by omega)]; exact xf, by rw [zo 4 (by omega)]; exact h3, by rw [xo (1 + 6) (by omega), zo 4 (by omega)]; exact h6⟩ (by rw [zo 4 (by omega)]; exact zF) ⟨?_, ?_⟩ ⟨?_, ?_⟩ (xo _ (by omega)) (fun j a b => xo j (by omega)) (fun j a => zo j (by omega))⟩
    · rw [eX, eZ, q_up_at, if_pos rfl, q_up_at, if_pos rfl]
    · rw [eZ, q_up_at, if_pos rfl]; exact c1
    · unfold q_sv; rw [xo 1 (by omega), xo (1 + 7) (by omega), xo (1 + 8) (by omega)]; exact xs
    · rw [xo 1 (by omega), xo (1 + 7) (by omega), xo (1 + 8) (by omega), zo 5 (by omega), zi 6 (by decide)]; exact h7
    · unfold q_pv; rw [xo 28 (by omega), xo (28 + 1) (by omega)]; exact xp
    · rw [xo 28 (by omega), xo (28 + 1) (by omega), zo 6 (by omega), zi 8 (by decide)]; exact h8
  · obtain ⟨e1, eX⟩ := pX.1 c1
    obtain ⟨e2, eZ⟩ := pZ.1 c1
    exact ⟨by rw [e1, e2], by rw [eX, eZ]; exact r⟩
theorem q_fset_sy {F : Int → Int} {g o w : Int} (h : q_sy F) (hg : 0 ≤ g ∧ g < 6) (ho : 0 ≤ o ∧ o < 6) (hne : ¬ g = o) : q_sy (q_row (q_row F g (q_fset F g o w)) o (q_fset F o g w)) := by
  have key : ∀ x y, 0 ≤ x → x < 6 → 0 ≤ y → y < 6 → q_has (q_row (q_row F g (q_fset F g o w)) o (q_fset F o g w) x) y = if (x = o ∧ y = g) ∨ (x = g ∧ y = o) then decide (w ≠ 0) else q_has (F x) y := fun x y x0 x1 y0 y1 => by
    unfold q_row
    by_cases hx : x = o
    · rw [if_pos hx]
      unfold q_fset
      rw [q_has_set y0 y1, hx]
      by_cases hy : y = g
      · rw [if_pos hy, if_pos (Or.inl ⟨rfl, hy⟩)]
      · rw [if_neg hy, if_neg (fun q => by omega)]
    · rw [if_neg hx]
      by_cases hx2 : x = g
      · rw [if_pos hx2]
        unfold q_fset
        rw [q_has_set y0 y1, hx2]
        by_cases hy : y = o
        · rw [if_pos hy, if_pos (Or.inr ⟨rfl, hy⟩)]
        · rw [if_neg hy, if_neg (fun q => by omega)]
      · rw [if_neg hx2, if_neg (fun q => by omega)]
  intro x y x0 x1 y0 y1
  rw [key x y x0 x1 y0 y1, key y x y0 y1 x0 x1]
  by_cases hc : (x = o ∧ y = g) ∨ (x = g ∧ y = o)
  · rw [if_pos hc, if_pos (by omega)]
  · rw [if_neg hc, if_neg (by omega)]
    exact h x y x0 x1 y0 y1
theorem q_rel_feud {MX MX' MZ MZ' : q_M} {g o w zX zZ : Int} (r : q_rel MX MZ)
    (pX : (¬ (q_has (MX (1 + 1) 4) g = true ∧ q_has (MX (1 + 1) 4) o = true ∧ ¬ g = o) → zX = -1 ∧ MX' = MX) ∧ (q_has (MX (1 + 1) 4) g = true ∧ q_has (MX (1 + 1) 4) o = true ∧ ¬ g = o → zX = S_fds (MX' (1 + 6)) ∧ q_fr (1 + 6) MX MX' ∧ MX' (1 + 6) = q_row (q_row (MX (1 + 6)) g (q_fset (MX (1 + 6)) g o w)) o (q_fset (MX (1 + 6)) o g w)))
    (pZ : (¬ (q_has (MZ 0 0) g = true ∧ q_has (MZ 0 0) o = true ∧ ¬ g = o) → zZ = -1 ∧ MZ' = MZ) ∧ (q_has (MZ 0 0) g = true ∧ q_has (MZ 0 0) o = true ∧ ¬ g = o → zZ = S_fds (MZ' 4) ∧ q_fr 4 MZ MZ' ∧ MZ' 4 = q_row (q_row (MZ 4) g (q_fset (MZ 4) g o w)) o (q_fset (MZ 4) o g w))) : zX = zZ ∧ q_rel MX' MZ' := by
  obtain ⟨h1, h2, h3, h4, h5, h6, h7, h8, h9, h10⟩ := id r
  rw [h4.1] at pX
  by_cases c1 : q_has (MZ 0 0) g = true ∧ q_has (MZ 0 0) o = true ∧ ¬ g = o
  · obtain ⟨e1, fX, eX⟩ := pX.2 c1
    obtain ⟨e2, fZ, eZ⟩ := pZ.2 c1
    obtain ⟨xv, xf, xs, xp, -⟩ := id h1
    obtain ⟨zt, zr, zF, zs, zp⟩ := id h2
    have hg := q_has_in c1.1
    have ho := q_has_in c1.2.1
    have eF : ∀ x, 0 ≤ x → x < 6 → MX' (1 + 6) x = MZ' 4 x := fun x x0 x1 => by
      have f1 : q_fset (MX (1 + 6)) g o w = q_fset (MZ 4) g o w := by unfold q_fset; rw [h6 g hg.1 hg.2]
      have f2 : q_fset (MX (1 + 6)) o g w = q_fset (MZ 4) o g w := by unfold q_fset; rw [h6 o ho.1 ho.2]
      rw [eX, eZ, f1, f2]
      exact q_row_eq (q_row_eq (h6 x x0 x1))
    have xfm : q_fm (MX' (1 + 6)) := by rw [eX]; exact q_row_fm (q_row_fm xf (q_set_R _)) (q_set_R _)
    have zfm : q_fm (MZ' 4) := by rw [eZ]; exact q_row_fm (q_row_fm zF (q_set_R _)) (q_set_R _)
    refine ⟨by rw [e1, e2, S_fds_sim eF], q_rel_small r ⟨fX _ (by omega), fX _ (by omega), fX _ (by omega), by rw [fX (1 + 1) (by omega)]⟩ ⟨fZ 1 (by omega), fZ 2 (by omega), fZ 3 (by omega), by rw [fZ 0 (by omega)]⟩ ⟨by rw [fX (1 + 1) (by omega), fZ 0 (by omega)]; exact h4.2, by rw [fZ 0 (by omega)]; exact zt.2⟩ ⟨xfm, by rw [eZ]; exact q_fset_sy h3 hg ho c1.2.2, eF⟩ zfm ⟨?_, ?_⟩ ⟨?_, ?_⟩ (fX _ (by omega)) (fun j a b => fX j (by omega)) (fun j a => fZ j (by omega))⟩
    · unfold q_sv; rw [fX 1 (by omega), fX (1 + 7) (by omega), fX (1 + 8) (by omega)]; exact xs
    · rw [fX 1 (by omega), fX (1 + 7) (by omega), fX (1 + 8) (by omega), fZ 5 (by omega), fZ 0 (by omega)]; exact h7
    · unfold q_pv; rw [fX 28 (by omega), fX (28 + 1) (by omega)]; exact xp
    · rw [fX 28 (by omega), fX (28 + 1) (by omega), fZ 6 (by omega), fZ 0 (by omega)]; exact h8
  · obtain ⟨e1, eX⟩ := pX.1 c1
    obtain ⟨e2, eZ⟩ := pZ.1 c1
    exact ⟨by rw [e1, e2], by rw [eX, eZ]; exact r⟩
theorem q_rel_say {MX MX' MZ MZ' : q_M} {s zX zZ : Int} (r : q_rel MX MZ)
    (pX : (¬ (33 ≤ s ∧ s ≤ 126) → zX = -2 ∧ MX' = MX) ∧ (33 ≤ s ∧ s ≤ 126 → 60 ≤ MX 28 1 → zX = -4 ∧ MX' = MX) ∧ (33 ≤ s ∧ s ≤ 126 → MX 28 1 < 60 → zX = MX 28 1 + 1 ∧ MX' = q_up (q_up MX (28 + 1) (MX 28 1) s) 28 1 (MX 28 1 + 1)))
    (pZ : (¬ (33 ≤ s ∧ s ≤ 126) → zZ = -2 ∧ MZ' = MZ) ∧ (33 ≤ s ∧ s ≤ 126 → 60 ≤ MZ 0 8 → zZ = -4 ∧ MZ' = MZ) ∧ (33 ≤ s ∧ s ≤ 126 → MZ 0 8 < 60 → zZ = MZ 0 8 + 1 ∧ MZ' = q_up (q_up MZ 6 (MZ 0 8) s) 0 8 (MZ 0 8 + 1))) : zX = zZ ∧ q_rel MX' MZ' := by
  obtain ⟨h1, h2, h3, h4, h5, h6, h7, h8, h9, h10⟩ := id r
  rw [h8.1] at pX
  by_cases c1 : 33 ≤ s ∧ s ≤ 126
  · by_cases c2 : MZ 0 8 < 60
    · obtain ⟨e1, eX⟩ := pX.2.2 c1 c2
      obtain ⟨e2, eZ⟩ := pZ.2.2 c1 c2
      obtain ⟨xv, xf, xs, xp, -⟩ := id h1
      obtain ⟨zt, zr, zF, zs, zp⟩ := id h2
      have xo : ∀ j, j ≠ 28 → j ≠ 29 → MX' j = MX j := fun j a b => by rw [eX, q_up_ne a, q_up_ne b]
      have zo : ∀ j, j ≠ 0 → j ≠ 6 → MZ' j = MZ j := fun j a b => by rw [eZ, q_up_ne a, q_up_ne b]
      have zi : ∀ i, i ≠ 8 → MZ' 0 i = MZ 0 i := fun i hi => by rw [eZ, q_up_at, if_neg hi, q_up_ne (by omega)]
      have x29 : MX' (28 + 1) = q_row (MX (28 + 1)) (MZ 0 8) s := by rw [eX, q_up_ne (by omega), q_up_row]
      have z6 : MZ' 6 = q_row (MZ 6) (MZ 0 8) s := by rw [eZ, q_up_ne (by omega), q_up_row]
      have x28 : MX' 28 1 = MZ 0 8 + 1 := by rw [eX, q_up_at, if_pos rfl]
      have z08 : MZ' 0 8 = MZ 0 8 + 1 := by rw [eZ, q_up_at, if_pos rfl]
      refine ⟨by rw [e1, e2], q_rel_small r ⟨xo _ (by omega) (by omega), xo _ (by omega) (by omega), xo _ (by omega) (by omega), by rw [xo (1 + 1) (by omega) (by omega)]⟩ ⟨zo 1 (by omega) (by omega), zo 2 (by omega) (by omega), zo 3 (by omega) (by omega), zi 0 (by decide)⟩ ⟨by rw [xo (1 + 1) (by omega) (by omega), zi 4 (by decide)]; exact h4.2, by rw [zi 4 (by decide)]; exact zt.2⟩ ⟨by rw [xo (1 + 6) (by omega) (by omega)]; exact xf, by rw [zo 4 (by omega) (by omega)]; exact h3, by rw [xo (1 + 6) (by omega) (by omega), zo 4 (by omega) (by omega)]; exact h6⟩ (by rw [zo 4 (by omega) (by omega)]; exact zF) ⟨?_, ?_⟩ ⟨⟨?_, fun i i0 i1 => ?_⟩, ?_, ?_⟩ (xo _ (by omega) (by omega)) (fun j a b => xo j (by omega) (by omega)) (fun j a => zo j (by omega) (by omega))⟩
      · unfold q_sv; rw [xo 1 (by omega) (by omega), xo (1 + 7) (by omega) (by omega), xo (1 + 8) (by omega) (by omega)]; exact xs
      · rw [xo 1 (by omega) (by omega), xo (1 + 7) (by omega) (by omega), xo (1 + 8) (by omega) (by omega), zo 5 (by omega) (by omega), zi 6 (by decide)]; exact h7
      · rw [x28]
        have := zp.1
        omega
      · rw [x29]
        unfold q_row
        split
        · omega
        · exact xp.2 i i0 i1
      · rw [x28, z08]
      · rw [x29, z6, h8.2]
    · obtain ⟨e1, eX⟩ := pX.2.1 c1 (by omega)
      obtain ⟨e2, eZ⟩ := pZ.2.1 c1 (by omega)
      exact ⟨by rw [e1, e2], by rw [eX, eZ]; exact r⟩
  · obtain ⟨e1, eX⟩ := pX.1 c1
    obtain ⟨e2, eZ⟩ := pZ.1 c1
    exact ⟨by rw [e1, e2], by rw [eX, eZ]; exact r⟩
theorem q_rel_wipe {MX MX' MZ MZ' : q_M} {zX zZ : Int} (r : q_rel MX MZ) (pX : zX = MX 28 1 ∧ MX' = q_up MX 28 1 0) (pZ : zZ = MZ 0 8 ∧ MZ' = q_up MZ 0 8 0) : zX = zZ ∧ q_rel MX' MZ' := by
  obtain ⟨h1, h2, h3, h4, h5, h6, h7, h8, h9, h10⟩ := id r
  obtain ⟨e1, eX⟩ := pX
  obtain ⟨e2, eZ⟩ := pZ
  obtain ⟨xv, xf, xs, xp, -⟩ := id h1
  obtain ⟨zt, zr, zF, zs, zp⟩ := id h2
  have xo : ∀ j, j ≠ 28 → MX' j = MX j := fun j a => by rw [eX, q_up_ne a]
  have zo : ∀ j, j ≠ 0 → MZ' j = MZ j := fun j a => by rw [eZ, q_up_ne a]
  have zi : ∀ i, i ≠ 8 → MZ' 0 i = MZ 0 i := fun i hi => by rw [eZ, q_up_at, if_neg hi]
  have x28 : MX' 28 1 = 0 := by rw [eX, q_up_at, if_pos rfl]
  have z08 : MZ' 0 8 = 0 := by rw [eZ, q_up_at, if_pos rfl]
  refine ⟨by rw [e1, e2, h8.1], q_rel_small r ⟨xo _ (by omega), xo _ (by omega), xo _ (by omega), by rw [xo (1 + 1) (by omega)]⟩ ⟨zo 1 (by omega), zo 2 (by omega), zo 3 (by omega), zi 0 (by decide)⟩ ⟨by rw [xo (1 + 1) (by omega), zi 4 (by decide)]; exact h4.2, by rw [zi 4 (by decide)]; exact zt.2⟩ ⟨by rw [xo (1 + 6) (by omega)]; exact xf, by rw [zo 4 (by omega)]; exact h3, by rw [xo (1 + 6) (by omega), zo 4 (by omega)]; exact h6⟩ (by rw [zo 4 (by omega)]; exact zF) ⟨?_, ?_⟩ ⟨⟨?_, fun i i0 i1 => ?_⟩, ?_, ?_⟩ (xo _ (by omega)) (fun j a b => xo j (by omega)) (fun j a => zo j (by omega))⟩
  · unfold q_sv; rw [xo 1 (by omega), xo (1 + 7) (by omega), xo (1 + 8) (by omega)]; exact xs
  · rw [xo 1 (by omega), xo (1 + 7) (by omega), xo (1 + 8) (by omega), zo 5 (by omega), zi 6 (by decide)]; exact h7
  · rw [x28]; omega
  · rw [xo (28 + 1) (by omega)]; exact xp.2 i i0 i1
  · rw [x28, z08]
  · rw [xo (28 + 1) (by omega), zo 6 (by omega)]; exact h8.2
theorem q_rel_forget {MX MX' MZ MZ' : q_M} {zX zZ : Int} (r : q_rel MX MZ) (pX : zX = MX 1 4 ∧ MX' = q_up MX 1 4 0) (pZ : zZ = MZ 0 6 ∧ MZ' = q_up MZ 0 6 0) : zX = zZ ∧ q_rel MX' MZ' := by
  obtain ⟨h1, h2, h3, h4, h5, h6, h7, h8, h9, h10⟩ := id r
  obtain ⟨e1, eX⟩ := pX
  obtain ⟨e2, eZ⟩ := pZ
  obtain ⟨xv, xf, xs, xp, -⟩ := id h1
  obtain ⟨zt, zr, zF, zs, zp⟩ := id h2
  have xo : ∀ j, j ≠ 1 → MX' j = MX j := fun j a => by rw [eX, q_up_ne a]
  have zo : ∀ j, j ≠ 0 → MZ' j = MZ j := fun j a => by rw [eZ, q_up_ne a]
  have zi : ∀ i, i ≠ 6 → MZ' 0 i = MZ 0 i := fun i hi => by rw [eZ, q_up_at, if_neg hi]
  have x1 : MX' 1 4 = 0 := by rw [eX, q_up_at, if_pos rfl]
  have z06 : MZ' 0 6 = 0 := by rw [eZ, q_up_at, if_pos rfl]
  refine ⟨by rw [e1, e2, h7.1], q_rel_small r ⟨xo _ (by omega), xo _ (by omega), xo _ (by omega), by rw [xo (1 + 1) (by omega)]⟩ ⟨zo 1 (by omega), zo 2 (by omega), zo 3 (by omega), zi 0 (by decide)⟩ ⟨by rw [xo (1 + 1) (by omega), zi 4 (by decide)]; exact h4.2, by rw [zi 4 (by decide)]; exact zt.2⟩ ⟨by rw [xo (1 + 6) (by omega)]; exact xf, by rw [zo 4 (by omega)]; exact h3, by rw [xo (1 + 6) (by omega), zo 4 (by omega)]; exact h6⟩ (by rw [zo 4 (by omega)]; exact zF) ⟨⟨?_, ?_⟩, ?_, ?_⟩ ⟨?_, ?_⟩ (xo _ (by omega)) (fun j a b => xo j (by omega)) (fun j a => zo j (by omega))⟩
  · rw [x1]; omega
  · rw [xo (1 + 7) (by omega), xo (1 + 8) (by omega)]; exact xs.2
  · rw [x1, z06]
  · rw [xo (1 + 7) (by omega), xo (1 + 8) (by omega), zo 5 (by omega)]; exact h7.2
  · unfold q_pv; rw [xo 28 (by omega), xo (28 + 1) (by omega)]; exact xp
  · rw [xo 28 (by omega), xo (28 + 1) (by omega), zo 6 (by omega), zi 8 (by decide)]; exact h8
theorem q_rel_seen {MX MX' MZ MZ' : q_M} {p s zX zZ : Int} (r : q_rel MX MZ)
    (pX : (¬ ((1 ≤ p ∧ p ≤ 9) ∧ (0 ≤ s ∧ s ≤ 63)) → zX = -2 ∧ MX' = MX) ∧ ((1 ≤ p ∧ p ≤ 9) ∧ (0 ≤ s ∧ s ≤ 63) → (8 ≤ MX 1 4 → zX = -4 ∧ MX' = MX) ∧ (MX 1 4 < 8 → zX = MX 1 4 + 1 ∧ MX' = q_up (q_up (q_up MX (1 + 7) (MX 1 4) p) (1 + 8) (MX 1 4) s) 1 4 (MX 1 4 + 1))))
    (pZ : (¬ ((1 ≤ p ∧ p ≤ 9) ∧ (0 ≤ s ∧ s ≤ 63)) → zZ = -2 ∧ MZ' = MZ) ∧ ((1 ≤ p ∧ p ≤ 9) ∧ (0 ≤ s ∧ s ≤ 63) → (8 ≤ MZ 0 6 → zZ = -4 ∧ MZ' = MZ) ∧ (MZ 0 6 < 8 → zZ = MZ 0 6 + 1 ∧ MZ' = q_up (q_up (q_up MZ 5 (2 * MZ 0 6) p) 5 (2 * MZ 0 6 + 1) s) 0 6 (MZ 0 6 + 1)))) : zX = zZ ∧ q_rel MX' MZ' := by
  obtain ⟨h1, h2, h3, h4, h5, h6, h7, h8, h9, h10⟩ := id r
  rw [h7.1] at pX
  by_cases c1 : (1 ≤ p ∧ p ≤ 9) ∧ (0 ≤ s ∧ s ≤ 63)
  · by_cases c2 : MZ 0 6 < 8
    · obtain ⟨e1, eX⟩ := (pX.2 c1).2 c2
      obtain ⟨e2, eZ⟩ := (pZ.2 c1).2 c2
      obtain ⟨xv, xf, xs, xp, -⟩ := id h1
      obtain ⟨zt, zr, zF, zs, zp⟩ := id h2
      have xo : ∀ j, j ≠ 1 → j ≠ 8 → j ≠ 9 → MX' j = MX j := fun j a b c => by rw [eX, q_up_ne a, q_up_ne (by omega), q_up_ne (by omega)]
      have zo : ∀ j, j ≠ 0 → j ≠ 5 → MZ' j = MZ j := fun j a b => by rw [eZ, q_up_ne a, q_up_ne b, q_up_ne b]
      have zi : ∀ i, i ≠ 6 → MZ' 0 i = MZ 0 i := fun i hi => by rw [eZ, q_up_at, if_neg hi, q_up_ne (by omega), q_up_ne (by omega)]
      have x8 : MX' (1 + 7) = q_row (MX (1 + 7)) (MZ 0 6) p := by rw [eX, q_up_ne (by omega), q_up_ne (by omega), q_up_row]
      have x9 : MX' (1 + 8) = q_row (MX (1 + 8)) (MZ 0 6) s := by rw [eX, q_up_ne (by omega), q_up_row, q_up_ne (by omega)]
      have z5 : MZ' 5 = q_row (q_row (MZ 5) (2 * MZ 0 6) p) (2 * MZ 0 6 + 1) s := by rw [eZ, q_up_ne (by omega), q_up_row, q_up_row]
      have x1 : MX' 1 4 = MZ 0 6 + 1 := by rw [eX, q_up_at, if_pos rfl]
      have z06 : MZ' 0 6 = MZ 0 6 + 1 := by rw [eZ, q_up_at, if_pos rfl]
      refine ⟨by rw [e1, e2], q_rel_small r ⟨xo _ (by omega) (by omega) (by omega), xo _ (by omega) (by omega) (by omega), xo _ (by omega) (by omega) (by omega), by rw [xo (1 + 1) (by omega) (by omega) (by omega)]⟩ ⟨zo 1 (by omega) (by omega), zo 2 (by omega) (by omega), zo 3 (by omega) (by omega), zi 0 (by decide)⟩ ⟨by rw [xo (1 + 1) (by omega) (by omega) (by omega), zi 4 (by decide)]; exact h4.2, by rw [zi 4 (by decide)]; exact zt.2⟩ ⟨by rw [xo (1 + 6) (by omega) (by omega) (by omega)]; exact xf, by rw [zo 4 (by omega) (by omega)]; exact h3, by rw [xo (1 + 6) (by omega) (by omega) (by omega), zo 4 (by omega) (by omega)]; exact h6⟩ (by rw [zo 4 (by omega) (by omega)]; exact zF) ⟨⟨?_, fun i i0 i1 => ?_⟩, ?_, fun i i0 i1 => ?_⟩ ⟨?_, ?_⟩ (xo _ (by omega) (by omega) (by omega)) (fun j a b => xo j (by omega) (by omega) (by omega)) (fun j a => zo j (by omega) (by omega))⟩
      · rw [x1]
        have := zs.1
        omega
      · rw [x8, x9]
        have := xs.2 i i0 i1
        unfold q_row
        by_cases hi : i = MZ 0 6
        · rw [if_pos hi, if_pos hi]
          omega
        · rw [if_neg hi, if_neg hi]
          exact this
      · rw [x1, z06]
      · rw [x8, x9, z5]
        unfold q_row
        by_cases hi : i = MZ 0 6
        · rw [if_pos hi, if_pos hi, if_neg (by omega), if_pos (by omega), if_pos (by omega)]
          exact ⟨rfl, rfl⟩
        · rw [if_neg hi, if_neg hi, if_neg (by omega), if_neg (by omega), if_neg (by omega), if_neg (by omega)]
          exact h7.2 i i0 i1
      · unfold q_pv; rw [xo 28 (by omega) (by omega) (by omega), xo (28 + 1) (by omega) (by omega) (by omega)]; exact xp
      · rw [xo 28 (by omega) (by omega) (by omega), xo (28 + 1) (by omega) (by omega) (by omega), zo 6 (by omega) (by omega), zi 8 (by decide)]; exact h8
    · obtain ⟨e1, eX⟩ := (pX.2 c1).1 (by omega)
      obtain ⟨e2, eZ⟩ := (pZ.2 c1).1 (by omega)
      exact ⟨by rw [e1, e2], by rw [eX, eZ]; exact r⟩
  · obtain ⟨e1, eX⟩ := pX.1 c1
    obtain ⟨e2, eZ⟩ := pZ.1 c1
    exact ⟨by rw [e1, e2], by rw [eX, eZ]; exact r⟩
