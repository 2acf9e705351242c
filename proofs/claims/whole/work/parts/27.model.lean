/-! the reference's answers of the first two kinds -/
theorem q_tk_an {M N : q_M} {a p : Int} (h : q_an M N) : q_set (q_ru (N 7) (N 8) (N 9) (N 0 0) (N 0 4) 0 a p) = q_set (q_tk (M 1) (M 2) (M 3) (M 0 0) (M 0 4) a p) := by
  rw [q_ru_0, h.1 0 (by omega)]
  exact q_set_congr (fun x _ _ => q_tk_sim (q_agR_sim (q_an_ag h)) x)
theorem q_fg9 {M N N' : q_M} {g p v : Int} (h : q_an M N) (e : N' = q_up N 8 g v) (g0 : 0 ≤ g) (g1 : g < 6) : q_has (q_set (q_ru (N' 7) (N' 8) (N' 9) (N' 0 0) (N' 0 4) 0 (N' 9 g) p)) g = q_fgP (M 1) (M 2) (M 3) (M 0 0) (M 0 4) g p v := by
  rw [q_ru_0, q_has_set g0 g1, e, q_up_ne (show (7 : Nat) ≠ 8 by omega), q_up_ne (show (9 : Nat) ≠ 8 by omega), q_up_ne (show (0 : Nat) ≠ 8 by omega), q_up_row, (h.2 g g0 g1).1.2.2, h.1 0 (by omega)]
  unfold q_fgP
  refine q_tk_sim (fun x hx => ?_) g
  have hi := q_has_in hx
  have := (h.2 x hi.1 hi.2).1
  exact ⟨this.1, q_row_eq this.2.1, this.2.2⟩
theorem q_zv_fe {M N : q_M} {g v : Int} (h : q_zv M) (e : N = q_up M 8 g v) (hv : 0 ≤ v ∧ v ≤ 9) : q_zv N := by
  subst e
  refine ⟨?_, ?_, ?_, ?_⟩
  · unfold q_z0
    rw [q_up_ne (by omega)]
    exact h.1
  · rw [q_up_ne (by omega)]; exact h.2.1
  · rw [q_up_row]; exact q_row_fv h.2.2.1 hv
  · rw [q_up_ne (by omega)]; exact h.2.2.2
theorem q_kz_bar {M N : q_M} {FL : Int} {P : Prop} (h : N = M) : q_kz M N := by
  subst h
  exact q_kz_rf
theorem q_star9 {M N : q_M} {th : Int} {s : q_T} (h0 : N 0 0 = th) (h : q_sim th (q_v9 N) s) : q_set (fun x => decide (N 7 x = 20) && q_has (N 0 0) x) = S_star th (qt_h s) := by
  rw [h0]
  exact q_set_congr (fun x _ _ => by
    cases hx : q_has th x
    · simp
    · rw [(h.1 x hx).1.symm]
      rfl)
theorem q_flt_neg0 (pad : Int → Int) (n : Int) : ∀ (m : Nat) (i : Int), 0 ≤ i → q_flt pad n m i = -6 ∨ 0 ≤ q_flt pad n m i
  | 0, _, _ => Or.inl rfl
  | m + 1, i, hi => by
    rw [q_flt_u]
    split
    · exact Or.inl rfl
    · split
      · exact q_flt_neg0 pad n m _ (by omega)
      · split
        · exact Or.inr hi
        · split
          · exact q_flt_neg0 pad n m _ (by omega)
          · exact Or.inr (by omega)
theorem q_flt_neg {pad : Int → Int} {n : Int} {m : Nat} (h : q_flt pad n m 0 < 0) : q_flt pad n m 0 = -6 := by
  have := q_flt_neg0 pad n m 0 (by omega)
  omega
set_option maxHeartbeats 4000000 in
set_option maxRecDepth 100000 in
theorem c_X9_barOfNight (G : q_G) (hI : q_inj G) (M : q_M) (hm : q_mo G) (hZ : q_Z M) : q_CI G yX9_barOfNight wsX9_barOfNight ({ frames := 5, cells := 0, slots := 0, locals := 120 } : Room) [.ref (q_ad G 0)] M (fun z M' => q_kz M M' ∧ (S_bar (q_flt (M 6) (M 0 8) 61 0) (q_NI (M 0 0) (M 0 4) (M 6) (M 0 8) 0 (M 1) (M 2) (M 3)) → z = 0 ∧ q_zv M' ∧ q_sim (M 0 0) (q_v9 M') (q_NI (M 0 0) (M 0 4) (M 6) (M 0 8) 0 (M 1) (M 2) (M 3)).2.2) ∧ (¬ S_bar (q_flt (M 6) (M 0 8) 61 0) (q_NI (M 0 0) (M 0 4) (M 6) (M 0 8) 0 (M 1) (M 2) (M 3)) → z = -5)) := by
  refine q_CI.of hI (by decide) rfl RX9 rfl [(0, .ref (q_ad G 0))] rfl (Nat.le_of_ble_eq_true rfl) (fun E F FI => ?_)
  refine q_MRof (fun hM => ?_)
  obtain ⟨⟨xt, xk⟩, ⟨xh, xf, xa⟩, xF, xs, xp⟩ := id hZ
  have hz := hZ.1
  refine q_aload_n F dX9_barOfNight_0 0 rfl ?_
  refine q_callVP (n := 0) (T := TX9) F (c_X9_faultOf G hI M hm (by omega)) rfl rfl hm.1 gX9_barOfNight_X9_faultOf rfl ⟨by decide, by decide, by decide +kernel⟩ rfl ⟨rfl, rfl, Nat.le_of_ble_eq_true rfl, Nat.le_of_ble_eq_true rfl⟩ rfl (Nat.le_of_ble_eq_true rfl) dX9_barOfNight_1 (fun h1 => ?_)
  refine q_if_ge F 15 dX9_barOfNight_4 (by decide) (by omega) (fun c4 => ?_) (fun c4 => ?_)
  · refine q_bipush F dX9_barOfNight_15 (by decide) ?_
    refine q_goto F 21 dX9_barOfNight_17 (by decide) ?_
    exact q_iret F FI dX9_barOfNight_21 (by omega) ⟨q_kz_rf, fun h => absurd h.1 (by omega), fun _ => rfl⟩
  · have hfl : q_flt (M 6) (M 0 8) 61 0 = -6 := q_flt_neg c4
    refine q_aload_n F dX9_barOfNight_7 0 rfl ?_
    refine q_iconst F dX9_barOfNight_8 ?_
    refine q_callVI (n := 1) (T := TX9) F (c_X9_goNight G hI M hm 0 (by assumption) (by assumption) (by omega)) rfl rfl hm.1 gX9_barOfNight_X9_goNight rfl ⟨by decide, by decide, by decide +kernel⟩ rfl ⟨rfl, rfl, Nat.le_of_ble_eq_true rfl, Nat.le_of_ble_eq_true rfl⟩ rfl (Nat.le_of_ble_eq_true rfl) dX9_barOfNight_9 (fun r9 N9 h9 p9 => ?_)
    refine q_if_lt F 20 dX9_barOfNight_12 (by decide) (by omega) (fun c12 => ?_) (fun c12 => ?_)
    · refine q_iconst F dX9_barOfNight_20 ?_
      exact q_iret F FI dX9_barOfNight_21 (by omega) ⟨p9.1, fun _ => ⟨rfl, p9.2.1, p9.2.2.2.2.1⟩, fun h => absurd ⟨hfl, by rw [← p9.2.2.1]; omega⟩ h⟩
    · refine q_bipush F dX9_barOfNight_15 (by decide) ?_
      refine q_goto F 21 dX9_barOfNight_17 (by decide) ?_
      exact q_iret F FI dX9_barOfNight_21 (by omega) ⟨p9.1, fun h => absurd (p9.2.2.1.trans h.2) (by omega), fun _ => rfl⟩

set_option maxHeartbeats 4000000 in
set_option maxRecDepth 100000 in
theorem c_X9_judge (G : q_G) (hI : q_inj G) (M : q_M) (hm : q_mo G) (w : Int) (hwR : -2147483648 ≤ w ∧ w ≤ 2147483647) (hZ : q_Z M) : q_CI G yX9_judge wsX9_judge ({ frames := 5, cells := 0, slots := 0, locals := 120 } : Room) [.ref (q_ad G 0), .int (q_I w)] M (fun z M' => z = S_judge (q_flt (M 6) (M 0 8) 61 0) w (q_NI (M 0 0) (M 0 4) (M 6) (M 0 8) 0 (M 1) (M 2) (M 3)) ∧ q_kz M M') := by
  refine q_CI.of hI (by decide) rfl RX9 rfl [(0, .ref (q_ad G 0)), (1, .int (q_I w))] rfl (Nat.le_of_ble_eq_true rfl) (fun E F FI => ?_)
  have huX9 : ∀ w ∈ wsX90, w ∈ wsX9_judge := by decide +kernel
  refine q_MRof (fun hM => ?_)
  obtain ⟨⟨xt, xk⟩, ⟨xh, xf, xa⟩, xF, xs, xp⟩ := id hZ
  have hz := hZ.1
  refine q_iload_n F dX9_judge_0 1 rfl ?_
  refine q_iconst F dX9_judge_1 ?_
  refine q_iconst F dX9_judge_2 ?_
  refine q_callSP (n := 3) F (c_X9_in G hI M w 0 1 (by omega)) rfl gX9_judge_X9_in ⟨by decide, by decide, by decide +kernel⟩ rfl ⟨rfl, rfl, Nat.le_of_ble_eq_true rfl, Nat.le_of_ble_eq_true rfl⟩ rfl (Nat.le_of_ble_eq_true rfl) dX9_judge_3 (fun h3 => ?_)
  refine q_ifb_ne F 12 dX9_judge_6 (by decide) (fun c6 => ?_) (fun c6 => ?_)
  · have d1 := q_dt c6
    refine q_aload_n F dX9_judge_12 0 rfl ?_
    refine q_callVP (n := 0) (T := TX9) F (c_X9_faultOf G hI M hm (by omega)) rfl rfl hm.1 gX9_judge_X9_faultOf rfl ⟨by decide, by decide, by decide +kernel⟩ rfl ⟨rfl, rfl, Nat.le_of_ble_eq_true rfl, Nat.le_of_ble_eq_true rfl⟩ rfl (Nat.le_of_ble_eq_true rfl) dX9_judge_13 (fun h13 => ?_)
    refine q_if_lt F 22 dX9_judge_16 (by decide) (by omega) (fun c16 => ?_) (fun c16 => ?_)
    · have hfl : q_flt (M 6) (M 0 8) 61 0 = -6 := q_flt_neg c16
      refine q_aload_n F dX9_judge_22 0 rfl ?_
      refine q_iconst F dX9_judge_23 ?_
      refine q_callVI (n := 1) (T := TX9) F (c_X9_goNight G hI M hm 0 (by assumption) (by assumption) (by omega)) rfl rfl hm.1 gX9_judge_X9_goNight rfl ⟨by decide, by decide, by decide +kernel⟩ rfl ⟨rfl, rfl, Nat.le_of_ble_eq_true rfl, Nat.le_of_ble_eq_true rfl⟩ rfl (Nat.le_of_ble_eq_true rfl) dX9_judge_24 (fun r24 N24 h24 p24 => ?_)
      have h6 := p24.2.2.2.2.2.1
      refine q_istore_n F dX9_judge_27 [(2, .int (q_I r24)), (0, .ref (q_ad G 0)), (1, .int (q_I w))] (Nat.le_of_ble_eq_true rfl) rfl ?_
      refine q_iload_n F dX9_judge_28 0 rfl ?_
      refine q_if_lt F 36 dX9_judge_29 (by decide) (by omega) (fun c29 => ?_) (fun c29 => ?_)
      · refine q_iload_n F dX9_judge_36 0 rfl ?_
        refine q_goto F 44 dX9_judge_37 (by decide) ?_
        exact q_iret F FI dX9_judge_44 (by omega) ⟨by unfold S_judge; rw [if_pos d1, if_pos hfl]; split; exact p24.2.2.1; rw [p24.2.2.2.2.2.2 (by omega)]; omega, p24.1⟩
      · refine q_iload_n F dX9_judge_32 2 rfl ?_
        refine q_if_ne F 40 dX9_judge_33 (by decide) (by omega) (fun c33 => ?_) (fun c33 => ?_)
        · refine q_aload_n F dX9_judge_40 1 rfl ?_
          refine q_geti (T := TX9) (ref := "LeastHungryModel") F huX9 rfl hm.1 16 (by decide) (by decide +kernel) rfl 16 rfl rfl dX9_judge_41 (fun h41 => ?_)
          exact q_iret F FI dX9_judge_44 (by omega) ⟨by unfold S_judge; rw [if_pos d1, if_pos hfl, if_neg c33]; exact p24.2.2.2.1 (by omega), p24.1⟩
        · refine q_iload_n F dX9_judge_36 0 rfl ?_
          refine q_goto F 44 dX9_judge_37 (by decide) ?_
          exact q_iret F FI dX9_judge_44 (by omega) ⟨by unfold S_judge; rw [if_pos d1, if_pos hfl, if_pos c33]; exact p24.2.2.1, p24.1⟩
    · refine q_bipush F dX9_judge_19 (by decide) ?_
      exact q_iret F FI dX9_judge_21 (by omega) ⟨by unfold S_judge; rw [if_pos d1, if_neg (by omega)], q_kz_rf⟩
  · refine q_bipush F dX9_judge_9 (by decide) ?_
    exact q_iret F FI dX9_judge_11 (by omega) ⟨by unfold S_judge; rw [if_neg (q_df c6)], q_kz_rf⟩

set_option maxHeartbeats 4000000 in
set_option maxRecDepth 100000 in
theorem c_X9_done (G : q_G) (hI : q_inj G) (M : q_M) (hm : q_mo G) (hZ : q_Z M) : q_CI G yX9_done wsX9_done ({ frames := 6, cells := 0, slots := 0, locals := 140 } : Room) [.ref (q_ad G 0)] M (fun z M' => z = S_done (q_flt (M 6) (M 0 8) 61 0) (q_NI (M 0 0) (M 0 4) (M 6) (M 0 8) 0 (M 1) (M 2) (M 3)) ∧ (¬ S_bar (q_flt (M 6) (M 0 8) 61 0) (q_NI (M 0 0) (M 0 4) (M 6) (M 0 8) 0 (M 1) (M 2) (M 3)) → q_kz M M') ∧ (S_bar (q_flt (M 6) (M 0 8) 61 0) (q_NI (M 0 0) (M 0 4) (M 6) (M 0 8) 0 (M 1) (M 2) (M 3)) → (∀ j, (4 ≤ j ∧ j ≤ 6) ∨ 17 ≤ j → M' j = M j) ∧ (M' 0 0 = M 0 0 ∧ M' 0 4 = M 0 4 ∧ M' 0 6 = M 0 6 ∧ M' 0 8 = 0) ∧ (q_hv (M' 1) ∧ q_fvv (M' 2) ∧ q_av (M' 3)) ∧ ∀ x, q_has (M 0 0) x = true → M' 1 x = qt_h (q_NI (M 0 0) (M 0 4) (M 6) (M 0 8) 0 (M 1) (M 2) (M 3)).2.2 x ∧ M' 2 x = qt_f (q_NI (M 0 0) (M 0 4) (M 6) (M 0 8) 0 (M 1) (M 2) (M 3)).2.2 x ∧ M' 3 x = qt_a (q_NI (M 0 0) (M 0 4) (M 6) (M 0 8) 0 (M 1) (M 2) (M 3)).2.2 x)) := by
  refine q_CI.of hI (by decide) rfl RX9 rfl [(0, .ref (q_ad G 0))] rfl (Nat.le_of_ble_eq_true rfl) (fun E F FI => ?_)
  have huX9 : ∀ w ∈ wsX90, w ∈ wsX9_done := by decide +kernel
  refine q_MRof (fun hM => ?_)
  obtain ⟨⟨xt, xk⟩, ⟨xh, xf, xa⟩, xF, xs, xp⟩ := id hZ
  have hz := hZ.1
  refine q_aload_n F dX9_done_0 0 rfl ?_
  refine q_callVI (n := 0) (T := TX9) F (c_X9_barOfNight G hI M hm (by assumption)) rfl rfl hm.1 gX9_done_X9_barOfNight rfl ⟨by decide, by decide, by decide +kernel⟩ rfl ⟨rfl, rfl, Nat.le_of_ble_eq_true rfl, Nat.le_of_ble_eq_true rfl⟩ rfl (Nat.le_of_ble_eq_true rfl) dX9_done_1 (fun r1 N1 h1 p1 => ?_)
  refine q_if_ge F 10 dX9_done_4 (by decide) (by omega) (fun c4 => ?_) (fun c4 => ?_)
  · have hbar : S_bar (q_flt (M 6) (M 0 8) 61 0) (q_NI (M 0 0) (M 0 4) (M 6) (M 0 8) 0 (M 1) (M 2) (M 3)) := by
      by_cases h : S_bar (q_flt (M 6) (M 0 8) 61 0) (q_NI (M 0 0) (M 0 4) (M 6) (M 0 8) 0 (M 1) (M 2) (M 3))
      · exact h
      · have := p1.2.2 h
        omega
    have q1 := p1.2.1 hbar
    have hbar2 : q_flt (M 6) (M 0 8) 61 0 = -6 ∧ (q_NI (M 0 0) (M 0 4) (M 6) (M 0 8) 0 (M 1) (M 2) (M 3)).1 = -6 := hbar
    refine q_iconst F dX9_done_10 ?_
    refine q_istore_n F dX9_done_11 [(1, .int (q_I 0)), (0, .ref (q_ad G 0))] (Nat.le_of_ble_eq_true rfl) rfl ?_
    have lp12_1 : ∀ (k12_1 : Nat) (k : Int) (M1 : q_M), ((0 ≤ k ∧ k ≤ 6) ∧ (∀ j, j ≠ 1 → j ≠ 2 → j ≠ 3 → M1 j = N1 j) ∧ ∀ x, 0 ≤ x → x < k → M1 1 x = N1 7 x ∧ M1 2 x = N1 8 x ∧ M1 3 x = N1 9 x) → (6 - k).toNat = k12_1 → q_Y G E 2 M1 [(0, .ref (q_ad G 0)), (1, .int (q_I k))] 12 [] := by
      intro k12_1
      induction k12_1 using Nat.strongRecOn with
      | _ k12_1 ih12_1 =>
        intro k  M1 hi12 hk12
        refine q_MRof (fun hM12 => ?_)
        refine q_iload_n F dX9_done_12 1 rfl ?_
        refine q_bipush F dX9_done_13 (by decide) ?_
        refine q_icmp_ge F 60 dX9_done_15 (by decide) (by omega) (fun c15 => ?_) (fun c15 => ?_)
        · refine q_aload_n F dX9_done_60 0 rfl ?_
          refine q_iconst F dX9_done_61 ?_
          refine q_puti (T := TX9) (ref := "LeastHungryModel") F huX9 rfl hm.1 8 (by decide) (by decide +kernel) rfl 8 rfl tyX9 tyX9_ok nmX9 rfl rfl (by decide +kernel) (by omega) dX9_done_62 (fun N62 eN62 => ?_)
          refine q_aload_n F dX9_done_65 0 rfl ?_
          refine q_geti (T := TX9) (ref := "LeastHungryModel") F huX9 rfl hm.1 17 (by decide) (by decide +kernel) rfl 17 rfl rfl dX9_done_66 (fun h66 => ?_)
          exact q_iret F FI dX9_done_69 (by omega) (by
                obtain ⟨i1, i2, i3⟩ := hi12
                obtain ⟨-, zv, sm⟩ := q1
                have kz := p1.1
                have ne : ∀ j, j ≠ 0 → N62 j = M1 j := fun j hj => by rw [eN62, q_up_ne hj]
                have n0 : ∀ i, i ≠ 8 → N62 0 i = N1 0 i := fun i hi => by rw [eN62, q_up_at, if_neg hi, i2 0 (by omega) (by omega) (by omega)]
                have rr : ∀ x, 0 ≤ x → x < 6 → N62 1 x = N1 7 x ∧ N62 2 x = N1 8 x ∧ N62 3 x = N1 9 x := fun x h0 h1 => by
                  rw [ne 1 (by omega), ne 2 (by omega), ne 3 (by omega)]; exact i3 x h0 (by omega)
                refine ⟨?_, fun h => absurd hbar h, fun _ => ⟨fun j hj => by rw [ne j (by omega), i2 j (by omega) (by omega) (by omega)]; exact kz.1 j (by omega), ⟨(n0 0 (by omega)).trans kz.2.1, (n0 4 (by omega)).trans kz.2.2.1, (n0 6 (by omega)).trans kz.2.2.2.1, by rw [eN62, q_up_at, if_pos rfl]⟩, ⟨fun x h0 h1 => by rw [(rr x h0 h1).1]; exact zv.2.1 x h0 h1, fun x h0 h1 => by rw [(rr x h0 h1).2.1]; exact zv.2.2.1 x h0 h1, fun x h0 h1 => by rw [(rr x h0 h1).2.2]; exact zv.2.2.2 x h0 h1⟩, fun x hx => ?_⟩⟩
                · unfold S_done
                  rw [if_pos (show _ ∧ _ from hbar), n0 17 (by omega)]
                  exact sm.2.2.2.1
                · have hi := q_has_in hx
                  have hr := rr x hi.1 hi.2
                  have hs := sm.1 x hx
                  exact ⟨hr.1.trans hs.1, hr.2.1.trans hs.2.1, hr.2.2.trans hs.2.2⟩)
        · refine q_aload_n F dX9_done_18 0 rfl ?_
          refine q_getr (T := TX9) (ref := "LeastHungryModel") F huX9 rfl hm.1 1 (by decide) (by decide +kernel) rfl rfl dX9_done_19 ?_
          refine q_iload_n F dX9_done_22 1 rfl ?_
          refine q_aload_n F dX9_done_23 0 rfl ?_
          refine q_getr (T := TX9) (ref := "LeastHungryModel") F huX9 rfl hm.1 10 (by decide) (by decide +kernel) rfl rfl dX9_done_24 ?_
          refine q_iload_n F dX9_done_27 1 rfl ?_
          refine q_iald F hm.2.2.2.2.2.2.2.1 (Nat.le_of_ble_eq_true rfl) (by omega) dX9_done_28 (fun h28 => ?_)
          refine q_iast F hm.2.1 (Nat.le_of_ble_eq_true rfl) (by omega) (by omega) dX9_done_29 (fun N29 eN29 => ?_)
          refine q_aload_n F dX9_done_30 0 rfl ?_
          refine q_getr (T := TX9) (ref := "LeastHungryModel") F huX9 rfl hm.1 2 (by decide) (by decide +kernel) rfl rfl dX9_done_31 ?_
          refine q_iload_n F dX9_done_34 1 rfl ?_
          refine q_aload_n F dX9_done_35 0 rfl ?_
          refine q_getr (T := TX9) (ref := "LeastHungryModel") F huX9 rfl hm.1 11 (by decide) (by decide +kernel) rfl rfl dX9_done_36 ?_
          refine q_iload_n F dX9_done_39 1 rfl ?_
          refine q_iald F hm.2.2.2.2.2.2.2.2.1 (Nat.le_of_ble_eq_true rfl) (by omega) dX9_done_40 (fun h40 => ?_)
          refine q_iast F hm.2.2.1 (Nat.le_of_ble_eq_true rfl) (by omega) (by omega) dX9_done_41 (fun N41 eN41 => ?_)
          refine q_aload_n F dX9_done_42 0 rfl ?_
          refine q_getr (T := TX9) (ref := "LeastHungryModel") F huX9 rfl hm.1 3 (by decide) (by decide +kernel) rfl rfl dX9_done_43 ?_
          refine q_iload_n F dX9_done_46 1 rfl ?_
          refine q_aload_n F dX9_done_47 0 rfl ?_
          refine q_getr (T := TX9) (ref := "LeastHungryModel") F huX9 rfl hm.1 12 (by decide) (by decide +kernel) rfl rfl dX9_done_48 ?_
          refine q_iload_n F dX9_done_51 1 rfl ?_
          refine q_iald F hm.2.2.2.2.2.2.2.2.2.1 (Nat.le_of_ble_eq_true rfl) (by omega) dX9_done_52 (fun h52 => ?_)
          refine q_iast F hm.2.2.2.1 (Nat.le_of_ble_eq_true rfl) (by omega) (by omega) dX9_done_53 (fun N53 eN53 => ?_)
          obtain ⟨v54, e54⟩ : ∃ z_ : Int, z_ = k + 1 := ⟨_, rfl⟩
          refine q_iinc F dX9_done_54 1 rfl e54 [(1, .int (q_I v54)), (0, .ref (q_ad G 0))] (Nat.le_of_ble_eq_true rfl) rfl ?_
          refine q_goto F 12 dX9_done_57 (by decide) ?_
          refine q_drop [1, 0] rfl ?_
          obtain ⟨i1, i2, i3⟩ := hi12
          have g7 : M1 7 = N1 7 := i2 7 (by omega) (by omega) (by omega)
          have g8 : N29 8 = N1 8 := by rw [eN29, q_up_ne (by omega), i2 8 (by omega) (by omega) (by omega)]
          have g9 : N41 9 = N1 9 := by rw [eN41, q_up_ne (by omega), eN29, q_up_ne (by omega), i2 9 (by omega) (by omega) (by omega)]
          have r1 : N53 1 = q_row (M1 1) k (N1 7 k) := by rw [eN53, q_up_ne (by omega), eN41, q_up_ne (by omega), eN29, q_up_row, g7]
          have r2 : N53 2 = q_row (M1 2) k (N1 8 k) := by rw [eN53, q_up_ne (by omega), eN41, q_up_row, g8, eN29, q_up_ne (by omega)]
          have r3 : N53 3 = q_row (M1 3) k (N1 9 k) := by rw [eN53, q_up_row, g9, eN41, q_up_ne (by omega), eN29, q_up_ne (by omega)]
          exact ih12_1 _ (by omega) v54 N53 ⟨by omega, fun j a b c => by rw [eN53, q_up_ne c, eN41, q_up_ne b, eN29, q_up_ne a]; exact i2 j a b c, fun x h0 h1 => by
                rw [r1, r2, r3]
                unfold q_row
                by_cases hx : x = k
                · rw [if_pos hx, if_pos hx, if_pos hx, hx]
                  exact ⟨rfl, rfl, rfl⟩
                · rw [if_neg hx, if_neg hx, if_neg hx]
                  exact i3 x h0 (by omega)⟩ rfl
    refine q_drop [1, 0] rfl ?_
    exact lp12_1 _ 0 N1 ⟨by omega, fun _ _ _ _ => rfl, fun x h0 h1 => by omega⟩ rfl
  · have hnb : ¬ S_bar (q_flt (M 6) (M 0 8) 61 0) (q_NI (M 0 0) (M 0 4) (M 6) (M 0 8) 0 (M 1) (M 2) (M 3)) := fun h => by have := (p1.2.1 h).1; omega
    refine q_bipush F dX9_done_7 (by decide) ?_
    exact q_iret F FI dX9_done_9 (by omega) ⟨by unfold S_done; rw [if_neg (show ¬ (_ ∧ _) from hnb)], fun _ => p1.1, fun h => absurd h hnb⟩

set_option maxHeartbeats 4000000 in
set_option maxRecDepth 100000 in
theorem c_X9_state (G : q_G) (hI : q_inj G) (M : q_M) (hm : q_mo G) (g : Int) (w : Int) (hgR : -2147483648 ≤ g ∧ g ≤ 2147483647) (hwR : -2147483648 ≤ w ∧ w ≤ 2147483647) (hZ : q_Z M) : q_CI G yX9_state wsX9_state ({ frames := 2, cells := 0, slots := 0, locals := 43 } : Room) [.ref (q_ad G 0), .int (q_I g), .int (q_I w)] M (fun z M' => z = S_state (M 1) (M 2) (M 3) (M 0 0) g w ∧ q_kz M M') := by
  refine q_CI.of hI (by decide) rfl RX9 rfl [(0, .ref (q_ad G 0)), (1, .int (q_I g)), (2, .int (q_I w))] rfl (Nat.le_of_ble_eq_true rfl) (fun E F FI => ?_)
  have huX9 : ∀ w ∈ wsX90, w ∈ wsX9_state := by decide +kernel
  refine q_MRof (fun hM => ?_)
  obtain ⟨⟨xt, xk⟩, ⟨xh, xf, xa⟩, xF, xs, xp⟩ := id hZ
  have hz := hZ.1
  refine q_aload_n F dX9_state_0 0 rfl ?_
  refine q_iload_n F dX9_state_1 1 rfl ?_
  refine q_callVP (n := 1) (T := TX9) F (c_X9_isThere G hI M hm g (by omega) (by assumption)) rfl rfl hm.1 gX9_state_X9_isThere rfl ⟨by decide, by decide, by decide +kernel⟩ rfl ⟨rfl, rfl, Nat.le_of_ble_eq_true rfl, Nat.le_of_ble_eq_true rfl⟩ rfl (Nat.le_of_ble_eq_true rfl) dX9_state_2 (fun h2 => ?_)
  refine q_ifb_ne F 10 dX9_state_5 (by decide) (fun c5 => ?_) (fun c5 => ?_)
  · have hgi := q_has_in c5
    refine q_aload_n F dX9_state_10 0 rfl ?_
    refine q_callVV (n := 0) (T := TX9) F (c_X9_asNow G hI M hm) rfl rfl hm.1 gX9_state_X9_asNow rfl ⟨by decide, by decide, by decide +kernel⟩ rfl ⟨rfl, rfl, Nat.le_of_ble_eq_true rfl, Nat.le_of_ble_eq_true rfl⟩ rfl (Nat.le_of_ble_eq_true rfl) dX9_state_11 (fun N11 p11 => ?_)
    have zv := q_an_zv p11 hZ
    obtain ⟨⟨r1, r2, r3⟩, -, -⟩ := p11.2 g hgi.1 hgi.2
    have xhg := xh g hgi.1 hgi.2
    have xfg := xf g hgi.1 hgi.2
    have xag := xa g hgi.1 hgi.2
    have kz := q_an_kz p11
    refine q_iload_n F dX9_state_14 2 rfl ?_
    refine q_if_ne F 27 dX9_state_15 (by decide) (by omega) (fun c15 => ?_) (fun c15 => ?_)
    · refine q_iload_n F dX9_state_27 2 rfl ?_
      refine q_iconst F dX9_state_28 ?_
      refine q_icmp_ne F 47 dX9_state_29 (by decide) (by omega) (fun c29 => ?_) (fun c29 => ?_)
      · refine q_iload_n F dX9_state_47 2 rfl ?_
        refine q_iconst F dX9_state_48 ?_
        refine q_icmp_ne F 61 dX9_state_49 (by decide) (by omega) (fun c49 => ?_) (fun c49 => ?_)
        · refine q_bipush F dX9_state_61 (by decide) ?_
          exact q_iret F FI dX9_state_63 (by omega) ⟨by unfold S_state; rw [if_pos c5, if_neg c15, if_neg c29, if_neg c49], kz⟩
        · refine q_aload_n F dX9_state_52 0 rfl ?_
          refine q_getr (T := TX9) (ref := "LeastHungryModel") F huX9 rfl hm.1 12 (by decide) (by decide +kernel) rfl rfl dX9_state_53 ?_
          refine q_iload_n F dX9_state_56 1 rfl ?_
          refine q_iald F hm.2.2.2.2.2.2.2.2.2.1 (Nat.le_of_ble_eq_true rfl) (by omega) dX9_state_57 (fun h57 => ?_)
          refine q_goto F 63 dX9_state_58 (by decide) ?_
          exact q_iret F FI dX9_state_63 (by omega) ⟨by unfold S_state; rw [if_pos c5, if_neg c15, if_neg c29, if_pos c49]; exact r3, kz⟩
      · refine q_aload_n F dX9_state_32 0 rfl ?_
        refine q_getr (T := TX9) (ref := "LeastHungryModel") F huX9 rfl hm.1 10 (by decide) (by decide +kernel) rfl rfl dX9_state_33 ?_
        refine q_iload_n F dX9_state_36 1 rfl ?_
        refine q_iald F hm.2.2.2.2.2.2.2.1 (Nat.le_of_ble_eq_true rfl) (by omega) dX9_state_37 (fun h37 => ?_)
        refine q_aload_n F dX9_state_38 0 rfl ?_
        refine q_iload_n F dX9_state_39 1 rfl ?_
        refine q_callVP (n := 1) (T := TX9) F (c_X9_counts G hI N11 hm g zv (by omega)) rfl rfl hm.1 gX9_state_X9_counts rfl ⟨by decide, by decide, by decide +kernel⟩ rfl ⟨rfl, rfl, Nat.le_of_ble_eq_true rfl, Nat.le_of_ble_eq_true rfl⟩ rfl (Nat.le_of_ble_eq_true rfl) dX9_state_40 (fun h40 => ?_)
        refine q_isub F dX9_state_43 ?_
        refine q_goto F 63 dX9_state_44 (by decide) ?_
        exact q_iret F FI dX9_state_63 (by omega) ⟨by unfold S_state q_shn; rw [if_pos c5, if_neg c15, if_pos c29]; omega, kz⟩
    · refine q_aload_n F dX9_state_18 0 rfl ?_
      refine q_getr (T := TX9) (ref := "LeastHungryModel") F huX9 rfl hm.1 10 (by decide) (by decide +kernel) rfl rfl dX9_state_19 ?_
      refine q_iload_n F dX9_state_22 1 rfl ?_
      refine q_iald F hm.2.2.2.2.2.2.2.1 (Nat.le_of_ble_eq_true rfl) (by omega) dX9_state_23 (fun h23 => ?_)
      refine q_goto F 63 dX9_state_24 (by decide) ?_
      exact q_iret F FI dX9_state_63 (by omega) ⟨by unfold S_state; rw [if_pos c5, if_pos c15]; exact r1, kz⟩
  · refine q_iconst F dX9_state_8 ?_
    exact q_iret F FI dX9_state_9 (by omega) ⟨by unfold S_state; rw [if_neg (by simp [c5])], q_kz_rf⟩

set_option maxHeartbeats 4000000 in
set_option maxRecDepth 100000 in
theorem c_X9_behind (G : q_G) (hI : q_inj G) (M : q_M) (hm : q_mo G) (g : Int) (w : Int) (hgR : -2147483648 ≤ g ∧ g ≤ 2147483647) (hwR : -2147483648 ≤ w ∧ w ≤ 2147483647) (hZ : q_Z M) : q_CI G yX9_behind wsX9_behind ({ frames := 6, cells := 0, slots := 0, locals := 140 } : Room) [.ref (q_ad G 0), .int (q_I g), .int (q_I w)] M (fun z M' => z = S_behind (M 0 0) g w (q_flt (M 6) (M 0 8) 61 0) (q_NI (M 0 0) (M 0 4) (M 6) (M 0 8) 0 (M 1) (M 2) (M 3)) ∧ q_kz M M') := by
  refine q_CI.of hI (by decide) rfl RX9 rfl [(0, .ref (q_ad G 0)), (1, .int (q_I g)), (2, .int (q_I w))] rfl (Nat.le_of_ble_eq_true rfl) (fun E F FI => ?_)
  have huX9 : ∀ w ∈ wsX90, w ∈ wsX9_behind := by decide +kernel
  refine q_MRof (fun hM => ?_)
  obtain ⟨⟨xt, xk⟩, ⟨xh, xf, xa⟩, xF, xs, xp⟩ := id hZ
  have hz := hZ.1
  refine q_aload_n F dX9_behind_0 0 rfl ?_
  refine q_iload_n F dX9_behind_1 1 rfl ?_
  refine q_callVP (n := 1) (T := TX9) F (c_X9_isThere G hI M hm g (by omega) (by assumption)) rfl rfl hm.1 gX9_behind_X9_isThere rfl ⟨by decide, by decide, by decide +kernel⟩ rfl ⟨rfl, rfl, Nat.le_of_ble_eq_true rfl, Nat.le_of_ble_eq_true rfl⟩ rfl (Nat.le_of_ble_eq_true rfl) dX9_behind_2 (fun h2 => ?_)
  refine q_ifb_ne F 10 dX9_behind_5 (by decide) (fun c5 => ?_) (fun c5 => ?_)
  · have hgi := q_has_in c5
    refine q_iload_n F dX9_behind_10 2 rfl ?_
    refine q_iconst F dX9_behind_11 ?_
    refine q_iconst F dX9_behind_12 ?_
    refine q_callSP (n := 3) F (c_X9_in G hI M w 0 3 (by omega)) rfl gX9_behind_X9_in ⟨by decide, by decide, by decide +kernel⟩ rfl ⟨rfl, rfl, Nat.le_of_ble_eq_true rfl, Nat.le_of_ble_eq_true rfl⟩ rfl (Nat.le_of_ble_eq_true rfl) dX9_behind_13 (fun h13 => ?_)
    refine q_ifb_ne F 22 dX9_behind_16 (by decide) (fun c16 => ?_) (fun c16 => ?_)
    · have d2 := q_dt c16
      refine q_aload_n F dX9_behind_22 0 rfl ?_
      refine q_callVI (n := 0) (T := TX9) F (c_X9_barOfNight G hI M hm (by assumption)) rfl rfl hm.1 gX9_behind_X9_barOfNight rfl ⟨by decide, by decide, by decide +kernel⟩ rfl ⟨rfl, rfl, Nat.le_of_ble_eq_true rfl, Nat.le_of_ble_eq_true rfl⟩ rfl (Nat.le_of_ble_eq_true rfl) dX9_behind_23 (fun r23 N23 h23 p23 => ?_)
      refine q_if_ge F 32 dX9_behind_26 (by decide) (by omega) (fun c26 => ?_) (fun c26 => ?_)
      · have hbar : S_bar (q_flt (M 6) (M 0 8) 61 0) (q_NI (M 0 0) (M 0 4) (M 6) (M 0 8) 0 (M 1) (M 2) (M 3)) := by
          by_cases h : S_bar (q_flt (M 6) (M 0 8) 61 0) (q_NI (M 0 0) (M 0 4) (M 6) (M 0 8) 0 (M 1) (M 2) (M 3))
          · exact h
          · have := p23.2.2 h
            omega
        have q23 := p23.2.1 hbar
        have hbar2 : q_flt (M 6) (M 0 8) 61 0 = -6 ∧ (q_NI (M 0 0) (M 0 4) (M 6) (M 0 8) 0 (M 1) (M 2) (M 3)).1 = -6 := hbar
        obtain ⟨-, zv, sm⟩ := q23
        refine q_iload_n F dX9_behind_32 2 rfl ?_
        refine q_if_ne F 45 dX9_behind_33 (by decide) (by omega) (fun c33 => ?_) (fun c33 => ?_)
        · refine q_iload_n F dX9_behind_45 2 rfl ?_
          refine q_iconst F dX9_behind_46 ?_
          refine q_icmp_ne F 59 dX9_behind_47 (by decide) (by omega) (fun c47 => ?_) (fun c47 => ?_)
          · refine q_iload_n F dX9_behind_59 2 rfl ?_
            refine q_iconst F dX9_behind_60 ?_
            refine q_icmp_ne F 73 dX9_behind_61 (by decide) (by omega) (fun c61 => ?_) (fun c61 => ?_)
            · refine q_aload_n F dX9_behind_73 0 rfl ?_
              refine q_getr (T := TX9) (ref := "LeastHungryModel") F huX9 rfl hm.1 12 (by decide) (by decide +kernel) rfl rfl dX9_behind_74 ?_
              refine q_iload_n F dX9_behind_77 1 rfl ?_
              refine q_iald F hm.2.2.2.2.2.2.2.2.2.1 (Nat.le_of_ble_eq_true rfl) (by omega) dX9_behind_78 (fun h78 => ?_)
              exact q_iret F FI dX9_behind_79 (by omega) ⟨by unfold S_behind; rw [if_pos c5, if_pos d2, if_pos hbar2, if_neg c33, if_neg c47, if_neg c61]; exact (sm.1 g c5).2.2, p23.1⟩
            · refine q_aload_n F dX9_behind_64 0 rfl ?_
              refine q_getr (T := TX9) (ref := "LeastHungryModel") F huX9 rfl hm.1 14 (by decide) (by decide +kernel) rfl rfl dX9_behind_65 ?_
              refine q_iload_n F dX9_behind_68 1 rfl ?_
              refine q_iald F hm.2.2.2.2.2.2.2.2.2.2.2.1 (Nat.le_of_ble_eq_true rfl) (by omega) dX9_behind_69 (fun h69 => ?_)
              refine q_goto F 79 dX9_behind_70 (by decide) ?_
              exact q_iret F FI dX9_behind_79 (by omega) ⟨by unfold S_behind; rw [if_pos c5, if_pos d2, if_pos hbar2, if_neg c33, if_neg c47, if_pos c61]; exact (sm.2.1 g hgi.1 hgi.2).2, p23.1⟩
          · refine q_aload_n F dX9_behind_50 0 rfl ?_
            refine q_getr (T := TX9) (ref := "LeastHungryModel") F huX9 rfl hm.1 13 (by decide) (by decide +kernel) rfl rfl dX9_behind_51 ?_
            refine q_iload_n F dX9_behind_54 1 rfl ?_
            refine q_iald F hm.2.2.2.2.2.2.2.2.2.2.1 (Nat.le_of_ble_eq_true rfl) (by omega) dX9_behind_55 (fun h55 => ?_)
            refine q_goto F 79 dX9_behind_56 (by decide) ?_
            exact q_iret F FI dX9_behind_79 (by omega) ⟨by unfold S_behind; rw [if_pos c5, if_pos d2, if_pos hbar2, if_neg c33, if_pos c47]; exact (sm.2.1 g hgi.1 hgi.2).1, p23.1⟩
        · refine q_aload_n F dX9_behind_36 0 rfl ?_
          refine q_getr (T := TX9) (ref := "LeastHungryModel") F huX9 rfl hm.1 10 (by decide) (by decide +kernel) rfl rfl dX9_behind_37 ?_
          refine q_iload_n F dX9_behind_40 1 rfl ?_
          refine q_iald F hm.2.2.2.2.2.2.2.1 (Nat.le_of_ble_eq_true rfl) (by omega) dX9_behind_41 (fun h41 => ?_)
          refine q_goto F 79 dX9_behind_42 (by decide) ?_
          exact q_iret F FI dX9_behind_79 (by omega) ⟨by unfold S_behind; rw [if_pos c5, if_pos d2, if_pos hbar2, if_pos c33]; exact (sm.1 g c5).1, p23.1⟩
      · have hnb : ¬ S_bar (q_flt (M 6) (M 0 8) 61 0) (q_NI (M 0 0) (M 0 4) (M 6) (M 0 8) 0 (M 1) (M 2) (M 3)) := fun h => by have := (p23.2.1 h).1; omega
        refine q_bipush F dX9_behind_29 (by decide) ?_
        exact q_iret F FI dX9_behind_31 (by omega) ⟨by unfold S_behind; rw [if_pos c5, if_pos d2, if_neg (show ¬ (_ ∧ _) from hnb)], p23.1⟩
    · refine q_bipush F dX9_behind_19 (by decide) ?_
      exact q_iret F FI dX9_behind_21 (by omega) ⟨by unfold S_behind; rw [if_pos c5, if_neg (q_df c16)], q_kz_rf⟩
  · refine q_iconst F dX9_behind_8 ?_
    exact q_iret F FI dX9_behind_9 (by omega) ⟨by unfold S_behind; rw [if_neg (by simp [c5])], q_kz_rf⟩

set_option maxHeartbeats 4000000 in
set_option maxRecDepth 100000 in
theorem c_X9_starved (G : q_G) (hI : q_inj G) (M : q_M) (hm : q_mo G) (hv : q_zv M) : q_CI G yX9_starved wsX9_starved ({ frames := 1, cells := 0, slots := 0, locals := 21 } : Room) [.ref (q_ad G 0)] M (fun z M' => z = q_set (fun x => decide (M 7 x = 20) && q_has (M 0 0) x) ∧ M' = M) := by
  refine q_CI.of hI (by decide) rfl RX9 rfl [(0, .ref (q_ad G 0))] rfl (Nat.le_of_ble_eq_true rfl) (fun E F FI => ?_)
  have huX9 : ∀ w ∈ wsX90, w ∈ wsX9_starved := by decide +kernel
  refine q_MRof (fun hM => ?_)
  obtain ⟨⟨xt, xk⟩, xh, xf, xa⟩ := id hv
  refine q_iconst F dX9_starved_0 ?_
  refine q_istore_n F dX9_starved_1 [(1, .int (q_I 0)), (0, .ref (q_ad G 0))] (Nat.le_of_ble_eq_true rfl) rfl ?_
  refine q_iconst F dX9_starved_2 ?_
  refine q_istore_n F dX9_starved_3 [(2, .int (q_I 0)), (1, .int (q_I 0)), (0, .ref (q_ad G 0))] (Nat.le_of_ble_eq_true rfl) rfl ?_
  have lp4_1 : ∀ (k4_1 : Nat) (s : Int) (k : Int), ((0 ≤ k ∧ k ≤ 6) ∧ s = q_set (q_lt (fun x => decide (M 7 x = 20) && q_has (M 0 0) x) k)) → (6 - k).toNat = k4_1 → q_Y G E 3 M [(0, .ref (q_ad G 0)), (1, .int (q_I s)), (2, .int (q_I k))] 4 [] := by
    intro k4_1
    induction k4_1 using Nat.strongRecOn with
    | _ k4_1 ih4_1 =>
      intro s k   hi4 hk4
      have hsR : 0 ≤ s ∧ s ≤ 63 := by
        rw [hi4.2]
        exact q_set_R _
      refine q_iload_n F dX9_starved_4 2 rfl ?_
      refine q_bipush F dX9_starved_5 (by decide) ?_
      refine q_icmp_ge F 48 dX9_starved_7 (by decide) (by omega) (fun c7 => ?_) (fun c7 => ?_)
      · refine q_iload_n F dX9_starved_48 1 rfl ?_
        exact q_iret F FI dX9_starved_49 (by omega) (by rw [hi4.2, show k = 6 by omega, q_set_6]; exact ⟨rfl, rfl⟩)
      · refine q_iload_n F dX9_starved_10 1 rfl ?_
        refine q_aload_n F dX9_starved_11 0 rfl ?_
        refine q_geti (T := TX9) (ref := "LeastHungryModel") F huX9 rfl hm.1 0 (by decide) (by decide +kernel) rfl 0 rfl rfl dX9_starved_12 (fun h12 => ?_)
        refine q_iload_n F dX9_starved_15 2 rfl ?_
        refine q_callSP (n := 2) F (c_X9_has G hI M _ k (by omega)) rfl gX9_starved_X9_has ⟨by decide, by decide, by decide +kernel⟩ rfl ⟨rfl, rfl, Nat.le_of_ble_eq_true rfl, Nat.le_of_ble_eq_true rfl⟩ rfl (Nat.le_of_ble_eq_true rfl) dX9_starved_16 (fun h16 => ?_)
        refine q_ifb_eq F 39 dX9_starved_19 (by decide) (fun c19 => ?_) (fun c19 => ?_)
        · refine q_iconst F dX9_starved_39 ?_
          refine q_ior F dX9_starved_40 (fun z40 e40 h40 => ?_)
          refine q_istore_n F dX9_starved_41 [(1, .int (q_I z40)), (0, .ref (q_ad G 0)), (2, .int (q_I k))] (Nat.le_of_ble_eq_true rfl) rfl ?_
          obtain ⟨v42, e42⟩ : ∃ z_ : Int, z_ = k + 1 := ⟨_, rfl⟩
          refine q_iinc F dX9_starved_42 2 rfl e42 [(2, .int (q_I v42)), (1, .int (q_I z40)), (0, .ref (q_ad G 0))] (Nat.le_of_ble_eq_true rfl) rfl ?_
          refine q_goto F 4 dX9_starved_45 (by decide) ?_
          refine q_drop [2, 1, 0] rfl ?_
          exact ih4_1 _ (by omega) z40 v42 ⟨by omega, by rw [e42, q_set_step _ (by omega) (by omega), if_neg (by simp [c19]), e40, q_or_0 hsR.1 hsR.2]; exact hi4.2⟩ rfl
        · refine q_aload_n F dX9_starved_22 0 rfl ?_
          refine q_getr (T := TX9) (ref := "LeastHungryModel") F huX9 rfl hm.1 10 (by decide) (by decide +kernel) rfl rfl dX9_starved_23 ?_
          refine q_iload_n F dX9_starved_26 2 rfl ?_
          refine q_iald F hm.2.2.2.2.2.2.2.1 (Nat.le_of_ble_eq_true rfl) (by omega) dX9_starved_27 (fun h27 => ?_)
          refine q_bipush F dX9_starved_28 (by decide) ?_
          refine q_icmp_ne F 39 dX9_starved_30 (by decide) (by omega) (fun c30 => ?_) (fun c30 => ?_)
          · refine q_iconst F dX9_starved_39 ?_
            refine q_ior F dX9_starved_40 (fun z40 e40 h40 => ?_)
            refine q_istore_n F dX9_starved_41 [(1, .int (q_I z40)), (0, .ref (q_ad G 0)), (2, .int (q_I k))] (Nat.le_of_ble_eq_true rfl) rfl ?_
            obtain ⟨v42, e42⟩ : ∃ z_ : Int, z_ = k + 1 := ⟨_, rfl⟩
            refine q_iinc F dX9_starved_42 2 rfl e42 [(2, .int (q_I v42)), (1, .int (q_I z40)), (0, .ref (q_ad G 0))] (Nat.le_of_ble_eq_true rfl) rfl ?_
            refine q_goto F 4 dX9_starved_45 (by decide) ?_
            refine q_drop [2, 1, 0] rfl ?_
            exact ih4_1 _ (by omega) z40 v42 ⟨by omega, by rw [e42, q_set_step _ (by omega) (by omega), if_neg (by simp [c30]), e40, q_or_0 hsR.1 hsR.2]; exact hi4.2⟩ rfl
          · refine q_iconst F dX9_starved_33 ?_
            refine q_iload_n F dX9_starved_34 2 rfl ?_
            refine q_ishl F dX9_starved_35 (fun z35 e35 h35 => ?_)
            refine q_goto F 40 dX9_starved_36 (by decide) ?_
            refine q_ior F dX9_starved_40 (fun z40 e40 h40 => ?_)
            refine q_istore_n F dX9_starved_41 [(1, .int (q_I z40)), (0, .ref (q_ad G 0)), (2, .int (q_I k))] (Nat.le_of_ble_eq_true rfl) rfl ?_
            obtain ⟨v42, e42⟩ : ∃ z_ : Int, z_ = k + 1 := ⟨_, rfl⟩
            refine q_iinc F dX9_starved_42 2 rfl e42 [(2, .int (q_I v42)), (1, .int (q_I z40)), (0, .ref (q_ad G 0))] (Nat.le_of_ble_eq_true rfl) rfl ?_
            refine q_goto F 4 dX9_starved_45 (by decide) ?_
            refine q_drop [2, 1, 0] rfl ?_
            exact ih4_1 _ (by omega) z40 v42 ⟨by omega, by rw [e42, q_set_step _ (by omega) (by omega), if_pos (by simp [c19, c30]), e40, e35, ← hi4.2]⟩ rfl
  refine q_drop [2, 1, 0] rfl ?_
  exact lp4_1 _ 0 0 ⟨by omega, (q_set_0 _).symm⟩ rfl

set_option maxHeartbeats 4000000 in
set_option maxRecDepth 100000 in
theorem c_X9_waste (G : q_G) (hI : q_inj G) (M : q_M) (hm : q_mo G) (w : Int) (hwR : -2147483648 ≤ w ∧ w ≤ 2147483647) (hZ : q_Z M) : q_CI G yX9_waste wsX9_waste ({ frames := 6, cells := 0, slots := 0, locals := 140 } : Room) [.ref (q_ad G 0), .int (q_I w)] M (fun z M' => z = S_waste (M 0 0) w (q_flt (M 6) (M 0 8) 61 0) (q_NI (M 0 0) (M 0 4) (M 6) (M 0 8) 0 (M 1) (M 2) (M 3)) ∧ q_kz M M') := by
  refine q_CI.of hI (by decide) rfl RX9 rfl [(0, .ref (q_ad G 0)), (1, .int (q_I w))] rfl (Nat.le_of_ble_eq_true rfl) (fun E F FI => ?_)
  have huX9 : ∀ w ∈ wsX90, w ∈ wsX9_waste := by decide +kernel
  refine q_MRof (fun hM => ?_)
  obtain ⟨⟨xt, xk⟩, ⟨xh, xf, xa⟩, xF, xs, xp⟩ := id hZ
  have hz := hZ.1
  refine q_iload_n F dX9_waste_0 1 rfl ?_
  refine q_iconst F dX9_waste_1 ?_
  refine q_iconst F dX9_waste_2 ?_
  refine q_callSP (n := 3) F (c_X9_in G hI M w 0 2 (by omega)) rfl gX9_waste_X9_in ⟨by decide, by decide, by decide +kernel⟩ rfl ⟨rfl, rfl, Nat.le_of_ble_eq_true rfl, Nat.le_of_ble_eq_true rfl⟩ rfl (Nat.le_of_ble_eq_true rfl) dX9_waste_3 (fun h3 => ?_)
  refine q_ifb_ne F 12 dX9_waste_6 (by decide) (fun c6 => ?_) (fun c6 => ?_)
  · have d1 := q_dt c6
    refine q_aload_n F dX9_waste_12 0 rfl ?_
    refine q_callVI (n := 0) (T := TX9) F (c_X9_barOfNight G hI M hm (by assumption)) rfl rfl hm.1 gX9_waste_X9_barOfNight rfl ⟨by decide, by decide, by decide +kernel⟩ rfl ⟨rfl, rfl, Nat.le_of_ble_eq_true rfl, Nat.le_of_ble_eq_true rfl⟩ rfl (Nat.le_of_ble_eq_true rfl) dX9_waste_13 (fun r13 N13 h13 p13 => ?_)
    refine q_if_ge F 22 dX9_waste_16 (by decide) (by omega) (fun c16 => ?_) (fun c16 => ?_)
    · have hbar : S_bar (q_flt (M 6) (M 0 8) 61 0) (q_NI (M 0 0) (M 0 4) (M 6) (M 0 8) 0 (M 1) (M 2) (M 3)) := by
        by_cases h : S_bar (q_flt (M 6) (M 0 8) 61 0) (q_NI (M 0 0) (M 0 4) (M 6) (M 0 8) 0 (M 1) (M 2) (M 3))
        · exact h
        · have := p13.2.2 h
          omega
      have q13 := p13.2.1 hbar
      have hbar2 : q_flt (M 6) (M 0 8) 61 0 = -6 ∧ (q_NI (M 0 0) (M 0 4) (M 6) (M 0 8) 0 (M 1) (M 2) (M 3)).1 = -6 := hbar
      obtain ⟨-, zv, sm⟩ := q13
      refine q_iload_n F dX9_waste_22 1 rfl ?_
      refine q_if_ne F 33 dX9_waste_23 (by decide) (by omega) (fun c23 => ?_) (fun c23 => ?_)
      · refine q_iload_n F dX9_waste_33 1 rfl ?_
        refine q_iconst F dX9_waste_34 ?_
        refine q_icmp_ne F 45 dX9_waste_35 (by decide) (by omega) (fun c35 => ?_) (fun c35 => ?_)
        · refine q_aload_n F dX9_waste_45 0 rfl ?_
          refine q_callVP (n := 0) (T := TX9) F (c_X9_starved G hI N13 hm zv) rfl rfl hm.1 gX9_waste_X9_starved rfl ⟨by decide, by decide, by decide +kernel⟩ rfl ⟨rfl, rfl, Nat.le_of_ble_eq_true rfl, Nat.le_of_ble_eq_true rfl⟩ rfl (Nat.le_of_ble_eq_true rfl) dX9_waste_46 (fun h46 => ?_)
          exact q_iret F FI dX9_waste_49 (by have := q_set_R (fun x => decide (N13 7 x = 20) && q_has (N13 0 0) x); omega) ⟨by unfold S_waste; rw [if_pos d1, if_pos hbar2, if_neg c23, if_neg c35]; exact q_star9 (M := M) p13.1.2.1 sm, p13.1⟩
        · refine q_aload_n F dX9_waste_38 0 rfl ?_
          refine q_geti (T := TX9) (ref := "LeastHungryModel") F huX9 rfl hm.1 18 (by decide) (by decide +kernel) rfl 18 rfl rfl dX9_waste_39 (fun h39 => ?_)
          refine q_goto F 49 dX9_waste_42 (by decide) ?_
          exact q_iret F FI dX9_waste_49 (by omega) ⟨by unfold S_waste; rw [if_pos d1, if_pos hbar2, if_neg c23, if_pos c35]; exact sm.2.2.2.2, p13.1⟩
      · refine q_aload_n F dX9_waste_26 0 rfl ?_
        refine q_geti (T := TX9) (ref := "LeastHungryModel") F huX9 rfl hm.1 15 (by decide) (by decide +kernel) rfl 15 rfl rfl dX9_waste_27 (fun h27 => ?_)
        refine q_goto F 49 dX9_waste_30 (by decide) ?_
        exact q_iret F FI dX9_waste_49 (by omega) ⟨by unfold S_waste; rw [if_pos d1, if_pos hbar2, if_pos c23]; exact sm.2.2.1, p13.1⟩
    · have hnb : ¬ S_bar (q_flt (M 6) (M 0 8) 61 0) (q_NI (M 0 0) (M 0 4) (M 6) (M 0 8) 0 (M 1) (M 2) (M 3)) := fun h => by have := (p13.2.1 h).1; omega
      refine q_bipush F dX9_waste_19 (by decide) ?_
      exact q_iret F FI dX9_waste_21 (by omega) ⟨by unfold S_waste; rw [if_pos d1, if_neg (show ¬ (_ ∧ _) from hnb)], p13.1⟩
  · refine q_bipush F dX9_waste_9 (by decide) ?_
    exact q_iret F FI dX9_waste_11 (by omega) ⟨by unfold S_waste; rw [if_neg (q_df c6)], q_kz_rf⟩

set_option maxHeartbeats 4000000 in
set_option maxRecDepth 100000 in
theorem c_X9_served (G : q_G) (hI : q_inj G) (M : q_M) (hm : q_mo G) (pl : Int) (p : Int) (hplR : -2147483648 ≤ pl ∧ pl ≤ 2147483647) (hpR : -2147483648 ≤ p ∧ p ≤ 2147483647) (hZ : q_Z M) : q_CI G yX9_served wsX9_served ({ frames := 3, cells := 0, slots := 0, locals := 71 } : Room) [.ref (q_ad G 0), .int (q_I pl), .int (q_I p)] M (fun z M' => z = S_served (M 1) (M 2) (M 3) (M 0 0) (M 0 4) pl p ∧ q_kz M M') := by
  refine q_CI.of hI (by decide) rfl RX9 rfl [(0, .ref (q_ad G 0)), (1, .int (q_I pl)), (2, .int (q_I p))] rfl (Nat.le_of_ble_eq_true rfl) (fun E F FI => ?_)
  refine q_MRof (fun hM => ?_)
  obtain ⟨⟨xt, xk⟩, ⟨xh, xf, xa⟩, xF, xs, xp⟩ := id hZ
  have hz := hZ.1
  refine q_iload_n F dX9_served_0 1 rfl ?_
  refine q_iconst F dX9_served_1 ?_
  refine q_iconst F dX9_served_2 ?_
  refine q_callSP (n := 3) F (c_X9_in G hI M pl 0 2 (by omega)) rfl gX9_served_X9_in ⟨by decide, by decide, by decide +kernel⟩ rfl ⟨rfl, rfl, Nat.le_of_ble_eq_true rfl, Nat.le_of_ble_eq_true rfl⟩ rfl (Nat.le_of_ble_eq_true rfl) dX9_served_3 (fun h3 => ?_)
  refine q_ifb_ne F 11 dX9_served_6 (by decide) (fun c6 => ?_) (fun c6 => ?_)
  · have d1 := q_dt c6
    refine q_iload_n F dX9_served_11 2 rfl ?_
    refine q_iconst F dX9_served_12 ?_
    refine q_bipush F dX9_served_13 (by decide) ?_
    refine q_callSP (n := 3) F (c_X9_in G hI M p 1 9 (by omega)) rfl gX9_served_X9_in ⟨by decide, by decide, by decide +kernel⟩ rfl ⟨rfl, rfl, Nat.le_of_ble_eq_true rfl, Nat.le_of_ble_eq_true rfl⟩ rfl (Nat.le_of_ble_eq_true rfl) dX9_served_15 (fun h15 => ?_)
    refine q_ifb_ne F 24 dX9_served_18 (by decide) (fun c18 => ?_) (fun c18 => ?_)
    · have d2 := q_dt c18
      refine q_aload_n F dX9_served_24 0 rfl ?_
      refine q_callVV (n := 0) (T := TX9) F (c_X9_asNow G hI M hm) rfl rfl hm.1 gX9_served_X9_asNow rfl ⟨by decide, by decide, by decide +kernel⟩ rfl ⟨rfl, rfl, Nat.le_of_ble_eq_true rfl, Nat.le_of_ble_eq_true rfl⟩ rfl (Nat.le_of_ble_eq_true rfl) dX9_served_25 (fun N25 p25 => ?_)
      have zv := q_an_zv p25 hZ
      refine q_aload_n F dX9_served_28 0 rfl ?_
      refine q_iload_n F dX9_served_29 1 rfl ?_
      refine q_iload_n F dX9_served_30 2 rfl ?_
      refine q_iconst F dX9_served_31 ?_
      refine q_callVP (n := 3) (T := TX9) F (c_X9_servedBy G hI N25 hm pl p 0 zv (by omega)) rfl rfl hm.1 gX9_served_X9_servedBy rfl ⟨by decide, by decide, by decide +kernel⟩ rfl ⟨rfl, rfl, Nat.le_of_ble_eq_true rfl, Nat.le_of_ble_eq_true rfl⟩ rfl (Nat.le_of_ble_eq_true rfl) dX9_served_32 (fun h32 => ?_)
      exact q_iret F FI dX9_served_35 (by have := q_set_R (q_ru (N25 7) (N25 8) (N25 9) (N25 0 0) (N25 0 4) 0 pl p); omega) ⟨by unfold S_served; rw [if_pos d1, if_pos d2, q_tk_an p25], q_an_kz p25⟩
    · refine q_bipush F dX9_served_21 (by decide) ?_
      exact q_iret F FI dX9_served_23 (by omega) ⟨by unfold S_served; rw [if_pos d1, if_neg (q_df c18)], q_kz_rf⟩
  · refine q_iconst F dX9_served_9 ?_
    exact q_iret F FI dX9_served_10 (by omega) ⟨by unfold S_served; rw [if_neg (q_df c6)], q_kz_rf⟩

set_option maxHeartbeats 4000000 in
set_option maxRecDepth 100000 in
theorem c_X9_feign (G : q_G) (hI : q_inj G) (M : q_M) (hm : q_mo G) (g : Int) (p : Int) (hgR : -2147483648 ≤ g ∧ g ≤ 2147483647) (hpR : -2147483648 ≤ p ∧ p ≤ 2147483647) (hZ : q_Z M) : q_CI G yX9_feign wsX9_feign ({ frames := 3, cells := 0, slots := 0, locals := 71 } : Room) [.ref (q_ad G 0), .int (q_I g), .int (q_I p)] M (fun z M' => z = S_feign (M 1) (M 2) (M 3) (M 0 0) (M 0 4) g p ∧ q_kz M M') := by
  refine q_CI.of hI (by decide) rfl RX9 rfl [(0, .ref (q_ad G 0)), (1, .int (q_I g)), (2, .int (q_I p))] rfl (Nat.le_of_ble_eq_true rfl) (fun E F FI => ?_)
  have huX9 : ∀ w ∈ wsX90, w ∈ wsX9_feign := by decide +kernel
  refine q_MRof (fun hM => ?_)
  obtain ⟨⟨xt, xk⟩, ⟨xh, xf, xa⟩, xF, xs, xp⟩ := id hZ
  have hz := hZ.1
  refine q_aload_n F dX9_feign_0 0 rfl ?_
  refine q_iload_n F dX9_feign_1 1 rfl ?_
  refine q_callVP (n := 1) (T := TX9) F (c_X9_isThere G hI M hm g (by omega) (by assumption)) rfl rfl hm.1 gX9_feign_X9_isThere rfl ⟨by decide, by decide, by decide +kernel⟩ rfl ⟨rfl, rfl, Nat.le_of_ble_eq_true rfl, Nat.le_of_ble_eq_true rfl⟩ rfl (Nat.le_of_ble_eq_true rfl) dX9_feign_2 (fun h2 => ?_)
  refine q_ifb_ne F 10 dX9_feign_5 (by decide) (fun c5 => ?_) (fun c5 => ?_)
  · have hgi := q_has_in c5
    refine q_iload_n F dX9_feign_10 2 rfl ?_
    refine q_iconst F dX9_feign_11 ?_
    refine q_bipush F dX9_feign_12 (by decide) ?_
    refine q_callSP (n := 3) F (c_X9_in G hI M p 1 9 (by omega)) rfl gX9_feign_X9_in ⟨by decide, by decide, by decide +kernel⟩ rfl ⟨rfl, rfl, Nat.le_of_ble_eq_true rfl, Nat.le_of_ble_eq_true rfl⟩ rfl (Nat.le_of_ble_eq_true rfl) dX9_feign_14 (fun h14 => ?_)
    refine q_ifb_ne F 23 dX9_feign_17 (by decide) (fun c17 => ?_) (fun c17 => ?_)
    · have d2 := q_dt c17
      refine q_iconst F dX9_feign_23 ?_
      refine q_istore_n F dX9_feign_24 [(3, .int (q_I 0)), (0, .ref (q_ad G 0)), (1, .int (q_I g)), (2, .int (q_I p))] (Nat.le_of_ble_eq_true rfl) rfl ?_
      have lp25_1 : ∀ (k25_1 : Nat) (f : Int) (M1 : q_M), ((0 ≤ f ∧ f ≤ 10) ∧ q_kz M M1 ∧ q_first (q_fgP (M 1) (M 2) (M 3) (M 0 0) (M 0 4) g p) 10 0 = q_first (q_fgP (M 1) (M 2) (M 3) (M 0 0) (M 0 4) g p) (10 - f).toNat f) → (10 - f).toNat = k25_1 → q_Y G E 4 M1 [(0, .ref (q_ad G 0)), (1, .int (q_I g)), (2, .int (q_I p)), (3, .int (q_I f))] 25 [] := by
        intro k25_1
        induction k25_1 using Nat.strongRecOn with
        | _ k25_1 ih25_1 =>
          intro f  M1 hi25 hk25
          refine q_MRof (fun hM25 => ?_)
          have kz := hi25.2.1
          have i1 := kz.1 1 (by omega)
          have i2 := kz.1 2 (by omega)
          have i3 := kz.1 3 (by omega)
          have i0 : q_fgP (M 1) (M 2) (M 3) (M1 0 0) (M1 0 4) g p f = q_fgP (M 1) (M 2) (M 3) (M 0 0) (M 0 4) g p f := by rw [kz.2.1, kz.2.2.1]
          have hu := hi25.2.2
          refine q_iload_n F dX9_feign_25 3 rfl ?_
          refine q_bipush F dX9_feign_26 (by decide) ?_
          refine q_icmp_ge F 69 dX9_feign_28 (by decide) (by omega) (fun c28 => ?_) (fun c28 => ?_)
          · refine q_bipush F dX9_feign_69 (by decide) ?_
            exact q_iret F FI dX9_feign_71 (by omega) ⟨by unfold S_feign; rw [if_pos c5, if_pos d2, hu, show (10 - f).toNat = 0 by omega]; rfl, kz⟩
          · refine q_aload_n F dX9_feign_31 0 rfl ?_
            refine q_callVV (n := 0) (T := TX9) F (c_X9_asNow G hI M1 hm) rfl rfl hm.1 gX9_feign_X9_asNow rfl ⟨by decide, by decide, by decide +kernel⟩ rfl ⟨rfl, rfl, Nat.le_of_ble_eq_true rfl, Nat.le_of_ble_eq_true rfl⟩ rfl (Nat.le_of_ble_eq_true rfl) dX9_feign_32 (fun N32 p32 => ?_)
            have zv32 := q_an_zv p32 (q_Z_kz hZ kz)
            refine q_aload_n F dX9_feign_35 0 rfl ?_
            refine q_getr (T := TX9) (ref := "LeastHungryModel") F huX9 rfl hm.1 11 (by decide) (by decide +kernel) rfl rfl dX9_feign_36 ?_
            refine q_iload_n F dX9_feign_39 1 rfl ?_
            refine q_iload_n F dX9_feign_40 3 rfl ?_
            refine q_iast F hm.2.2.2.2.2.2.2.2.1 (Nat.le_of_ble_eq_true rfl) (by omega) (by omega) dX9_feign_41 (fun N41 eN41 => ?_)
            have zv41 := q_zv_fe zv32 eN41 (by omega)
            have a41 := zv41.2.2.2 g hgi.1 hgi.2
            refine q_aload_n F dX9_feign_42 0 rfl ?_
            refine q_aload_n F dX9_feign_43 0 rfl ?_
            refine q_getr (T := TX9) (ref := "LeastHungryModel") F huX9 rfl hm.1 12 (by decide) (by decide +kernel) rfl rfl dX9_feign_44 ?_
            refine q_iload_n F dX9_feign_47 1 rfl ?_
            refine q_iald F hm.2.2.2.2.2.2.2.2.2.1 (Nat.le_of_ble_eq_true rfl) (by omega) dX9_feign_48 (fun h48 => ?_)
            refine q_iload_n F dX9_feign_49 2 rfl ?_
            refine q_iconst F dX9_feign_50 ?_
            refine q_callVP (n := 3) (T := TX9) F (c_X9_servedBy G hI N41 hm _ p 0 zv41 (by omega)) rfl rfl hm.1 gX9_feign_X9_servedBy rfl ⟨by decide, by decide, by decide +kernel⟩ rfl ⟨rfl, rfl, Nat.le_of_ble_eq_true rfl, Nat.le_of_ble_eq_true rfl⟩ rfl (Nat.le_of_ble_eq_true rfl) dX9_feign_51 (fun h51 => ?_)
            refine q_iload_n F dX9_feign_54 1 rfl ?_
            have hs51 := q_set_R (q_ru (N41 7) (N41 8) (N41 9) (N41 0 0) (N41 0 4) 0 (N41 9 g) p)
            refine q_callSP (n := 2) F (c_X9_has G hI N41 _ g (by omega)) rfl gX9_feign_X9_has ⟨by decide, by decide, by decide +kernel⟩ rfl ⟨rfl, rfl, Nat.le_of_ble_eq_true rfl, Nat.le_of_ble_eq_true rfl⟩ rfl (Nat.le_of_ble_eq_true rfl) dX9_feign_55 (fun h55 => ?_)
            refine q_ifb_eq F 63 dX9_feign_58 (by decide) (fun c58 => ?_) (fun c58 => ?_)
            · rw [q_fg9 p32 eN41 hgi.1 hgi.2, i1, i2, i3, i0] at c58
              obtain ⟨v63, e63⟩ : ∃ z_ : Int, z_ = f + 1 := ⟨_, rfl⟩
              refine q_iinc F dX9_feign_63 3 rfl e63 [(3, .int (q_I v63)), (0, .ref (q_ad G 0)), (1, .int (q_I g)), (2, .int (q_I p))] (Nat.le_of_ble_eq_true rfl) rfl ?_
              refine q_goto F 25 dX9_feign_66 (by decide) ?_
              refine q_drop [1, 2, 3, 0] rfl ?_
              exact ih25_1 _ (by omega) v63 N41 ⟨by omega, q_kz_tr kz (q_kz_tr (q_an_kz p32) (q_kz_e eN41 (by omega))), by rw [hu, show (10 - f).toNat = (10 - v63).toNat + 1 by omega, q_first_u, if_neg (by simp [c58]), e63]⟩ rfl
            · rw [q_fg9 p32 eN41 hgi.1 hgi.2, i1, i2, i3, i0] at c58
              refine q_iload_n F dX9_feign_61 3 rfl ?_
              exact q_iret F FI dX9_feign_62 (by omega) ⟨by unfold S_feign; rw [if_pos c5, if_pos d2, hu, show (10 - f).toNat = (10 - f - 1).toNat + 1 by omega, q_first_u, if_pos c58], q_kz_tr kz (q_kz_tr (q_an_kz p32) (q_kz_e eN41 (by omega)))⟩
      refine q_drop [1, 2, 3, 0] rfl ?_
      exact lp25_1 _ 0 M ⟨by omega, q_kz_rf, rfl⟩ rfl
    · refine q_bipush F dX9_feign_20 (by decide) ?_
      exact q_iret F FI dX9_feign_22 (by omega) ⟨by unfold S_feign; rw [if_pos c5, if_neg (q_df c17)], q_kz_rf⟩
  · refine q_iconst F dX9_feign_8 ?_
    exact q_iret F FI dX9_feign_9 (by omega) ⟨by unfold S_feign; rw [if_neg (by simp [c5])], q_kz_rf⟩

set_option maxHeartbeats 4000000 in
set_option maxRecDepth 100000 in
theorem c_X9_gain (G : q_G) (hI : q_inj G) (M : q_M) (hm : q_mo G) (g : Int) (p : Int) (hv : q_zv M) (hg : (0 ≤ g ∧ g < 6) ∧ (1 ≤ p ∧ p ≤ 9)) : q_CI G yX9_gain wsX9_gain ({ frames := 3, cells := 0, slots := 0, locals := 71 } : Room) [.ref (q_ad G 0), .int (q_I g), .int (q_I p)] M (fun z M' => z = q_wth (M 7) (M 8) (q_set (q_tk (M 7) (M 8) (M 9) (M 0 0) (M 0 4) (M 9 g) p)) g ∧ M' = M) := by
  refine q_CI.of hI (by decide) rfl RX9 rfl [(0, .ref (q_ad G 0)), (1, .int (q_I g)), (2, .int (q_I p))] rfl (Nat.le_of_ble_eq_true rfl) (fun E F FI => ?_)
  have huX9 : ∀ w ∈ wsX90, w ∈ wsX9_gain := by decide +kernel
  refine q_MRof (fun hM => ?_)
  obtain ⟨⟨xt, xk⟩, xh, xf, xa⟩ := id hv
  have hvh := xh g hg.1.1 hg.1.2
  have hvf := xf g hg.1.1 hg.1.2
  have hva := xa g hg.1.1 hg.1.2
  refine q_aload_n F dX9_gain_0 0 rfl ?_
  refine q_aload_n F dX9_gain_1 0 rfl ?_
  refine q_getr (T := TX9) (ref := "LeastHungryModel") F huX9 rfl hm.1 12 (by decide) (by decide +kernel) rfl rfl dX9_gain_2 ?_
  refine q_iload_n F dX9_gain_5 1 rfl ?_
  refine q_iald F hm.2.2.2.2.2.2.2.2.2.1 (Nat.le_of_ble_eq_true rfl) (by omega) dX9_gain_6 (fun h6 => ?_)
  refine q_iload_n F dX9_gain_7 2 rfl ?_
  refine q_iconst F dX9_gain_8 ?_
  refine q_callVP (n := 3) (T := TX9) F (c_X9_servedBy G hI M hm _ p 0 (by assumption) (by omega)) rfl rfl hm.1 gX9_gain_X9_servedBy rfl ⟨by decide, by decide, by decide +kernel⟩ rfl ⟨rfl, rfl, Nat.le_of_ble_eq_true rfl, Nat.le_of_ble_eq_true rfl⟩ rfl (Nat.le_of_ble_eq_true rfl) dX9_gain_9 (fun h9 => ?_)
  refine q_iload_n F dX9_gain_12 1 rfl ?_
  have hs9 := q_set_R (q_ru (M 7) (M 8) (M 9) (M 0 0) (M 0 4) 0 (M 9 g) p)
  refine q_callSP (n := 2) F (c_X9_has G hI M _ g (by omega)) rfl gX9_gain_X9_has ⟨by decide, by decide, by decide +kernel⟩ rfl ⟨rfl, rfl, Nat.le_of_ble_eq_true rfl, Nat.le_of_ble_eq_true rfl⟩ rfl (Nat.le_of_ble_eq_true rfl) dX9_gain_13 (fun h13 => ?_)
  refine q_ifb_eq F 42 dX9_gain_16 (by decide) (fun c16 => ?_) (fun c16 => ?_)
  · refine q_iconst F dX9_gain_42 ?_
    refine q_istore_n F dX9_gain_43 [(3, .int (q_I 0)), (0, .ref (q_ad G 0)), (1, .int (q_I g)), (2, .int (q_I p))] (Nat.le_of_ble_eq_true rfl) rfl ?_
    refine q_iload_n F dX9_gain_44 0 rfl ?_
    refine q_aload_n F dX9_gain_45 1 rfl ?_
    refine q_getr (T := TX9) (ref := "LeastHungryModel") F huX9 rfl hm.1 11 (by decide) (by decide +kernel) rfl rfl dX9_gain_46 ?_
    refine q_iload_n F dX9_gain_49 2 rfl ?_
    refine q_iald F hm.2.2.2.2.2.2.2.2.1 (Nat.le_of_ble_eq_true rfl) (by omega) dX9_gain_50 (fun h50 => ?_)
    refine q_iconst F dX9_gain_51 ?_
    refine q_idiv F dX9_gain_52 (by omega) ?_
    refine q_isub F dX9_gain_53 ?_
    exact q_iret F FI dX9_gain_54 (by omega) ⟨by rw [q_ru_0] at c16; unfold q_wth q_left; rw [if_neg (by simp [c16])]; omega, rfl⟩
  · refine q_aload_n F dX9_gain_19 0 rfl ?_
    refine q_getr (T := TX9) (ref := "LeastHungryModel") F huX9 rfl hm.1 10 (by decide) (by decide +kernel) rfl rfl dX9_gain_20 ?_
    refine q_iload_n F dX9_gain_23 1 rfl ?_
    refine q_iald F hm.2.2.2.2.2.2.2.1 (Nat.le_of_ble_eq_true rfl) (by omega) dX9_gain_24 (fun h24 => ?_)
    refine q_iconst F dX9_gain_25 ?_
    refine q_icmp_ge F 38 dX9_gain_26 (by decide) (by omega) (fun c26 => ?_) (fun c26 => ?_)
    · refine q_iconst F dX9_gain_38 ?_
      refine q_goto F 43 dX9_gain_39 (by decide) ?_
      refine q_istore_n F dX9_gain_43 [(3, .int (q_I 2)), (0, .ref (q_ad G 0)), (1, .int (q_I g)), (2, .int (q_I p))] (Nat.le_of_ble_eq_true rfl) rfl ?_
      refine q_iload_n F dX9_gain_44 0 rfl ?_
      refine q_aload_n F dX9_gain_45 1 rfl ?_
      refine q_getr (T := TX9) (ref := "LeastHungryModel") F huX9 rfl hm.1 11 (by decide) (by decide +kernel) rfl rfl dX9_gain_46 ?_
      refine q_iload_n F dX9_gain_49 2 rfl ?_
      refine q_iald F hm.2.2.2.2.2.2.2.2.1 (Nat.le_of_ble_eq_true rfl) (by omega) dX9_gain_50 (fun h50 => ?_)
      refine q_iconst F dX9_gain_51 ?_
      refine q_idiv F dX9_gain_52 (by omega) ?_
      refine q_isub F dX9_gain_53 ?_
      exact q_iret F FI dX9_gain_54 (by omega) ⟨by rw [q_ru_0] at c16; unfold q_wth q_left; rw [if_pos c16]; omega, rfl⟩
    · refine q_aload_n F dX9_gain_29 0 rfl ?_
      refine q_getr (T := TX9) (ref := "LeastHungryModel") F huX9 rfl hm.1 10 (by decide) (by decide +kernel) rfl rfl dX9_gain_30 ?_
      refine q_iload_n F dX9_gain_33 1 rfl ?_
      refine q_iald F hm.2.2.2.2.2.2.2.1 (Nat.le_of_ble_eq_true rfl) (by omega) dX9_gain_34 (fun h34 => ?_)
      refine q_goto F 43 dX9_gain_35 (by decide) ?_
      refine q_nm (fun v43 e43 => ?_)
      refine q_istore_n F dX9_gain_43 [(3, .int (q_I v43)), (0, .ref (q_ad G 0)), (1, .int (q_I g)), (2, .int (q_I p))] (Nat.le_of_ble_eq_true rfl) rfl ?_
      refine q_iload_n F dX9_gain_44 0 rfl ?_
      refine q_aload_n F dX9_gain_45 1 rfl ?_
      refine q_getr (T := TX9) (ref := "LeastHungryModel") F huX9 rfl hm.1 11 (by decide) (by decide +kernel) rfl rfl dX9_gain_46 ?_
      refine q_iload_n F dX9_gain_49 2 rfl ?_
      refine q_iald F hm.2.2.2.2.2.2.2.2.1 (Nat.le_of_ble_eq_true rfl) (by omega) dX9_gain_50 (fun h50 => ?_)
      refine q_iconst F dX9_gain_51 ?_
      refine q_idiv F dX9_gain_52 (by omega) ?_
      refine q_isub F dX9_gain_53 ?_
      exact q_iret F FI dX9_gain_54 (by omega) ⟨by rw [q_ru_0] at c16; unfold q_wth q_left; rw [if_pos c16, e43]; omega, rfl⟩
