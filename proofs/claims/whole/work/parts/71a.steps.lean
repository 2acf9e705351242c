/-! the calls that ask answer alike -/
theorem q_st_judge {MX MX' MZ MZ' : q_M} {w : Int} {zX zZ : Int} (r : q_rel MX MZ) (pX : (fun z M' => z = S_judge (q_flt (MX (28 + 1)) (MX 28 1) 61 0) w (q_NI (MX (1 + 1) 4) (MX (1 + 1) 5) (MX (28 + 1)) (MX 28 1) 0 (MX (1 + 1 + 1)) (MX (1 + 1 + 2)) (MX (1 + 1 + 3))) ∧ q_kp MX M' ∧ q_ww M') zX MX') (pZ : (fun z M' => z = S_judge (q_flt (MZ 6) (MZ 0 8) 61 0) w (q_NI (MZ 0 0) (MZ 0 4) (MZ 6) (MZ 0 8) 0 (MZ 1) (MZ 2) (MZ 3)) ∧ q_kz MZ M') zZ MZ') : zX = zZ ∧ q_rel MX' MZ' := by
  obtain ⟨h1, h2, h3, h4, h5, h6, h7, h8, h9, h10⟩ := id r
  have e1 := pX.1
  have e2 := pZ.1
  refine ⟨?_, q_rel_q r pX.2.1 pX.2.2 pZ.2⟩
  rw [e1, e2, h4.1, h4.2, h8.1, h8.2]
  exact S_judge_sim h5
theorem q_st_state {MX MX' MZ MZ' : q_M} {g w : Int} {zX zZ : Int} (r : q_rel MX MZ) (pX : (fun z M' => z = (S_state (MX (1 + 1 + 1)) (MX (1 + 1 + 2)) (MX (1 + 1 + 3)) (MX (1 + 1) 4) g w) ∧ M' = MX) zX MX') (pZ : (fun z M' => z = S_state (MZ 1) (MZ 2) (MZ 3) (MZ 0 0) g w ∧ q_kz MZ M') zZ MZ') : zX = zZ ∧ q_rel MX' MZ' := by
  obtain ⟨h1, h2, h3, h4, h5, h6, h7, h8, h9, h10⟩ := id r
  obtain ⟨e1, eX⟩ := pX
  subst eX
  have e2 := pZ.1
  refine ⟨?_, q_rel_q r q_kp_rf h1.2.2.2.2.1 pZ.2⟩
  rw [e1, e2, h4.1]
  exact S_state_sim h5
theorem q_st_behind {MX MX' MZ MZ' : q_M} {g w : Int} {zX zZ : Int} (r : q_rel MX MZ) (pX : (fun z M' => z = S_behind (MX (1 + 1) 4) g w (q_flt (MX (28 + 1)) (MX 28 1) 61 0) (q_NI (MX (1 + 1) 4) (MX (1 + 1) 5) (MX (28 + 1)) (MX 28 1) 0 (MX (1 + 1 + 1)) (MX (1 + 1 + 2)) (MX (1 + 1 + 3))) ∧ q_kp MX M' ∧ q_ww M') zX MX') (pZ : (fun z M' => z = S_behind (MZ 0 0) g w (q_flt (MZ 6) (MZ 0 8) 61 0) (q_NI (MZ 0 0) (MZ 0 4) (MZ 6) (MZ 0 8) 0 (MZ 1) (MZ 2) (MZ 3)) ∧ q_kz MZ M') zZ MZ') : zX = zZ ∧ q_rel MX' MZ' := by
  obtain ⟨h1, h2, h3, h4, h5, h6, h7, h8, h9, h10⟩ := id r
  have e1 := pX.1
  have e2 := pZ.1
  refine ⟨?_, q_rel_q r pX.2.1 pX.2.2 pZ.2⟩
  rw [e1, e2, h4.1, h4.2, h8.1, h8.2]
  exact S_behind_sim h5
theorem q_st_waste {MX MX' MZ MZ' : q_M} {w : Int} {zX zZ : Int} (r : q_rel MX MZ) (pX : (fun z M' => z = S_waste (MX (1 + 1) 4) w (q_flt (MX (28 + 1)) (MX 28 1) 61 0) (q_NI (MX (1 + 1) 4) (MX (1 + 1) 5) (MX (28 + 1)) (MX 28 1) 0 (MX (1 + 1 + 1)) (MX (1 + 1 + 2)) (MX (1 + 1 + 3))) ∧ q_kp MX M' ∧ q_ww M') zX MX') (pZ : (fun z M' => z = S_waste (MZ 0 0) w (q_flt (MZ 6) (MZ 0 8) 61 0) (q_NI (MZ 0 0) (MZ 0 4) (MZ 6) (MZ 0 8) 0 (MZ 1) (MZ 2) (MZ 3)) ∧ q_kz MZ M') zZ MZ') : zX = zZ ∧ q_rel MX' MZ' := by
  obtain ⟨h1, h2, h3, h4, h5, h6, h7, h8, h9, h10⟩ := id r
  have e1 := pX.1
  have e2 := pZ.1
  refine ⟨?_, q_rel_q r pX.2.1 pX.2.2 pZ.2⟩
  rw [e1, e2, h4.1, h4.2, h8.1, h8.2]
  exact S_waste_sim h5
theorem q_st_served {MX MX' MZ MZ' : q_M} {pl p : Int} {zX zZ : Int} (r : q_rel MX MZ) (pX : (fun z M' => z = S_served (MX (1 + 1 + 1)) (MX (1 + 1 + 2)) (MX (1 + 1 + 3)) (MX (1 + 1) 4) (MX (1 + 1) 5) pl p ∧ q_kp MX M' ∧ q_ww M') zX MX') (pZ : (fun z M' => z = S_served (MZ 1) (MZ 2) (MZ 3) (MZ 0 0) (MZ 0 4) pl p ∧ q_kz MZ M') zZ MZ') : zX = zZ ∧ q_rel MX' MZ' := by
  obtain ⟨h1, h2, h3, h4, h5, h6, h7, h8, h9, h10⟩ := id r
  have e1 := pX.1
  have e2 := pZ.1
  refine ⟨?_, q_rel_q r pX.2.1 pX.2.2 pZ.2⟩
  rw [e1, e2, h4.1, h4.2]
  exact S_served_sim h5
theorem q_st_feign {MX MX' MZ MZ' : q_M} {g p : Int} {zX zZ : Int} (r : q_rel MX MZ) (pX : (fun z M' => z = S_feign (MX (1 + 1 + 1)) (MX (1 + 1 + 2)) (MX (1 + 1 + 3)) (MX (1 + 1) 4) (MX (1 + 1) 5) g p ∧ q_kp MX M' ∧ q_ww M') zX MX') (pZ : (fun z M' => z = S_feign (MZ 1) (MZ 2) (MZ 3) (MZ 0 0) (MZ 0 4) g p ∧ q_kz MZ M') zZ MZ') : zX = zZ ∧ q_rel MX' MZ' := by
  obtain ⟨h1, h2, h3, h4, h5, h6, h7, h8, h9, h10⟩ := id r
  have e1 := pX.1
  have e2 := pZ.1
  refine ⟨?_, q_rel_q r pX.2.1 pX.2.2 pZ.2⟩
  rw [e1, e2, h4.1, h4.2]
  exact S_feign_sim h5
theorem q_st_rests {MX MX' MZ MZ' : q_M} {pl p i : Int} {zX zZ : Int} (r : q_rel MX MZ) (pX : (fun z M' => z = S_rests (MX (1 + 1 + 1)) (MX (1 + 1 + 2)) (MX (1 + 1 + 3)) (MX (1 + 1) 4) (MX (1 + 1) 5) pl p i ∧ q_kp MX M' ∧ q_ww M') zX MX') (pZ : (fun z M' => z = S_rests (MZ 1) (MZ 2) (MZ 3) (MZ 0 0) (MZ 0 4) pl p i ∧ q_kz MZ M') zZ MZ') : zX = zZ ∧ q_rel MX' MZ' := by
  obtain ⟨h1, h2, h3, h4, h5, h6, h7, h8, h9, h10⟩ := id r
  have e1 := pX.1
  have e2 := pZ.1
  refine ⟨?_, q_rel_q r pX.2.1 pX.2.2 pZ.2⟩
  rw [e1, e2, h4.1, h4.2]
  exact S_rests_sim h5
theorem q_st_round {MX MX' MZ MZ' : q_M} {g m d w : Int} {zX zZ : Int} (r : q_rel MX MZ) (pX : (fun z M' => z = S_round (MX (1 + 1 + 1)) (MX (1 + 1 + 2)) (MX (1 + 1 + 3)) (MX (1 + 1) 4) (MX (1 + 1) 5) g m d w ∧ q_kp MX M' ∧ q_ww M') zX MX') (pZ : (fun z M' => z = S_round (MZ 1) (MZ 2) (MZ 3) (MZ 0 0) (MZ 0 4) g m d w ∧ q_kz MZ M') zZ MZ') : zX = zZ ∧ q_rel MX' MZ' := by
  obtain ⟨h1, h2, h3, h4, h5, h6, h7, h8, h9, h10⟩ := id r
  have e1 := pX.1
  have e2 := pZ.1
  refine ⟨?_, q_rel_q r pX.2.1 pX.2.2 pZ.2⟩
  rw [e1, e2, h4.1, h4.2]
  exact S_round_sim h5
theorem q_st_rules {MX MX' MZ MZ' : q_M} {pl p ru w : Int} {zX zZ : Int} (r : q_rel MX MZ) (pX : (fun z M' => z = S_rules (MX (1 + 1 + 1)) (MX (1 + 1 + 2)) (MX (1 + 1 + 3)) (MX (1 + 1) 4) (MX (1 + 1) 5) pl p ru w ∧ q_kp MX M' ∧ q_ww M') zX MX') (pZ : (fun z M' => z = S_rules (MZ 1) (MZ 2) (MZ 3) (MZ 0 0) (MZ 0 4) pl p ru w ∧ q_kz MZ M') zZ MZ') : zX = zZ ∧ q_rel MX' MZ' := by
  obtain ⟨h1, h2, h3, h4, h5, h6, h7, h8, h9, h10⟩ := id r
  have e1 := pX.1
  have e2 := pZ.1
  refine ⟨?_, q_rel_q r pX.2.1 pX.2.2 pZ.2⟩
  rw [e1, e2, h4.1, h4.2]
  exact S_rules_sim h5
theorem q_st_worlds {MX MX' MZ MZ' : q_M} {g w : Int} {zX zZ : Int} (r : q_rel MX MZ) (pX : (fun z M' => z = S_worlds (MX (1 + 1 + 1)) (MX (1 + 1 + 2)) (MX (1 + 1 + 3)) (MX (1 + 1) 4) (MX (1 + 1) 5) (MX (1 + 7)) (MX (1 + 8)) (MX 1 4) g w ∧ q_kp MX M' ∧ q_ww M') zX MX') (pZ : (fun z M' => z = S9_worlds (MZ 1) (MZ 2) (MZ 3) (MZ 0 0) (MZ 0 4) (fun i => MZ 5 (2 * i)) (fun i => MZ 5 (2 * i + 1)) (MZ 0 6) g w ∧ q_kz MZ M') zZ MZ') : zX = zZ ∧ q_rel MX' MZ' := by
  obtain ⟨h1, h2, h3, h4, h5, h6, h7, h8, h9, h10⟩ := id r
  have e1 := pX.1
  have e2 := pZ.1
  refine ⟨?_, q_rel_q r pX.2.1 pX.2.2 pZ.2⟩
  rw [e1, e2, q_S9_worlds h2.2.1.1, h4.1, h4.2, h7.1]
  exact S_worlds_sim h5 (fun i a b => h7.2 i a (by have := h2.2.2.2.1.1; omega)) h2.2.2.2.1.1.1
theorem q_st_tells {MX MX' MZ MZ' : q_M} {w : Int} {zX zZ : Int} (r : q_rel MX MZ) (pX : (fun z M' => z = S_tells (MX (1 + 1 + 1)) (MX (1 + 1 + 2)) (MX (1 + 1 + 3)) (MX (1 + 1) 4) (MX (1 + 1) 5) (MX (1 + 7)) (MX (1 + 8)) (MX 1 4) w ∧ q_kp MX M' ∧ q_ww M') zX MX') (pZ : (fun z M' => z = S9_tells (MZ 1) (MZ 2) (MZ 3) (MZ 0 0) (MZ 0 4) (fun i => MZ 5 (2 * i)) (fun i => MZ 5 (2 * i + 1)) (MZ 0 6) w ∧ q_kz MZ M') zZ MZ') : zX = zZ ∧ q_rel MX' MZ' := by
  obtain ⟨h1, h2, h3, h4, h5, h6, h7, h8, h9, h10⟩ := id r
  have e1 := pX.1
  have e2 := pZ.1
  refine ⟨?_, q_rel_q r pX.2.1 pX.2.2 pZ.2⟩
  rw [e1, e2, q_S9_tells, h4.1, h4.2, h7.1]
  exact S_tells_sim h5 (fun i a b => h7.2 i a (by have := h2.2.2.2.1.1; omega)) h2.2.2.2.1.1.1
theorem q_st_portions {MX MX' MZ MZ' : q_M} {n w : Int} {zX zZ : Int} (r : q_rel MX MZ) (pX : (fun z M' => z = S_portions (MX (1 + 1 + 1)) (MX (1 + 1 + 3)) (MX (1 + 1) 4) n w ∧ q_kp MX M' ∧ q_ww M') zX MX') (pZ : (fun z M' => z = S_portions (MZ 1) (MZ 3) (MZ 0 0) n w ∧ q_kz MZ M') zZ MZ') : zX = zZ ∧ q_rel MX' MZ' := by
  obtain ⟨h1, h2, h3, h4, h5, h6, h7, h8, h9, h10⟩ := id r
  have e1 := pX.1
  have e2 := pZ.1
  refine ⟨?_, q_rel_q r pX.2.1 pX.2.2 pZ.2⟩
  rw [e1, e2, h4.1]
  exact S_portions_sim h5
theorem q_st_seats {MX MX' MZ MZ' : q_M} {pl i : Int} {zX zZ : Int} (r : q_rel MX MZ) (pX : (fun z M' => z = S_seats (MX (1 + 6)) (MX (1 + 1 + 3)) (MX (1 + 1) 4) pl i ∧ q_kp MX M' ∧ q_ww M') zX MX') (pZ : (fun z M' => z = S_seats (MZ 4) (MZ 3) (MZ 0 0) pl i ∧ q_kz MZ M') zZ MZ') : zX = zZ ∧ q_rel MX' MZ' := by
  obtain ⟨h1, h2, h3, h4, h5, h6, h7, h8, h9, h10⟩ := id r
  have e1 := pX.1
  have e2 := pZ.1
  refine ⟨?_, q_rel_q r pX.2.1 pX.2.2 pZ.2⟩
  rw [e1, e2, h4.1]
  exact S_seats_sim h5 h1.2.1 h2.2.2.1 h6
theorem q_st_belch {MX MX' MZ MZ' : q_M} {g p t w : Int} {zX zZ : Int64} (r : q_rel MX MZ) (pX : (fun r M' => r = q_J (S_belch (MX (1 + 1 + 1)) (MX (1 + 1 + 2)) (MX (1 + 1 + 3)) (MX (1 + 1) 4) g p t w) ∧ q_kp MX M' ∧ q_ww M') zX MX') (pZ : (fun r M' => r = q_J (S_belch (MZ 1) (MZ 2) (MZ 3) (MZ 0 0) g p t w) ∧ q_kz MZ M') zZ MZ') : zX = zZ ∧ q_rel MX' MZ' := by
  obtain ⟨h1, h2, h3, h4, h5, h6, h7, h8, h9, h10⟩ := id r
  have e1 := pX.1
  have e2 := pZ.1
  refine ⟨?_, q_rel_q r pX.2.1 pX.2.2 pZ.2⟩
  rw [e1, e2, h4.1]
  exact congrArg q_J (S_belch_sim h5)
theorem q_st_host {MX MX' MZ MZ' : q_M} {zX zZ : Int} (r : q_rel MX MZ) (pX : (fun z M' => z = S_host (MX (1 + 1) 4) (q_flt (MX (28 + 1)) (MX 28 1) 61 0) (fun v => q_NI (MX (1 + 1) 4) (MX (1 + 1) 5) (MX (28 + 1)) (MX 28 1) v (MX (1 + 1 + 1)) (MX (1 + 1 + 2)) (MX (1 + 1 + 3))) ∧ q_kp MX M' ∧ q_ww M') zX MX') (pZ : (fun z M' => z = S_host (MZ 0 0) (q_flt (MZ 6) (MZ 0 8) 61 0) (fun v => q_NI (MZ 0 0) (MZ 0 4) (MZ 6) (MZ 0 8) v (MZ 1) (MZ 2) (MZ 3)) ∧ q_kz MZ M') zZ MZ') : zX = zZ ∧ q_rel MX' MZ' := by
  obtain ⟨h1, h2, h3, h4, h5, h6, h7, h8, h9, h10⟩ := id r
  have e1 := pX.1
  have e2 := pZ.1
  refine ⟨?_, q_rel_q r pX.2.1 pX.2.2 pZ.2⟩
  rw [e1, e2, h4.1, h4.2, h8.1, h8.2]
  exact S_host_sim h5
theorem q_st_year {MX MX' MZ MZ' : q_M} {seed m w : Int} {zX zZ : Int} (r : q_rel MX MZ) (pX : (fun z M' => z = S_year (MX (1 + 1 + 1)) (MX (1 + 1 + 2)) (MX (1 + 1 + 3)) (MX (1 + 1) 4) (MX (1 + 1) 5) seed m w ∧ q_kp MX M' ∧ q_ww M') zX MX') (pZ : (fun z M' => z = S_year (MZ 1) (MZ 2) (MZ 3) (MZ 0 0) (MZ 0 4) seed m w ∧ q_kz MZ M') zZ MZ') : zX = zZ ∧ q_rel MX' MZ' := by
  obtain ⟨h1, h2, h3, h4, h5, h6, h7, h8, h9, h10⟩ := id r
  have e1 := pX.1
  have e2 := pZ.1
  refine ⟨?_, q_rel_q r pX.2.1 pX.2.2 pZ.2⟩
  rw [e1, e2, h4.1, h4.2]
  exact S_year_sim h5
theorem q_st_fault {MX MX' MZ MZ' : q_M} {zX zZ : Int} (r : q_rel MX MZ) (pX : (fun z M' => z = ((q_flt (MX (28 + 1)) (MX 28 1) 61 0)) ∧ M' = MX) zX MX') (pZ : (fun z M' => z = (q_flt (MZ 6) (MZ 0 8) 61 0) ∧ M' = MZ) zZ MZ') : zX = zZ ∧ q_rel MX' MZ' := by
  obtain ⟨h1, h2, h3, h4, h5, h6, h7, h8, h9, h10⟩ := id r
  obtain ⟨e1, eX⟩ := pX
  subst eX
  obtain ⟨e2, eZ⟩ := pZ
  subst eZ
  refine ⟨?_, r⟩
  rw [e1, e2, h8.1, h8.2]
theorem q_st_told {MX MX' MZ MZ' : q_M} {w : Int} {zX zZ : Int} (r : q_rel MX MZ) (pX : (fun z M' => z = (S_told (MX (1 + 1 + 2)) (MX (1 + 6)) (MX (1 + 1) 4) (MX (1 + 1) 5) (MX 1 4) (MX 28 1) w) ∧ M' = MX) zX MX') (pZ : (fun z M' => z = (S_told (MZ 2) (MZ 4) (MZ 0 0) (MZ 0 4) (MZ 0 6) (MZ 0 8) w) ∧ M' = MZ) zZ MZ') : zX = zZ ∧ q_rel MX' MZ' := by
  obtain ⟨h1, h2, h3, h4, h5, h6, h7, h8, h9, h10⟩ := id r
  obtain ⟨e1, eX⟩ := pX
  subst eX
  obtain ⟨e2, eZ⟩ := pZ
  subst eZ
  refine ⟨?_, r⟩
  rw [e1, e2, h4.1, h4.2, h7.1, h8.1]
  exact S_told_sim h5 h6
