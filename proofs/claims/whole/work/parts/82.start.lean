set_option maxHeartbeats 4000000 in
set_option maxRecDepth 100000 in
/-- from the entry, for every script of at most 2560 ints, the law comes to its end with true -/
theorem whole_start {p : Program} {e : Env} {s : State} {m : MethodId} {below : List Frame} {meth : Method} {c : Code} (l : Launch) (hflags : l.flags = flags0) {b L : Nat} {xs : Nat → Int32} (hL : L ≤ 2560) (C0 : lw_At p s m meth c b L xs) : W p l e room_1 s m #[Value.ref b] below meth c s.heap [] 0 0 (lw_Z below #[Value.ref b] s) (entryFrame m ([Value.ref b] : List Value).toArray 4) := by
  obtain ⟨hx, hb, hr, hml, hown, hts0, hX, hbl, hlocks, hgv⟩ := id C0
  have hown : s.vm.findClass RL = some m.cls := hown
  have hb : c.code = cL_law := hb
  have hts : ∀ w ∈ wsL_law, w.before #[Value.ref b] s = true := fun w h => hts0 w (wsL_law_in w h)
  have hN : q_NW s := fun q hq => va_Nw.of rfl (hts0 _ (q_nest_in q hq))
  have r1in := r1in_law
  obtain ⟨D, hKc⟩ := q_known10 hts
  obtain ⟨cI, cZ, hK⟩ := q_arrs hts hKc
  have hS : va_S (fun q : Nat => s.heap.size ≤ q) s.heap s.heap [] := va_S.rf
  have hP : va_P D vwCl [] s.heap := fun k q h => by simp at h
  have hD : va_D (fun q : Nat => s.heap.size ≤ q) [] := ⟨fun i j p q h => by simp at h, fun k q h => by simp at h⟩
  have hl := lv_entry ([.ref b]) (n := 4) (Nat.le_of_ble_eq_true rfl)
  rw [lg_entry_eq]
  generalize (lg_sl ([.ref b]) ++ List.replicate (4 - (lg_sl ([.ref b])).length) Slot.unset).toArray = ls at hl ⊢
  have hl : lv_has ls 4 [(0, .ref b)] := hl
  refine lw_child (Tj := TX8) (Nj := 9) hx hb hml hown hts hK hN hP hD hS hl.1 (k_X8 l D cI cZ) inlX8 tyX8 tyX8_ok rfl (fun j hj => by rcases (show j = 0 ∨ j = 1 ∨ j = 2 ∨ j = 3 ∨ j = 4 ∨ j = 5 ∨ j = 6 ∨ j = 7 ∨ j = 8 by omega) with rfl | rfl | rfl | rfl | rfl | rfl | rfl | rfl | rfl <;> rfl) (r1in _ (by decide +kernel)) (r1in _ (by decide +kernel)) (r1in _ (by decide +kernel)) rfl gL_law_X8_init (r1in _ (by decide +kernel)) ⟨rfl, rfl⟩ (r1in _ (by decide +kernel)) ⟨by decide, by decide, by decide +kernel⟩ ⟨rfl, rfl, Nat.le_of_ble_eq_true rfl, Nat.le_of_ble_eq_true rfl⟩ ⟨Nat.le_of_ble_eq_true rfl, Nat.le_of_ble_eq_true rfl⟩ dL_law_0 dL_law_3 dL_law_4 (fun u8 H locs hP hD hS => ?_)
  rw [List.nil_append] at hP hD
  refine lv_astore_n (lv' := [(1, .ref (u8 0)), (0, .ref b)]) hx hb dL_law_7 rfl hl (by decide) rfl (fun ls hl => ?_)
  have r5in := r5in_law
  refine lw_child (Tj := TX9) (Nj := 27) hx hb hml hown hts hK hN hP hD hS hl.1 (k_X9 l D cI cZ) inlX9 tyX9 tyX9_ok rfl (fun j hj => by rcases (show j = 0 ∨ j = 1 ∨ j = 2 ∨ j = 3 ∨ j = 4 ∨ j = 5 ∨ j = 6 ∨ j = 7 ∨ j = 8 ∨ j = 9 ∨ j = 10 ∨ j = 11 ∨ j = 12 ∨ j = 13 ∨ j = 14 ∨ j = 15 ∨ j = 16 ∨ j = 17 ∨ j = 18 ∨ j = 19 ∨ j = 20 ∨ j = 21 ∨ j = 22 ∨ j = 23 ∨ j = 24 ∨ j = 25 ∨ j = 26 by omega) with rfl | rfl | rfl | rfl | rfl | rfl | rfl | rfl | rfl | rfl | rfl | rfl | rfl | rfl | rfl | rfl | rfl | rfl | rfl | rfl | rfl | rfl | rfl | rfl | rfl | rfl | rfl <;> rfl) (r1in _ (by decide +kernel)) (r1in _ (by decide +kernel)) (r1in _ (by decide +kernel)) rfl gL_law_X9_init (r5in _ (by decide +kernel)) ⟨rfl, rfl⟩ (r5in _ (by decide +kernel)) ⟨by decide, by decide, by decide +kernel⟩ ⟨rfl, rfl, Nat.le_of_ble_eq_true rfl, Nat.le_of_ble_eq_true rfl⟩ ⟨Nat.le_of_ble_eq_true rfl, Nat.le_of_ble_eq_true rfl⟩ dL_law_8 dL_law_11 dL_law_12 (fun u9 H locs hP hD hS => ?_)
  refine lv_astore_n (lv' := [(2, .ref (u9 0)), (1, .ref (u8 0)), (0, .ref b)]) hx hb dL_law_15 rfl hl (by decide) rfl (fun ls hl => ?_)
  refine lv_iconst (v := q_I 0) hx hb dL_law_16 rfl ?_
  refine lv_istore_n (lv' := [(3, .int (q_I 0)), (2, .ref (u9 0)), (1, .ref (u8 0)), (0, .ref b)]) hx hb dL_law_17 rfl hl (by decide) rfl (fun ls hl => ?_)
  refine W.widen (k := 79) (n := 2832) (by omega) (by omega) ?_
  have hIX := q_inj_of (q_D_L hD)
  have hIZ := q_inj_of (q_D_R hD)
  have hlh := q_lh8 l D cI cZ u8
  have hmo := q_mo9 l D cI cZ u9
  have F : q_LF (l, D, cI, cZ, u8, s_X8) (l, D, cI, cZ, u9, s_X9) (p, e, room_1, s, m, #[Value.ref b], below, meth, c, lw_Z below #[Value.ref b] s) b L xs := ⟨hx, hb, hml, hown, hts, hlocks, rfl, hK, hN, ⟨hIX, hIZ, q_D_ap hD, q_ge_of (q_D_L hD), q_ge_of (q_D_R hD)⟩, ⟨hX, hbl⟩, rfl, rfl, hr⟩
  exact law_loop F ⟨rfl, rfl, rfl, rfl⟩ hIX hIZ hlh hmo hL L 0 m_X8 m_X9 (by omega) (by omega) (by omega) q_rel0 q_MR8 q_MR9 H locs ls (q_P_L hP) (q_P_R hP) hS (lv_sub hl [0, 3, 2, 1] rfl)
