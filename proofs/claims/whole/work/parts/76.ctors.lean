/-! the constructors, walked -/
def s_X1 : List q_S := [.inr (1, [some 1, some 2, some 3, some 4, none, none]), .inl (false, 6), .inl (false, 6), .inl (false, 6), .inl (false, 6)]
def m_X1 : q_M := fun k i => if k = 0 then (if i = 5 then 9 else 0) else 0
def f_X1 : List Value := [.null, .null, .null, .null, .int (q_I 0), .int (q_I 0)]
set_option maxHeartbeats 4000000 in
set_option maxRecDepth 100000 in
theorem k_X1 (l : Launch) (D : va_G) (cI cZ : ClassId) : q_CN l D cI cZ yX1_init wsX1_init ({ frames := 1, cells := 4, slots := 24, locals := 12 } : Room) (.inr (1, f_X1)) s_X1 m_X1 4 24 := by
  refine q_CN.of (cc := cX1_init) (by decide) rfl RX1 rfl rfl (fun E h0 F V => ?_)
  refine n_aload F dX1_init_0 ?_
  refine n_obj F (by decide +kernel) (by decide +kernel) (List.mem_of_getElem? (i := 3) rfl) ⟨Nat.le_of_ble_eq_true rfl, Nat.le_of_ble_eq_true rfl⟩ dX1_init_1 ?_
  refine n_aload F dX1_init_4 ?_
  refine n_bipush F dX1_init_5 (by decide) ?_
  refine n_arr (T := TX1) (N := 6) F .int .int _ rfl (Or.inl ⟨rfl, rfl⟩) (by decide +kernel) (N' := 6) (by decide +kernel) (Nat.le_of_ble_eq_true rfl) (by decide +kernel) (fun w h => List.mem_cons_of_mem _ (List.mem_append_right _ h)) rfl 0 (by decide) (by decide +kernel) ⟨rfl, rfl⟩ tyX1 tyX1_ok nmX1 rfl (by decide +kernel) (Nat.le_of_ble_eq_true rfl) ⟨Nat.le_of_ble_eq_true rfl, Nat.le_of_ble_eq_true rfl⟩ dX1_init_7 dX1_init_9 (fun a1 => ?_)
  refine n_aload F dX1_init_12 ?_
  refine n_bipush F dX1_init_13 (by decide) ?_
  refine n_arr (T := TX1) (N := 6) F .int .int _ rfl (Or.inl ⟨rfl, rfl⟩) (by decide +kernel) (N' := 6) (by decide +kernel) (Nat.le_of_ble_eq_true rfl) (by decide +kernel) (fun w h => List.mem_cons_of_mem _ (List.mem_append_right _ h)) rfl 1 (by decide) (by decide +kernel) ⟨rfl, rfl⟩ tyX1 tyX1_ok nmX1 rfl (by decide +kernel) (Nat.le_of_ble_eq_true rfl) ⟨Nat.le_of_ble_eq_true rfl, Nat.le_of_ble_eq_true rfl⟩ dX1_init_15 dX1_init_17 (fun a2 => ?_)
  refine n_aload F dX1_init_20 ?_
  refine n_bipush F dX1_init_21 (by decide) ?_
  refine n_arr (T := TX1) (N := 6) F .int .int _ rfl (Or.inl ⟨rfl, rfl⟩) (by decide +kernel) (N' := 6) (by decide +kernel) (Nat.le_of_ble_eq_true rfl) (by decide +kernel) (fun w h => List.mem_cons_of_mem _ (List.mem_append_right _ h)) rfl 2 (by decide) (by decide +kernel) ⟨rfl, rfl⟩ tyX1 tyX1_ok nmX1 rfl (by decide +kernel) (Nat.le_of_ble_eq_true rfl) ⟨Nat.le_of_ble_eq_true rfl, Nat.le_of_ble_eq_true rfl⟩ dX1_init_23 dX1_init_25 (fun a3 => ?_)
  refine n_aload F dX1_init_28 ?_
  refine n_bipush F dX1_init_29 (by decide) ?_
  refine n_arr (T := TX1) (N := 6) F .int .int _ rfl (Or.inl ⟨rfl, rfl⟩) (by decide +kernel) (N' := 6) (by decide +kernel) (Nat.le_of_ble_eq_true rfl) (by decide +kernel) (fun w h => List.mem_cons_of_mem _ (List.mem_append_right _ h)) rfl 3 (by decide) (by decide +kernel) ⟨rfl, rfl⟩ tyX1 tyX1_ok nmX1 rfl (by decide +kernel) (Nat.le_of_ble_eq_true rfl) ⟨Nat.le_of_ble_eq_true rfl, Nat.le_of_ble_eq_true rfl⟩ dX1_init_31 dX1_init_33 (fun a4 => ?_)
  refine n_aload F dX1_init_36 ?_
  refine n_bipush F dX1_init_37 (by decide) ?_
  refine n_put (T := TX1) (N := 6) F (fun w h => List.mem_cons_of_mem _ (List.mem_append_right _ h)) rfl 5 (by decide) (by decide +kernel) rfl tyX1 tyX1_ok nmX1 rfl (by decide +kernel) (Nat.le_of_ble_eq_true rfl) dX1_init_39 ?_
  refine n_ret F V dX1_init_42 (fun k => ([h0, a1, a2, a3, a4] : List Nat).getD k 0) rfl ?_
  rw [q_wl_eq]
  rfl
def s_X0 : List q_S := [.inr (0, [some 1, some 6, some 7, some 8, none, none]), .inr (1, [some 2, some 3, some 4, some 5, none, none]), .inl (false, 6), .inl (false, 6), .inl (false, 6), .inl (false, 6), .inl (false, 6), .inl (false, 8), .inl (false, 8)]
def m_X0 : q_M := fun k i => if k = 1 then (if i = 5 then 9 else 0) else 0
def f_X0 : List Value := [.null, .null, .null, .null, .int (q_I 0), .int (q_I 0)]
set_option maxHeartbeats 4000000 in
set_option maxRecDepth 100000 in
theorem k_X0 (l : Launch) (D : va_G) (cI cZ : ClassId) : q_CN l D cI cZ yX0_init wsX0_init ({ frames := 2, cells := 8, slots := 52, locals := 32 } : Room) (.inr (0, f_X0)) s_X0 m_X0 8 52 := by
  refine q_CN.of (cc := cX0_init) (by decide) rfl RX0 rfl rfl (fun E h0 F V => ?_)
  refine n_aload F dX0_init_0 ?_
  refine n_obj F (by decide +kernel) (by decide +kernel) (List.mem_of_getElem? (i := 3) rfl) ⟨Nat.le_of_ble_eq_true rfl, Nat.le_of_ble_eq_true rfl⟩ dX0_init_1 ?_
  refine n_aload F dX0_init_4 ?_
  refine n_child (T := TX0) (N := 6) (Tj := TX1) (Nj := 6) F (k_X1 l D cI cZ) (fun w h => List.mem_cons_of_mem _ (List.mem_append_left _ (List.mem_append_right _ h))) tyX1 tyX1_ok rfl (fun j hj => by rcases (show j = 0 ∨ j = 1 ∨ j = 2 ∨ j = 3 ∨ j = 4 ∨ j = 5 by omega) with rfl | rfl | rfl | rfl | rfl | rfl <;> rfl) (by decide +kernel) (by decide +kernel) (by decide +kernel) rfl gX0_init_X1_init_n11 (by decide +kernel) ⟨rfl, rfl⟩ (by decide +kernel) ⟨by decide, by decide, by decide +kernel⟩ ⟨rfl, rfl, Nat.le_of_ble_eq_true rfl, Nat.le_of_ble_eq_true rfl⟩ (fun w h => List.mem_cons_of_mem _ (List.mem_append_right _ h)) rfl 0 (by decide) (by decide +kernel) ⟨rfl, rfl⟩ tyX0 tyX0_ok nmX0 rfl (ty := RX1) (by decide +kernel) (Nat.le_of_ble_eq_true rfl) ⟨Nat.le_of_ble_eq_true rfl, Nat.le_of_ble_eq_true rfl⟩ dX0_init_5 dX0_init_8 dX0_init_9 dX0_init_12 (fun u1 => ?_)
  refine n_aload F dX0_init_15 ?_
  refine n_bipush F dX0_init_16 (by decide) ?_
  refine n_arr (T := TX0) (N := 6) F .int .int _ rfl (Or.inl ⟨rfl, rfl⟩) (by decide +kernel) (N' := 6) (by decide +kernel) (Nat.le_of_ble_eq_true rfl) (by decide +kernel) (fun w h => List.mem_cons_of_mem _ (List.mem_append_right _ h)) rfl 1 (by decide) (by decide +kernel) ⟨rfl, rfl⟩ tyX0 tyX0_ok nmX0 rfl (by decide +kernel) (Nat.le_of_ble_eq_true rfl) ⟨Nat.le_of_ble_eq_true rfl, Nat.le_of_ble_eq_true rfl⟩ dX0_init_18 dX0_init_20 (fun a6 => ?_)
  refine n_aload F dX0_init_23 ?_
  refine n_bipush F dX0_init_24 (by decide) ?_
  refine n_arr (T := TX0) (N := 6) F .int .int _ rfl (Or.inl ⟨rfl, rfl⟩) (by decide +kernel) (N' := 8) (by decide +kernel) (Nat.le_of_ble_eq_true rfl) (by decide +kernel) (fun w h => List.mem_cons_of_mem _ (List.mem_append_right _ h)) rfl 2 (by decide) (by decide +kernel) ⟨rfl, rfl⟩ tyX0 tyX0_ok nmX0 rfl (by decide +kernel) (Nat.le_of_ble_eq_true rfl) ⟨Nat.le_of_ble_eq_true rfl, Nat.le_of_ble_eq_true rfl⟩ dX0_init_26 dX0_init_28 (fun a7 => ?_)
  refine n_aload F dX0_init_31 ?_
  refine n_bipush F dX0_init_32 (by decide) ?_
  refine n_arr (T := TX0) (N := 6) F .int .int _ rfl (Or.inl ⟨rfl, rfl⟩) (by decide +kernel) (N' := 8) (by decide +kernel) (Nat.le_of_ble_eq_true rfl) (by decide +kernel) (fun w h => List.mem_cons_of_mem _ (List.mem_append_right _ h)) rfl 3 (by decide) (by decide +kernel) ⟨rfl, rfl⟩ tyX0 tyX0_ok nmX0 rfl (by decide +kernel) (Nat.le_of_ble_eq_true rfl) ⟨Nat.le_of_ble_eq_true rfl, Nat.le_of_ble_eq_true rfl⟩ dX0_init_34 dX0_init_36 (fun a8 => ?_)
  refine n_ret F V dX0_init_39 (fun k => ([h0, u1 0, u1 1, u1 2, u1 3, u1 4, a6, a7, a8] : List Nat).getD k 0) rfl ?_
  rw [q_wl_eq]
  rfl
def s_X3 : List q_S := [.inr (3, [some 1, none]), .inl (false, 60)]
def m_X3 : q_M := fun _ _ => 0
def f_X3 : List Value := [.null, .int (q_I 0)]
set_option maxHeartbeats 4000000 in
set_option maxRecDepth 100000 in
theorem k_X3 (l : Launch) (D : va_G) (cI cZ : ClassId) : q_CN l D cI cZ yX3_init wsX3_init ({ frames := 1, cells := 1, slots := 60, locals := 12 } : Room) (.inr (3, f_X3)) s_X3 m_X3 1 60 := by
  refine q_CN.of (cc := cX3_init) (by decide) rfl RX3 rfl rfl (fun E h0 F V => ?_)
  refine n_aload F dX3_init_0 ?_
  refine n_obj F (by decide +kernel) (by decide +kernel) (List.mem_of_getElem? (i := 3) rfl) ⟨Nat.le_of_ble_eq_true rfl, Nat.le_of_ble_eq_true rfl⟩ dX3_init_1 ?_
  refine n_aload F dX3_init_4 ?_
  refine n_bipush F dX3_init_5 (by decide) ?_
  refine n_arr (T := TX3) (N := 2) F .int .int _ rfl (Or.inl ⟨rfl, rfl⟩) (by decide +kernel) (N' := 60) (by decide +kernel) (Nat.le_of_ble_eq_true rfl) (by decide +kernel) (fun w h => List.mem_cons_of_mem _ (List.mem_append_right _ h)) rfl 0 (by decide) (by decide +kernel) ⟨rfl, rfl⟩ tyX3 tyX3_ok nmX3 rfl (by decide +kernel) (Nat.le_of_ble_eq_true rfl) ⟨Nat.le_of_ble_eq_true rfl, Nat.le_of_ble_eq_true rfl⟩ dX3_init_7 dX3_init_9 (fun a1 => ?_)
  refine n_ret F V dX3_init_12 (fun k => ([h0, a1] : List Nat).getD k 0) rfl ?_
  rw [q_wl_eq]
  rfl
def s_X6 : List q_S := [.inr (6, [some 1, some 6, some 7, some 8, none, none, none, none, none]), .inr (1, [some 2, some 3, some 4, some 5, none, none]), .inl (false, 6), .inl (false, 6), .inl (false, 6), .inl (false, 6), .inl (false, 6), .inl (false, 6), .inl (false, 5)]
def m_X6 : q_M := fun k i => if k = 1 then (if i = 5 then 9 else 0) else 0
def f_X6 : List Value := [.null, .null, .null, .null, .int (q_I 0), .int (q_I 0), .int (q_I 0), .int (q_I 0), .int (q_I 0)]
set_option maxHeartbeats 4000000 in
set_option maxRecDepth 100000 in
theorem k_X6 (l : Launch) (D : va_G) (cI cZ : ClassId) : q_CN l D cI cZ yX6_init wsX6_init ({ frames := 2, cells := 8, slots := 47, locals := 32 } : Room) (.inr (6, f_X6)) s_X6 m_X6 8 47 := by
  refine q_CN.of (cc := cX6_init) (by decide) rfl RX6 rfl rfl (fun E h0 F V => ?_)
  refine n_aload F dX6_init_0 ?_
  refine n_obj F (by decide +kernel) (by decide +kernel) (List.mem_of_getElem? (i := 3) rfl) ⟨Nat.le_of_ble_eq_true rfl, Nat.le_of_ble_eq_true rfl⟩ dX6_init_1 ?_
  refine n_aload F dX6_init_4 ?_
  refine n_child (T := TX6) (N := 9) (Tj := TX1) (Nj := 6) F (k_X1 l D cI cZ) (fun w h => List.mem_cons_of_mem _ (List.mem_append_left _ (List.mem_append_right _ h))) tyX1 tyX1_ok rfl (fun j hj => by rcases (show j = 0 ∨ j = 1 ∨ j = 2 ∨ j = 3 ∨ j = 4 ∨ j = 5 by omega) with rfl | rfl | rfl | rfl | rfl | rfl <;> rfl) (by decide +kernel) (by decide +kernel) (by decide +kernel) rfl gX6_init_X1_init_n11 (by decide +kernel) ⟨rfl, rfl⟩ (by decide +kernel) ⟨by decide, by decide, by decide +kernel⟩ ⟨rfl, rfl, Nat.le_of_ble_eq_true rfl, Nat.le_of_ble_eq_true rfl⟩ (fun w h => List.mem_cons_of_mem _ (List.mem_append_right _ h)) rfl 0 (by decide) (by decide +kernel) ⟨rfl, rfl⟩ tyX6 tyX6_ok nmX6 rfl (ty := RX1) (by decide +kernel) (Nat.le_of_ble_eq_true rfl) ⟨Nat.le_of_ble_eq_true rfl, Nat.le_of_ble_eq_true rfl⟩ dX6_init_5 dX6_init_8 dX6_init_9 dX6_init_12 (fun u1 => ?_)
  refine n_aload F dX6_init_15 ?_
  refine n_bipush F dX6_init_16 (by decide) ?_
  refine n_arr (T := TX6) (N := 9) F .int .int _ rfl (Or.inl ⟨rfl, rfl⟩) (by decide +kernel) (N' := 6) (by decide +kernel) (Nat.le_of_ble_eq_true rfl) (by decide +kernel) (fun w h => List.mem_cons_of_mem _ (List.mem_append_right _ h)) rfl 1 (by decide) (by decide +kernel) ⟨rfl, rfl⟩ tyX6 tyX6_ok nmX6 rfl (by decide +kernel) (Nat.le_of_ble_eq_true rfl) ⟨Nat.le_of_ble_eq_true rfl, Nat.le_of_ble_eq_true rfl⟩ dX6_init_18 dX6_init_20 (fun a6 => ?_)
  refine n_aload F dX6_init_23 ?_
  refine n_bipush F dX6_init_24 (by decide) ?_
  refine n_arr (T := TX6) (N := 9) F .int .int _ rfl (Or.inl ⟨rfl, rfl⟩) (by decide +kernel) (N' := 6) (by decide +kernel) (Nat.le_of_ble_eq_true rfl) (by decide +kernel) (fun w h => List.mem_cons_of_mem _ (List.mem_append_right _ h)) rfl 2 (by decide) (by decide +kernel) ⟨rfl, rfl⟩ tyX6 tyX6_ok nmX6 rfl (by decide +kernel) (Nat.le_of_ble_eq_true rfl) ⟨Nat.le_of_ble_eq_true rfl, Nat.le_of_ble_eq_true rfl⟩ dX6_init_26 dX6_init_28 (fun a7 => ?_)
  refine n_aload F dX6_init_31 ?_
  refine n_iconst F dX6_init_32 ?_
  refine n_arr (T := TX6) (N := 9) F .int .int _ rfl (Or.inl ⟨rfl, rfl⟩) (by decide +kernel) (N' := 5) (by decide +kernel) (Nat.le_of_ble_eq_true rfl) (by decide +kernel) (fun w h => List.mem_cons_of_mem _ (List.mem_append_right _ h)) rfl 3 (by decide) (by decide +kernel) ⟨rfl, rfl⟩ tyX6 tyX6_ok nmX6 rfl (by decide +kernel) (Nat.le_of_ble_eq_true rfl) ⟨Nat.le_of_ble_eq_true rfl, Nat.le_of_ble_eq_true rfl⟩ dX6_init_33 dX6_init_35 (fun a8 => ?_)
  refine n_ret F V dX6_init_38 (fun k => ([h0, u1 0, u1 1, u1 2, u1 3, u1 4, a6, a7, a8] : List Nat).getD k 0) rfl ?_
  rw [q_wl_eq]
  rfl
def s_X2 : List q_S := [.inr (2, [some 1, some 6]), .inr (1, [some 2, some 3, some 4, some 5, none, none]), .inl (false, 6), .inl (false, 6), .inl (false, 6), .inl (false, 6), .inl (false, 486)]
def m_X2 : q_M := fun k i => if k = 1 then (if i = 5 then 9 else 0) else 0
def f_X2 : List Value := [.null, .null]
set_option maxHeartbeats 4000000 in
set_option maxRecDepth 100000 in
theorem k_X2 (l : Launch) (D : va_G) (cI cZ : ClassId) : q_CN l D cI cZ yX2_init wsX2_init ({ frames := 2, cells := 6, slots := 516, locals := 32 } : Room) (.inr (2, f_X2)) s_X2 m_X2 6 516 := by
  refine q_CN.of (cc := cX2_init) (by decide) rfl RX2 rfl rfl (fun E h0 F V => ?_)
  refine n_aload F dX2_init_0 ?_
  refine n_obj F (by decide +kernel) (by decide +kernel) (List.mem_of_getElem? (i := 3) rfl) ⟨Nat.le_of_ble_eq_true rfl, Nat.le_of_ble_eq_true rfl⟩ dX2_init_1 ?_
  refine n_aload F dX2_init_4 ?_
  refine n_child (T := TX2) (N := 2) (Tj := TX1) (Nj := 6) F (k_X1 l D cI cZ) (fun w h => List.mem_cons_of_mem _ (List.mem_append_left _ (List.mem_append_right _ h))) tyX1 tyX1_ok rfl (fun j hj => by rcases (show j = 0 ∨ j = 1 ∨ j = 2 ∨ j = 3 ∨ j = 4 ∨ j = 5 by omega) with rfl | rfl | rfl | rfl | rfl | rfl <;> rfl) (by decide +kernel) (by decide +kernel) (by decide +kernel) rfl gX2_init_X1_init_n11 (by decide +kernel) ⟨rfl, rfl⟩ (by decide +kernel) ⟨by decide, by decide, by decide +kernel⟩ ⟨rfl, rfl, Nat.le_of_ble_eq_true rfl, Nat.le_of_ble_eq_true rfl⟩ (fun w h => List.mem_cons_of_mem _ (List.mem_append_right _ h)) rfl 0 (by decide) (by decide +kernel) ⟨rfl, rfl⟩ tyX2 tyX2_ok nmX2 rfl (ty := RX1) (by decide +kernel) (Nat.le_of_ble_eq_true rfl) ⟨Nat.le_of_ble_eq_true rfl, Nat.le_of_ble_eq_true rfl⟩ dX2_init_5 dX2_init_8 dX2_init_9 dX2_init_12 (fun u1 => ?_)
  refine n_aload F dX2_init_15 ?_
  refine n_sipush F dX2_init_16 (by decide) ?_
  refine n_arr (T := TX2) (N := 2) F .int .int _ rfl (Or.inl ⟨rfl, rfl⟩) (by decide +kernel) (N' := 486) (by decide +kernel) (Nat.le_of_ble_eq_true rfl) (by decide +kernel) (fun w h => List.mem_cons_of_mem _ (List.mem_append_right _ h)) rfl 1 (by decide) (by decide +kernel) ⟨rfl, rfl⟩ tyX2 tyX2_ok nmX2 rfl (by decide +kernel) (Nat.le_of_ble_eq_true rfl) ⟨Nat.le_of_ble_eq_true rfl, Nat.le_of_ble_eq_true rfl⟩ dX2_init_19 dX2_init_21 (fun a6 => ?_)
  refine n_ret F V dX2_init_24 (fun k => ([h0, u1 0, u1 1, u1 2, u1 3, u1 4, a6] : List Nat).getD k 0) rfl ?_
  rw [q_wl_eq]
  rfl
def s_X7 : List q_S := [.inr (7, [some 1, some 6, some 7, some 8, some 9, none]), .inr (1, [some 2, some 3, some 4, some 5, none, none]), .inl (false, 6), .inl (false, 6), .inl (false, 6), .inl (false, 6), .inl (false, 10), .inl (false, 6), .inl (false, 6), .inl (false, 640)]
def m_X7 : q_M := fun k i => if k = 1 then (if i = 5 then 9 else 0) else 0
def f_X7 : List Value := [.null, .null, .null, .null, .null, .int (q_I 0)]
set_option maxHeartbeats 4000000 in
set_option maxRecDepth 100000 in
theorem k_X7 (l : Launch) (D : va_G) (cI cZ : ClassId) : q_CN l D cI cZ yX7_init wsX7_init ({ frames := 2, cells := 9, slots := 692, locals := 32 } : Room) (.inr (7, f_X7)) s_X7 m_X7 9 692 := by
  refine q_CN.of (cc := cX7_init) (by decide) rfl RX7 rfl rfl (fun E h0 F V => ?_)
  refine n_aload F dX7_init_0 ?_
  refine n_obj F (by decide +kernel) (by decide +kernel) (List.mem_of_getElem? (i := 3) rfl) ⟨Nat.le_of_ble_eq_true rfl, Nat.le_of_ble_eq_true rfl⟩ dX7_init_1 ?_
  refine n_aload F dX7_init_4 ?_
  refine n_child (T := TX7) (N := 6) (Tj := TX1) (Nj := 6) F (k_X1 l D cI cZ) (fun w h => List.mem_cons_of_mem _ (List.mem_append_left _ (List.mem_append_right _ h))) tyX1 tyX1_ok rfl (fun j hj => by rcases (show j = 0 ∨ j = 1 ∨ j = 2 ∨ j = 3 ∨ j = 4 ∨ j = 5 by omega) with rfl | rfl | rfl | rfl | rfl | rfl <;> rfl) (by decide +kernel) (by decide +kernel) (by decide +kernel) rfl gX7_init_X1_init_n11 (by decide +kernel) ⟨rfl, rfl⟩ (by decide +kernel) ⟨by decide, by decide, by decide +kernel⟩ ⟨rfl, rfl, Nat.le_of_ble_eq_true rfl, Nat.le_of_ble_eq_true rfl⟩ (fun w h => List.mem_cons_of_mem _ (List.mem_append_right _ h)) rfl 0 (by decide) (by decide +kernel) ⟨rfl, rfl⟩ tyX7 tyX7_ok nmX7 rfl (ty := RX1) (by decide +kernel) (Nat.le_of_ble_eq_true rfl) ⟨Nat.le_of_ble_eq_true rfl, Nat.le_of_ble_eq_true rfl⟩ dX7_init_5 dX7_init_8 dX7_init_9 dX7_init_12 (fun u1 => ?_)
  refine n_aload F dX7_init_15 ?_
  refine n_bipush F dX7_init_16 (by decide) ?_
  refine n_arr (T := TX7) (N := 6) F .int .int _ rfl (Or.inl ⟨rfl, rfl⟩) (by decide +kernel) (N' := 10) (by decide +kernel) (Nat.le_of_ble_eq_true rfl) (by decide +kernel) (fun w h => List.mem_cons_of_mem _ (List.mem_append_right _ h)) rfl 1 (by decide) (by decide +kernel) ⟨rfl, rfl⟩ tyX7 tyX7_ok nmX7 rfl (by decide +kernel) (Nat.le_of_ble_eq_true rfl) ⟨Nat.le_of_ble_eq_true rfl, Nat.le_of_ble_eq_true rfl⟩ dX7_init_18 dX7_init_20 (fun a6 => ?_)
  refine n_aload F dX7_init_23 ?_
  refine n_bipush F dX7_init_24 (by decide) ?_
  refine n_arr (T := TX7) (N := 6) F .int .int _ rfl (Or.inl ⟨rfl, rfl⟩) (by decide +kernel) (N' := 6) (by decide +kernel) (Nat.le_of_ble_eq_true rfl) (by decide +kernel) (fun w h => List.mem_cons_of_mem _ (List.mem_append_right _ h)) rfl 2 (by decide) (by decide +kernel) ⟨rfl, rfl⟩ tyX7 tyX7_ok nmX7 rfl (by decide +kernel) (Nat.le_of_ble_eq_true rfl) ⟨Nat.le_of_ble_eq_true rfl, Nat.le_of_ble_eq_true rfl⟩ dX7_init_26 dX7_init_28 (fun a7 => ?_)
  refine n_aload F dX7_init_31 ?_
  refine n_bipush F dX7_init_32 (by decide) ?_
  refine n_arr (T := TX7) (N := 6) F .int .int _ rfl (Or.inl ⟨rfl, rfl⟩) (by decide +kernel) (N' := 6) (by decide +kernel) (Nat.le_of_ble_eq_true rfl) (by decide +kernel) (fun w h => List.mem_cons_of_mem _ (List.mem_append_right _ h)) rfl 3 (by decide) (by decide +kernel) ⟨rfl, rfl⟩ tyX7 tyX7_ok nmX7 rfl (by decide +kernel) (Nat.le_of_ble_eq_true rfl) ⟨Nat.le_of_ble_eq_true rfl, Nat.le_of_ble_eq_true rfl⟩ dX7_init_34 dX7_init_36 (fun a8 => ?_)
  refine n_aload F dX7_init_39 ?_
  refine n_sipush F dX7_init_40 (by decide) ?_
  refine n_arr (T := TX7) (N := 6) F .int .int _ rfl (Or.inl ⟨rfl, rfl⟩) (by decide +kernel) (N' := 640) (by decide +kernel) (Nat.le_of_ble_eq_true rfl) (by decide +kernel) (fun w h => List.mem_cons_of_mem _ (List.mem_append_right _ h)) rfl 4 (by decide) (by decide +kernel) ⟨rfl, rfl⟩ tyX7 tyX7_ok nmX7 rfl (by decide +kernel) (Nat.le_of_ble_eq_true rfl) ⟨Nat.le_of_ble_eq_true rfl, Nat.le_of_ble_eq_true rfl⟩ dX7_init_43 dX7_init_45 (fun a9 => ?_)
  refine n_ret F V dX7_init_48 (fun k => ([h0, u1 0, u1 1, u1 2, u1 3, u1 4, a6, a7, a8, a9] : List Nat).getD k 0) rfl ?_
  rw [q_wl_eq]
  rfl
def s_X5 : List q_S := [.inr (5, [some 1]), .inl (false, 384)]
def m_X5 : q_M := fun _ _ => 0
def f_X5 : List Value := [.null]
set_option maxHeartbeats 4000000 in
set_option maxRecDepth 100000 in
theorem k_X5 (l : Launch) (D : va_G) (cI cZ : ClassId) : q_CN l D cI cZ yX5_init wsX5_init ({ frames := 1, cells := 1, slots := 384, locals := 12 } : Room) (.inr (5, f_X5)) s_X5 m_X5 1 384 := by
  refine q_CN.of (cc := cX5_init) (by decide) rfl RX5 rfl rfl (fun E h0 F V => ?_)
  refine n_aload F dX5_init_0 ?_
  refine n_obj F (by decide +kernel) (by decide +kernel) (List.mem_of_getElem? (i := 3) rfl) ⟨Nat.le_of_ble_eq_true rfl, Nat.le_of_ble_eq_true rfl⟩ dX5_init_1 ?_
  refine n_aload F dX5_init_4 ?_
  refine n_sipush F dX5_init_5 (by decide) ?_
  refine n_arr (T := TX5) (N := 1) F .int .int _ rfl (Or.inl ⟨rfl, rfl⟩) (by decide +kernel) (N' := 384) (by decide +kernel) (Nat.le_of_ble_eq_true rfl) (by decide +kernel) (fun w h => List.mem_cons_of_mem _ (List.mem_append_right _ h)) rfl 0 (by decide) (by decide +kernel) ⟨rfl, rfl⟩ tyX5 tyX5_ok nmX5 rfl (by decide +kernel) (Nat.le_of_ble_eq_true rfl) ⟨Nat.le_of_ble_eq_true rfl, Nat.le_of_ble_eq_true rfl⟩ dX5_init_8 dX5_init_10 (fun a1 => ?_)
  refine n_ret F V dX5_init_13 (fun k => ([h0, a1] : List Nat).getD k 0) rfl ?_
  rw [q_wl_eq]
  rfl
def s_X4 : List q_S := [.inr (4, [some 1]), .inl (false, 6)]
def m_X4 : q_M := fun _ _ => 0
def f_X4 : List Value := [.null]
set_option maxHeartbeats 4000000 in
set_option maxRecDepth 100000 in
theorem k_X4 (l : Launch) (D : va_G) (cI cZ : ClassId) : q_CN l D cI cZ yX4_init wsX4_init ({ frames := 1, cells := 1, slots := 6, locals := 12 } : Room) (.inr (4, f_X4)) s_X4 m_X4 1 6 := by
  refine q_CN.of (cc := cX4_init) (by decide) rfl RX4 rfl rfl (fun E h0 F V => ?_)
  refine n_aload F dX4_init_0 ?_
  refine n_obj F (by decide +kernel) (by decide +kernel) (List.mem_of_getElem? (i := 3) rfl) ⟨Nat.le_of_ble_eq_true rfl, Nat.le_of_ble_eq_true rfl⟩ dX4_init_1 ?_
  refine n_aload F dX4_init_4 ?_
  refine n_bipush F dX4_init_5 (by decide) ?_
  refine n_arr (T := TX4) (N := 1) F .int .int _ rfl (Or.inl ⟨rfl, rfl⟩) (by decide +kernel) (N' := 6) (by decide +kernel) (Nat.le_of_ble_eq_true rfl) (by decide +kernel) (fun w h => List.mem_cons_of_mem _ (List.mem_append_right _ h)) rfl 0 (by decide) (by decide +kernel) ⟨rfl, rfl⟩ tyX4 tyX4_ok nmX4 rfl (by decide +kernel) (Nat.le_of_ble_eq_true rfl) ⟨Nat.le_of_ble_eq_true rfl, Nat.le_of_ble_eq_true rfl⟩ dX4_init_7 dX4_init_9 (fun a1 => ?_)
  refine n_ret F V dX4_init_12 (fun k => ([h0, a1] : List Nat).getD k 0) rfl ?_
  rw [q_wl_eq]
  rfl
def s_X8 : List q_S := [.inr (8, [some 1, some 10, some 19, some 28, some 30, some 39, some 46, some 56, some 58]), .inr (0, [some 2, some 7, some 8, some 9, none, none]), .inr (1, [some 3, some 4, some 5, some 6, none, none]), .inl (false, 6), .inl (false, 6), .inl (false, 6), .inl (false, 6), .inl (false, 6), .inl (false, 8), .inl (false, 8), .inr (0, [some 11, some 16, some 17, some 18, none, none]), .inr (1, [some 12, some 13, some 14, some 15, none, none]), .inl (false, 6), .inl (false, 6), .inl (false, 6), .inl (false, 6), .inl (false, 6), .inl (false, 8), .inl (false, 8), .inr (0, [some 20, some 25, some 26, some 27, none, none]), .inr (1, [some 21, some 22, some 23, some 24, none, none]), .inl (false, 6), .inl (false, 6), .inl (false, 6), .inl (false, 6), .inl (false, 6), .inl (false, 8), .inl (false, 8), .inr (3, [some 29, none]), .inl (false, 60), .inr (6, [some 31, some 36, some 37, some 38, none, none, none, none, none]), .inr (1, [some 32, some 33, some 34, some 35, none, none]), .inl (false, 6), .inl (false, 6), .inl (false, 6), .inl (false, 6), .inl (false, 6), .inl (false, 6), .inl (false, 5), .inr (2, [some 40, some 45]), .inr (1, [some 41, some 42, some 43, some 44, none, none]), .inl (false, 6), .inl (false, 6), .inl (false, 6), .inl (false, 6), .inl (false, 486), .inr (7, [some 47, some 52, some 53, some 54, some 55, none]), .inr (1, [some 48, some 49, some 50, some 51, none, none]), .inl (false, 6), .inl (false, 6), .inl (false, 6), .inl (false, 6), .inl (false, 10), .inl (false, 6), .inl (false, 6), .inl (false, 640), .inr (5, [some 57]), .inl (false, 384), .inr (4, [some 59]), .inl (false, 6)]
def m_X8 : q_M := fun k i => if k = 2 ∨ k = 11 ∨ k = 20 ∨ k = 31 ∨ k = 40 ∨ k = 47 then (if i = 5 then 9 else 0) else 0
def f_X8 : List Value := [.null, .null, .null, .null, .null, .null, .null, .null, .null]
set_option maxHeartbeats 4000000 in
set_option maxRecDepth 100000 in
theorem k_X8 (l : Launch) (D : va_G) (cI cZ : ClassId) : q_CN l D cI cZ yX8_init wsX8_init ({ frames := 3, cells := 59, slots := 1900, locals := 52 } : Room) (.inr (8, f_X8)) s_X8 m_X8 59 1900 := by
  refine q_CN.of (cc := cX8_init) (by decide) rfl RX8 rfl rfl (fun E h0 F V => ?_)
  refine n_aload F dX8_init_0 ?_
  refine n_obj F (by decide +kernel) (by decide +kernel) (List.mem_of_getElem? (i := 3) rfl) ⟨Nat.le_of_ble_eq_true rfl, Nat.le_of_ble_eq_true rfl⟩ dX8_init_1 ?_
  refine n_aload F dX8_init_4 ?_
  refine n_child (T := TX8) (N := 9) (Tj := TX0) (Nj := 6) F (k_X0 l D cI cZ) (fun w h => List.mem_cons_of_mem _ (List.mem_append_left _ (List.mem_append_left _ (List.mem_append_left _ (List.mem_append_left _ (List.mem_append_left _ (List.mem_append_left _ (List.mem_append_left _ (List.mem_append_left _ (List.mem_append_right _ h)))))))))) tyX0 tyX0_ok rfl (fun j hj => by rcases (show j = 0 ∨ j = 1 ∨ j = 2 ∨ j = 3 ∨ j = 4 ∨ j = 5 by omega) with rfl | rfl | rfl | rfl | rfl | rfl <;> rfl) (by decide +kernel) (by decide +kernel) (by decide +kernel) rfl gX8_init_X0_init_n9 (by decide +kernel) ⟨rfl, rfl⟩ (by decide +kernel) ⟨by decide, by decide, by decide +kernel⟩ ⟨rfl, rfl, Nat.le_of_ble_eq_true rfl, Nat.le_of_ble_eq_true rfl⟩ (fun w h => List.mem_cons_of_mem _ (List.mem_append_left _ (List.mem_append_left _ (List.mem_append_left _ (List.mem_append_left _ (List.mem_append_left _ (List.mem_append_left _ (List.mem_append_left _ (List.mem_append_right _ h))))))))) rfl 0 (by decide) (by decide +kernel) ⟨rfl, rfl⟩ tyX8 tyX8_ok nmX8 rfl (ty := RX0) (by decide +kernel) (Nat.le_of_ble_eq_true rfl) ⟨Nat.le_of_ble_eq_true rfl, Nat.le_of_ble_eq_true rfl⟩ dX8_init_5 dX8_init_8 dX8_init_9 dX8_init_12 (fun u1 => ?_)
  refine n_aload F dX8_init_15 ?_
  refine n_child (T := TX8) (N := 9) (Tj := TX0) (Nj := 6) F (k_X0 l D cI cZ) (fun w h => List.mem_cons_of_mem _ (List.mem_append_left _ (List.mem_append_left _ (List.mem_append_left _ (List.mem_append_left _ (List.mem_append_left _ (List.mem_append_left _ (List.mem_append_left _ (List.mem_append_left _ (List.mem_append_right _ h)))))))))) tyX0 tyX0_ok rfl (fun j hj => by rcases (show j = 0 ∨ j = 1 ∨ j = 2 ∨ j = 3 ∨ j = 4 ∨ j = 5 by omega) with rfl | rfl | rfl | rfl | rfl | rfl <;> rfl) (by decide +kernel) (by decide +kernel) (by decide +kernel) rfl gX8_init_X0_init_n9 (by decide +kernel) ⟨rfl, rfl⟩ (by decide +kernel) ⟨by decide, by decide, by decide +kernel⟩ ⟨rfl, rfl, Nat.le_of_ble_eq_true rfl, Nat.le_of_ble_eq_true rfl⟩ (fun w h => List.mem_cons_of_mem _ (List.mem_append_left _ (List.mem_append_left _ (List.mem_append_left _ (List.mem_append_left _ (List.mem_append_left _ (List.mem_append_left _ (List.mem_append_left _ (List.mem_append_right _ h))))))))) rfl 1 (by decide) (by decide +kernel) ⟨rfl, rfl⟩ tyX8 tyX8_ok nmX8 rfl (ty := RX0) (by decide +kernel) (Nat.le_of_ble_eq_true rfl) ⟨Nat.le_of_ble_eq_true rfl, Nat.le_of_ble_eq_true rfl⟩ dX8_init_16 dX8_init_19 dX8_init_20 dX8_init_23 (fun u10 => ?_)
  refine n_aload F dX8_init_26 ?_
  refine n_child (T := TX8) (N := 9) (Tj := TX0) (Nj := 6) F (k_X0 l D cI cZ) (fun w h => List.mem_cons_of_mem _ (List.mem_append_left _ (List.mem_append_left _ (List.mem_append_left _ (List.mem_append_left _ (List.mem_append_left _ (List.mem_append_left _ (List.mem_append_left _ (List.mem_append_left _ (List.mem_append_right _ h)))))))))) tyX0 tyX0_ok rfl (fun j hj => by rcases (show j = 0 ∨ j = 1 ∨ j = 2 ∨ j = 3 ∨ j = 4 ∨ j = 5 by omega) with rfl | rfl | rfl | rfl | rfl | rfl <;> rfl) (by decide +kernel) (by decide +kernel) (by decide +kernel) rfl gX8_init_X0_init_n9 (by decide +kernel) ⟨rfl, rfl⟩ (by decide +kernel) ⟨by decide, by decide, by decide +kernel⟩ ⟨rfl, rfl, Nat.le_of_ble_eq_true rfl, Nat.le_of_ble_eq_true rfl⟩ (fun w h => List.mem_cons_of_mem _ (List.mem_append_left _ (List.mem_append_left _ (List.mem_append_left _ (List.mem_append_left _ (List.mem_append_left _ (List.mem_append_left _ (List.mem_append_left _ (List.mem_append_right _ h))))))))) rfl 2 (by decide) (by decide +kernel) ⟨rfl, rfl⟩ tyX8 tyX8_ok nmX8 rfl (ty := RX0) (by decide +kernel) (Nat.le_of_ble_eq_true rfl) ⟨Nat.le_of_ble_eq_true rfl, Nat.le_of_ble_eq_true rfl⟩ dX8_init_27 dX8_init_30 dX8_init_31 dX8_init_34 (fun u19 => ?_)
  refine n_aload F dX8_init_37 ?_
  refine n_child (T := TX8) (N := 9) (Tj := TX3) (Nj := 2) F (k_X3 l D cI cZ) (fun w h => List.mem_cons_of_mem _ (List.mem_append_left _ (List.mem_append_left _ (List.mem_append_left _ (List.mem_append_left _ (List.mem_append_left _ (List.mem_append_left _ (List.mem_append_right _ h)))))))) tyX3 tyX3_ok rfl (fun j hj => by rcases (show j = 0 ∨ j = 1 by omega) with rfl | rfl <;> rfl) (by decide +kernel) (by decide +kernel) (by decide +kernel) rfl gX8_init_X3_init_n24 (by decide +kernel) ⟨rfl, rfl⟩ (by decide +kernel) ⟨by decide, by decide, by decide +kernel⟩ ⟨rfl, rfl, Nat.le_of_ble_eq_true rfl, Nat.le_of_ble_eq_true rfl⟩ (fun w h => List.mem_cons_of_mem _ (List.mem_append_left _ (List.mem_append_left _ (List.mem_append_left _ (List.mem_append_left _ (List.mem_append_left _ (List.mem_append_left _ (List.mem_append_left _ (List.mem_append_right _ h))))))))) rfl 3 (by decide) (by decide +kernel) ⟨rfl, rfl⟩ tyX8 tyX8_ok nmX8 rfl (ty := RX3) (by decide +kernel) (Nat.le_of_ble_eq_true rfl) ⟨Nat.le_of_ble_eq_true rfl, Nat.le_of_ble_eq_true rfl⟩ dX8_init_38 dX8_init_41 dX8_init_42 dX8_init_45 (fun u28 => ?_)
  refine n_aload F dX8_init_48 ?_
  refine n_child (T := TX8) (N := 9) (Tj := TX6) (Nj := 9) F (k_X6 l D cI cZ) (fun w h => List.mem_cons_of_mem _ (List.mem_append_left _ (List.mem_append_left _ (List.mem_append_left _ (List.mem_append_left _ (List.mem_append_left _ (List.mem_append_right _ h))))))) tyX6 tyX6_ok rfl (fun j hj => by rcases (show j = 0 ∨ j = 1 ∨ j = 2 ∨ j = 3 ∨ j = 4 ∨ j = 5 ∨ j = 6 ∨ j = 7 ∨ j = 8 by omega) with rfl | rfl | rfl | rfl | rfl | rfl | rfl | rfl | rfl <;> rfl) (by decide +kernel) (by decide +kernel) (by decide +kernel) rfl gX8_init_X6_init_n31 (by decide +kernel) ⟨rfl, rfl⟩ (by decide +kernel) ⟨by decide, by decide, by decide +kernel⟩ ⟨rfl, rfl, Nat.le_of_ble_eq_true rfl, Nat.le_of_ble_eq_true rfl⟩ (fun w h => List.mem_cons_of_mem _ (List.mem_append_left _ (List.mem_append_left _ (List.mem_append_left _ (List.mem_append_left _ (List.mem_append_left _ (List.mem_append_left _ (List.mem_append_left _ (List.mem_append_right _ h))))))))) rfl 4 (by decide) (by decide +kernel) ⟨rfl, rfl⟩ tyX8 tyX8_ok nmX8 rfl (ty := RX6) (by decide +kernel) (Nat.le_of_ble_eq_true rfl) ⟨Nat.le_of_ble_eq_true rfl, Nat.le_of_ble_eq_true rfl⟩ dX8_init_49 dX8_init_52 dX8_init_53 dX8_init_56 (fun u30 => ?_)
  refine n_aload F dX8_init_59 ?_
  refine n_child (T := TX8) (N := 9) (Tj := TX2) (Nj := 2) F (k_X2 l D cI cZ) (fun w h => List.mem_cons_of_mem _ (List.mem_append_left _ (List.mem_append_left _ (List.mem_append_left _ (List.mem_append_left _ (List.mem_append_right _ h)))))) tyX2 tyX2_ok rfl (fun j hj => by rcases (show j = 0 ∨ j = 1 by omega) with rfl | rfl <;> rfl) (by decide +kernel) (by decide +kernel) (by decide +kernel) rfl gX8_init_X2_init_n38 (by decide +kernel) ⟨rfl, rfl⟩ (by decide +kernel) ⟨by decide, by decide, by decide +kernel⟩ ⟨rfl, rfl, Nat.le_of_ble_eq_true rfl, Nat.le_of_ble_eq_true rfl⟩ (fun w h => List.mem_cons_of_mem _ (List.mem_append_left _ (List.mem_append_left _ (List.mem_append_left _ (List.mem_append_left _ (List.mem_append_left _ (List.mem_append_left _ (List.mem_append_left _ (List.mem_append_right _ h))))))))) rfl 5 (by decide) (by decide +kernel) ⟨rfl, rfl⟩ tyX8 tyX8_ok nmX8 rfl (ty := RX2) (by decide +kernel) (Nat.le_of_ble_eq_true rfl) ⟨Nat.le_of_ble_eq_true rfl, Nat.le_of_ble_eq_true rfl⟩ dX8_init_60 dX8_init_63 dX8_init_64 dX8_init_67 (fun u39 => ?_)
  refine n_aload F dX8_init_70 ?_
  refine n_child (T := TX8) (N := 9) (Tj := TX7) (Nj := 6) F (k_X7 l D cI cZ) (fun w h => List.mem_cons_of_mem _ (List.mem_append_left _ (List.mem_append_left _ (List.mem_append_left _ (List.mem_append_right _ h))))) tyX7 tyX7_ok rfl (fun j hj => by rcases (show j = 0 ∨ j = 1 ∨ j = 2 ∨ j = 3 ∨ j = 4 ∨ j = 5 by omega) with rfl | rfl | rfl | rfl | rfl | rfl <;> rfl) (by decide +kernel) (by decide +kernel) (by decide +kernel) rfl gX8_init_X7_init_n45 (by decide +kernel) ⟨rfl, rfl⟩ (by decide +kernel) ⟨by decide, by decide, by decide +kernel⟩ ⟨rfl, rfl, Nat.le_of_ble_eq_true rfl, Nat.le_of_ble_eq_true rfl⟩ (fun w h => List.mem_cons_of_mem _ (List.mem_append_left _ (List.mem_append_left _ (List.mem_append_left _ (List.mem_append_left _ (List.mem_append_left _ (List.mem_append_left _ (List.mem_append_left _ (List.mem_append_right _ h))))))))) rfl 6 (by decide) (by decide +kernel) ⟨rfl, rfl⟩ tyX8 tyX8_ok nmX8 rfl (ty := RX7) (by decide +kernel) (Nat.le_of_ble_eq_true rfl) ⟨Nat.le_of_ble_eq_true rfl, Nat.le_of_ble_eq_true rfl⟩ dX8_init_71 dX8_init_74 dX8_init_75 dX8_init_78 (fun u46 => ?_)
  refine n_aload F dX8_init_81 ?_
  refine n_child (T := TX8) (N := 9) (Tj := TX5) (Nj := 1) F (k_X5 l D cI cZ) (fun w h => List.mem_cons_of_mem _ (List.mem_append_left _ (List.mem_append_left _ (List.mem_append_right _ h)))) tyX5 tyX5_ok rfl (fun j hj => by rcases (show j = 0 by omega) with rfl <;> rfl) (by decide +kernel) (by decide +kernel) (by decide +kernel) rfl gX8_init_X5_init_n52 (by decide +kernel) ⟨rfl, rfl⟩ (by decide +kernel) ⟨by decide, by decide, by decide +kernel⟩ ⟨rfl, rfl, Nat.le_of_ble_eq_true rfl, Nat.le_of_ble_eq_true rfl⟩ (fun w h => List.mem_cons_of_mem _ (List.mem_append_left _ (List.mem_append_left _ (List.mem_append_left _ (List.mem_append_left _ (List.mem_append_left _ (List.mem_append_left _ (List.mem_append_left _ (List.mem_append_right _ h))))))))) rfl 7 (by decide) (by decide +kernel) ⟨rfl, rfl⟩ tyX8 tyX8_ok nmX8 rfl (ty := RX5) (by decide +kernel) (Nat.le_of_ble_eq_true rfl) ⟨Nat.le_of_ble_eq_true rfl, Nat.le_of_ble_eq_true rfl⟩ dX8_init_82 dX8_init_85 dX8_init_86 dX8_init_89 (fun u56 => ?_)
  refine n_aload F dX8_init_92 ?_
  refine n_child (T := TX8) (N := 9) (Tj := TX4) (Nj := 1) F (k_X4 l D cI cZ) (fun w h => List.mem_cons_of_mem _ (List.mem_append_left _ (List.mem_append_right _ h))) tyX4 tyX4_ok rfl (fun j hj => by rcases (show j = 0 by omega) with rfl <;> rfl) (by decide +kernel) (by decide +kernel) (by decide +kernel) rfl gX8_init_X4_init_n59 (by decide +kernel) ⟨rfl, rfl⟩ (by decide +kernel) ⟨by decide, by decide, by decide +kernel⟩ ⟨rfl, rfl, Nat.le_of_ble_eq_true rfl, Nat.le_of_ble_eq_true rfl⟩ (fun w h => List.mem_cons_of_mem _ (List.mem_append_left _ (List.mem_append_left _ (List.mem_append_left _ (List.mem_append_left _ (List.mem_append_left _ (List.mem_append_left _ (List.mem_append_left _ (List.mem_append_right _ h))))))))) rfl 8 (by decide) (by decide +kernel) ⟨rfl, rfl⟩ tyX8 tyX8_ok nmX8 rfl (ty := RX4) (by decide +kernel) (Nat.le_of_ble_eq_true rfl) ⟨Nat.le_of_ble_eq_true rfl, Nat.le_of_ble_eq_true rfl⟩ dX8_init_93 dX8_init_96 dX8_init_97 dX8_init_100 (fun u58 => ?_)
  refine n_ret F V dX8_init_103 (fun k => ([h0, u1 0, u1 1, u1 2, u1 3, u1 4, u1 5, u1 6, u1 7, u1 8, u10 0, u10 1, u10 2, u10 3, u10 4, u10 5, u10 6, u10 7, u10 8, u19 0, u19 1, u19 2, u19 3, u19 4, u19 5, u19 6, u19 7, u19 8, u28 0, u28 1, u30 0, u30 1, u30 2, u30 3, u30 4, u30 5, u30 6, u30 7, u30 8, u39 0, u39 1, u39 2, u39 3, u39 4, u39 5, u39 6, u46 0, u46 1, u46 2, u46 3, u46 4, u46 5, u46 6, u46 7, u46 8, u46 9, u56 0, u56 1, u58 0, u58 1] : List Nat).getD k 0) rfl ?_
  simp [q_wl_eq, q_wl, q_ce, q_fv, q_ad, s_X0, m_X0, s_X1, m_X1, s_X2, m_X2, s_X3, m_X3, s_X4, m_X4, s_X5, m_X5, s_X6, m_X6, s_X7, m_X7, s_X8, m_X8, f_X8]
def s_X9 : List q_S := [.inr (9, [none, some 1, some 2, some 3, none, some 4, none, some 5, none, some 6, some 7, some 8, some 9, some 10, some 11, none, none, none, none, none, some 12, some 13, some 14, some 15, some 16, some 17, some 18]), .inl (false, 6), .inl (false, 6), .inl (false, 6), .inl (false, 6), .inl (false, 16), .inl (false, 60), .inl (false, 6), .inl (false, 6), .inl (false, 6), .inl (false, 6), .inl (false, 6), .inl (false, 6), .inl (false, 6), .inl (false, 640), .inl (false, 6), .inl (false, 6), .inl (false, 100), .inl (true, 2)]
def m_X9 : q_M := fun k i => if k = 0 then (if i = 4 then 9 else 0) else 0
def f_X9 : List Value := [.int (q_I 0), .null, .null, .null, .int (q_I 0), .null, .int (q_I 0), .null, .int (q_I 0), .null, .null, .null, .null, .null, .null, .int (q_I 0), .int (q_I 0), .int (q_I 0), .int (q_I 0), .int (q_I 0), .null, .null, .null, .null, .null, .null, .null]
set_option maxHeartbeats 4000000 in
set_option maxRecDepth 100000 in
theorem k_X9 (l : Launch) (D : va_G) (cI cZ : ClassId) : q_CN l D cI cZ yX9_init wsX9_init ({ frames := 1, cells := 18, slots := 896, locals := 12 } : Room) (.inr (9, f_X9)) s_X9 m_X9 18 896 := by
  refine q_CN.of (cc := cX9_init) (by decide) rfl RX9 rfl rfl (fun E h0 F V => ?_)
  refine n_aload F dX9_init_0 ?_
  refine n_obj F (by decide +kernel) (by decide +kernel) (List.mem_of_getElem? (i := 3) rfl) ⟨Nat.le_of_ble_eq_true rfl, Nat.le_of_ble_eq_true rfl⟩ dX9_init_1 ?_
  refine n_aload F dX9_init_4 ?_
  refine n_bipush F dX9_init_5 (by decide) ?_
  refine n_arr (T := TX9) (N := 27) F .int .int _ rfl (Or.inl ⟨rfl, rfl⟩) (by decide +kernel) (N' := 6) (by decide +kernel) (Nat.le_of_ble_eq_true rfl) (by decide +kernel) (fun w h => List.mem_cons_of_mem _ (List.mem_append_right _ h)) rfl 1 (by decide) (by decide +kernel) ⟨rfl, rfl⟩ tyX9 tyX9_ok nmX9 rfl (by decide +kernel) (Nat.le_of_ble_eq_true rfl) ⟨Nat.le_of_ble_eq_true rfl, Nat.le_of_ble_eq_true rfl⟩ dX9_init_7 dX9_init_9 (fun a1 => ?_)
  refine n_aload F dX9_init_12 ?_
  refine n_bipush F dX9_init_13 (by decide) ?_
  refine n_arr (T := TX9) (N := 27) F .int .int _ rfl (Or.inl ⟨rfl, rfl⟩) (by decide +kernel) (N' := 6) (by decide +kernel) (Nat.le_of_ble_eq_true rfl) (by decide +kernel) (fun w h => List.mem_cons_of_mem _ (List.mem_append_right _ h)) rfl 2 (by decide) (by decide +kernel) ⟨rfl, rfl⟩ tyX9 tyX9_ok nmX9 rfl (by decide +kernel) (Nat.le_of_ble_eq_true rfl) ⟨Nat.le_of_ble_eq_true rfl, Nat.le_of_ble_eq_true rfl⟩ dX9_init_15 dX9_init_17 (fun a2 => ?_)
  refine n_aload F dX9_init_20 ?_
  refine n_bipush F dX9_init_21 (by decide) ?_
  refine n_arr (T := TX9) (N := 27) F .int .int _ rfl (Or.inl ⟨rfl, rfl⟩) (by decide +kernel) (N' := 6) (by decide +kernel) (Nat.le_of_ble_eq_true rfl) (by decide +kernel) (fun w h => List.mem_cons_of_mem _ (List.mem_append_right _ h)) rfl 3 (by decide) (by decide +kernel) ⟨rfl, rfl⟩ tyX9 tyX9_ok nmX9 rfl (by decide +kernel) (Nat.le_of_ble_eq_true rfl) ⟨Nat.le_of_ble_eq_true rfl, Nat.le_of_ble_eq_true rfl⟩ dX9_init_23 dX9_init_25 (fun a3 => ?_)
  refine n_aload F dX9_init_28 ?_
  refine n_bipush F dX9_init_29 (by decide) ?_
  refine n_put (T := TX9) (N := 27) F (fun w h => List.mem_cons_of_mem _ (List.mem_append_right _ h)) rfl 4 (by decide) (by decide +kernel) rfl tyX9 tyX9_ok nmX9 rfl (by decide +kernel) (Nat.le_of_ble_eq_true rfl) dX9_init_31 ?_
  refine n_aload F dX9_init_34 ?_
  refine n_bipush F dX9_init_35 (by decide) ?_
  refine n_arr (T := TX9) (N := 27) F .int .int _ rfl (Or.inl ⟨rfl, rfl⟩) (by decide +kernel) (N' := 6) (by decide +kernel) (Nat.le_of_ble_eq_true rfl) (by decide +kernel) (fun w h => List.mem_cons_of_mem _ (List.mem_append_right _ h)) rfl 5 (by decide) (by decide +kernel) ⟨rfl, rfl⟩ tyX9 tyX9_ok nmX9 rfl (by decide +kernel) (Nat.le_of_ble_eq_true rfl) ⟨Nat.le_of_ble_eq_true rfl, Nat.le_of_ble_eq_true rfl⟩ dX9_init_37 dX9_init_39 (fun a4 => ?_)
  refine n_aload F dX9_init_42 ?_
  refine n_bipush F dX9_init_43 (by decide) ?_
  refine n_arr (T := TX9) (N := 27) F .int .int _ rfl (Or.inl ⟨rfl, rfl⟩) (by decide +kernel) (N' := 16) (by decide +kernel) (Nat.le_of_ble_eq_true rfl) (by decide +kernel) (fun w h => List.mem_cons_of_mem _ (List.mem_append_right _ h)) rfl 7 (by decide) (by decide +kernel) ⟨rfl, rfl⟩ tyX9 tyX9_ok nmX9 rfl (by decide +kernel) (Nat.le_of_ble_eq_true rfl) ⟨Nat.le_of_ble_eq_true rfl, Nat.le_of_ble_eq_true rfl⟩ dX9_init_45 dX9_init_47 (fun a5 => ?_)
  refine n_aload F dX9_init_50 ?_
  refine n_bipush F dX9_init_51 (by decide) ?_
  refine n_arr (T := TX9) (N := 27) F .int .int _ rfl (Or.inl ⟨rfl, rfl⟩) (by decide +kernel) (N' := 60) (by decide +kernel) (Nat.le_of_ble_eq_true rfl) (by decide +kernel) (fun w h => List.mem_cons_of_mem _ (List.mem_append_right _ h)) rfl 9 (by decide) (by decide +kernel) ⟨rfl, rfl⟩ tyX9 tyX9_ok nmX9 rfl (by decide +kernel) (Nat.le_of_ble_eq_true rfl) ⟨Nat.le_of_ble_eq_true rfl, Nat.le_of_ble_eq_true rfl⟩ dX9_init_53 dX9_init_55 (fun a6 => ?_)
  refine n_aload F dX9_init_58 ?_
  refine n_bipush F dX9_init_59 (by decide) ?_
  refine n_arr (T := TX9) (N := 27) F .int .int _ rfl (Or.inl ⟨rfl, rfl⟩) (by decide +kernel) (N' := 6) (by decide +kernel) (Nat.le_of_ble_eq_true rfl) (by decide +kernel) (fun w h => List.mem_cons_of_mem _ (List.mem_append_right _ h)) rfl 10 (by decide) (by decide +kernel) ⟨rfl, rfl⟩ tyX9 tyX9_ok nmX9 rfl (by decide +kernel) (Nat.le_of_ble_eq_true rfl) ⟨Nat.le_of_ble_eq_true rfl, Nat.le_of_ble_eq_true rfl⟩ dX9_init_61 dX9_init_63 (fun a7 => ?_)
  refine n_aload F dX9_init_66 ?_
  refine n_bipush F dX9_init_67 (by decide) ?_
  refine n_arr (T := TX9) (N := 27) F .int .int _ rfl (Or.inl ⟨rfl, rfl⟩) (by decide +kernel) (N' := 6) (by decide +kernel) (Nat.le_of_ble_eq_true rfl) (by decide +kernel) (fun w h => List.mem_cons_of_mem _ (List.mem_append_right _ h)) rfl 11 (by decide) (by decide +kernel) ⟨rfl, rfl⟩ tyX9 tyX9_ok nmX9 rfl (by decide +kernel) (Nat.le_of_ble_eq_true rfl) ⟨Nat.le_of_ble_eq_true rfl, Nat.le_of_ble_eq_true rfl⟩ dX9_init_69 dX9_init_71 (fun a8 => ?_)
  refine n_aload F dX9_init_74 ?_
  refine n_bipush F dX9_init_75 (by decide) ?_
  refine n_arr (T := TX9) (N := 27) F .int .int _ rfl (Or.inl ⟨rfl, rfl⟩) (by decide +kernel) (N' := 6) (by decide +kernel) (Nat.le_of_ble_eq_true rfl) (by decide +kernel) (fun w h => List.mem_cons_of_mem _ (List.mem_append_right _ h)) rfl 12 (by decide) (by decide +kernel) ⟨rfl, rfl⟩ tyX9 tyX9_ok nmX9 rfl (by decide +kernel) (Nat.le_of_ble_eq_true rfl) ⟨Nat.le_of_ble_eq_true rfl, Nat.le_of_ble_eq_true rfl⟩ dX9_init_77 dX9_init_79 (fun a9 => ?_)
  refine n_aload F dX9_init_82 ?_
  refine n_bipush F dX9_init_83 (by decide) ?_
  refine n_arr (T := TX9) (N := 27) F .int .int _ rfl (Or.inl ⟨rfl, rfl⟩) (by decide +kernel) (N' := 6) (by decide +kernel) (Nat.le_of_ble_eq_true rfl) (by decide +kernel) (fun w h => List.mem_cons_of_mem _ (List.mem_append_right _ h)) rfl 13 (by decide) (by decide +kernel) ⟨rfl, rfl⟩ tyX9 tyX9_ok nmX9 rfl (by decide +kernel) (Nat.le_of_ble_eq_true rfl) ⟨Nat.le_of_ble_eq_true rfl, Nat.le_of_ble_eq_true rfl⟩ dX9_init_85 dX9_init_87 (fun a10 => ?_)
  refine n_aload F dX9_init_90 ?_
  refine n_bipush F dX9_init_91 (by decide) ?_
  refine n_arr (T := TX9) (N := 27) F .int .int _ rfl (Or.inl ⟨rfl, rfl⟩) (by decide +kernel) (N' := 6) (by decide +kernel) (Nat.le_of_ble_eq_true rfl) (by decide +kernel) (fun w h => List.mem_cons_of_mem _ (List.mem_append_right _ h)) rfl 14 (by decide) (by decide +kernel) ⟨rfl, rfl⟩ tyX9 tyX9_ok nmX9 rfl (by decide +kernel) (Nat.le_of_ble_eq_true rfl) ⟨Nat.le_of_ble_eq_true rfl, Nat.le_of_ble_eq_true rfl⟩ dX9_init_93 dX9_init_95 (fun a11 => ?_)
  refine n_aload F dX9_init_98 ?_
  refine n_bipush F dX9_init_99 (by decide) ?_
  refine n_arr (T := TX9) (N := 27) F .int .int _ rfl (Or.inl ⟨rfl, rfl⟩) (by decide +kernel) (N' := 6) (by decide +kernel) (Nat.le_of_ble_eq_true rfl) (by decide +kernel) (fun w h => List.mem_cons_of_mem _ (List.mem_append_right _ h)) rfl 20 (by decide) (by decide +kernel) ⟨rfl, rfl⟩ tyX9 tyX9_ok nmX9 rfl (by decide +kernel) (Nat.le_of_ble_eq_true rfl) ⟨Nat.le_of_ble_eq_true rfl, Nat.le_of_ble_eq_true rfl⟩ dX9_init_101 dX9_init_103 (fun a12 => ?_)
  refine n_aload F dX9_init_106 ?_
  refine n_bipush F dX9_init_107 (by decide) ?_
  refine n_arr (T := TX9) (N := 27) F .int .int _ rfl (Or.inl ⟨rfl, rfl⟩) (by decide +kernel) (N' := 6) (by decide +kernel) (Nat.le_of_ble_eq_true rfl) (by decide +kernel) (fun w h => List.mem_cons_of_mem _ (List.mem_append_right _ h)) rfl 21 (by decide) (by decide +kernel) ⟨rfl, rfl⟩ tyX9 tyX9_ok nmX9 rfl (by decide +kernel) (Nat.le_of_ble_eq_true rfl) ⟨Nat.le_of_ble_eq_true rfl, Nat.le_of_ble_eq_true rfl⟩ dX9_init_109 dX9_init_111 (fun a13 => ?_)
  refine n_aload F dX9_init_114 ?_
  refine n_sipush F dX9_init_115 (by decide) ?_
  refine n_arr (T := TX9) (N := 27) F .int .int _ rfl (Or.inl ⟨rfl, rfl⟩) (by decide +kernel) (N' := 640) (by decide +kernel) (Nat.le_of_ble_eq_true rfl) (by decide +kernel) (fun w h => List.mem_cons_of_mem _ (List.mem_append_right _ h)) rfl 22 (by decide) (by decide +kernel) ⟨rfl, rfl⟩ tyX9 tyX9_ok nmX9 rfl (by decide +kernel) (Nat.le_of_ble_eq_true rfl) ⟨Nat.le_of_ble_eq_true rfl, Nat.le_of_ble_eq_true rfl⟩ dX9_init_118 dX9_init_120 (fun a14 => ?_)
  refine n_aload F dX9_init_123 ?_
  refine n_bipush F dX9_init_124 (by decide) ?_
  refine n_arr (T := TX9) (N := 27) F .int .int _ rfl (Or.inl ⟨rfl, rfl⟩) (by decide +kernel) (N' := 6) (by decide +kernel) (Nat.le_of_ble_eq_true rfl) (by decide +kernel) (fun w h => List.mem_cons_of_mem _ (List.mem_append_right _ h)) rfl 23 (by decide) (by decide +kernel) ⟨rfl, rfl⟩ tyX9 tyX9_ok nmX9 rfl (by decide +kernel) (Nat.le_of_ble_eq_true rfl) ⟨Nat.le_of_ble_eq_true rfl, Nat.le_of_ble_eq_true rfl⟩ dX9_init_126 dX9_init_128 (fun a15 => ?_)
  refine n_aload F dX9_init_131 ?_
  refine n_bipush F dX9_init_132 (by decide) ?_
  refine n_arr (T := TX9) (N := 27) F .int .int _ rfl (Or.inl ⟨rfl, rfl⟩) (by decide +kernel) (N' := 6) (by decide +kernel) (Nat.le_of_ble_eq_true rfl) (by decide +kernel) (fun w h => List.mem_cons_of_mem _ (List.mem_append_right _ h)) rfl 24 (by decide) (by decide +kernel) ⟨rfl, rfl⟩ tyX9 tyX9_ok nmX9 rfl (by decide +kernel) (Nat.le_of_ble_eq_true rfl) ⟨Nat.le_of_ble_eq_true rfl, Nat.le_of_ble_eq_true rfl⟩ dX9_init_134 dX9_init_136 (fun a16 => ?_)
  refine n_aload F dX9_init_139 ?_
  refine n_bipush F dX9_init_140 (by decide) ?_
  refine n_arr (T := TX9) (N := 27) F .int .int _ rfl (Or.inl ⟨rfl, rfl⟩) (by decide +kernel) (N' := 100) (by decide +kernel) (Nat.le_of_ble_eq_true rfl) (by decide +kernel) (fun w h => List.mem_cons_of_mem _ (List.mem_append_right _ h)) rfl 25 (by decide) (by decide +kernel) ⟨rfl, rfl⟩ tyX9 tyX9_ok nmX9 rfl (by decide +kernel) (Nat.le_of_ble_eq_true rfl) ⟨Nat.le_of_ble_eq_true rfl, Nat.le_of_ble_eq_true rfl⟩ dX9_init_142 dX9_init_144 (fun a17 => ?_)
  refine n_aload F dX9_init_147 ?_
  refine n_iconst F dX9_init_148 ?_
  refine n_arr (T := TX9) (N := 27) F .boolean .boolean _ rfl (Or.inr ⟨rfl, rfl⟩) (by decide +kernel) (N' := 2) (by decide +kernel) (Nat.le_of_ble_eq_true rfl) (by decide +kernel) (fun w h => List.mem_cons_of_mem _ (List.mem_append_right _ h)) rfl 26 (by decide) (by decide +kernel) ⟨rfl, rfl⟩ tyX9 tyX9_ok nmX9 rfl (by decide +kernel) (Nat.le_of_ble_eq_true rfl) ⟨Nat.le_of_ble_eq_true rfl, Nat.le_of_ble_eq_true rfl⟩ dX9_init_149 dX9_init_151 (fun a18 => ?_)
  refine n_aload F dX9_init_154 ?_
  refine n_iconst F dX9_init_155 ?_
  refine n_put (T := TX9) (N := 27) F (fun w h => List.mem_cons_of_mem _ (List.mem_append_right _ h)) rfl 0 (by decide) (by decide +kernel) rfl tyX9 tyX9_ok nmX9 rfl (by decide +kernel) (Nat.le_of_ble_eq_true rfl) dX9_init_156 ?_
  refine n_ret F V dX9_init_159 (fun k => ([h0, a1, a2, a3, a4, a5, a6, a7, a8, a9, a10, a11, a12, a13, a14, a15, a16, a17, a18] : List Nat).getD k 0) rfl ?_
  simp [q_wl_eq, q_wl, q_ce, q_fv, q_ad, s_X9, m_X9, f_X9]
