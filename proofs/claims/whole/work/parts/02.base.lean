/-! BASE: whole-number values in machine ints; a fixed world of cells with whole-number contents; the judgement q_Y over it and its rows -/
def q_I (z : Int) : Int32 := Int32.ofInt z
theorem q_ti {z : Int} (h : -2147483648 ≤ z ∧ z ≤ 2147483647) : (q_I z).toInt = z := Int32.toInt_ofInt_of_le (by omega) (by omega)
theorem q_it (x : Int32) : q_I x.toInt = x := Int32.ofInt_toInt x
theorem q_rt (x : Int32) : -2147483648 ≤ x.toInt ∧ x.toInt ≤ 2147483647 := by
  have h1 := Int32.le_toInt x
  have h2 := Int32.toInt_lt x
  omega
theorem q_ex (x : Int32) : ∃ z : Int, (-2147483648 ≤ z ∧ z ≤ 2147483647) ∧ x = q_I z := ⟨x.toInt, q_rt x, (q_it x).symm⟩
theorem q_Iadd (a b : Int) : q_I a + q_I b = q_I (a + b) := (Int32.ofInt_add a b).symm
theorem q_Isub (a b : Int) : q_I a - q_I b = q_I (a - b) := (Int32.ofInt_sub a b).symm
theorem q_Imul (a b : Int) : q_I a * q_I b = q_I (a * b) := (Int32.ofInt_mul a b).symm
theorem q_Ineg (a : Int) : - q_I a = q_I (-a) := (Int32.ofInt_neg a).symm
theorem q_Ilt {a b : Int} (ha : -2147483648 ≤ a ∧ a ≤ 2147483647) (hb : -2147483648 ≤ b ∧ b ≤ 2147483647) : q_I a < q_I b ↔ a < b := by
  rw [Int32.lt_iff_toInt_lt, q_ti ha, q_ti hb]
theorem q_Ile {a b : Int} (ha : -2147483648 ≤ a ∧ a ≤ 2147483647) (hb : -2147483648 ≤ b ∧ b ≤ 2147483647) : q_I a ≤ q_I b ↔ a ≤ b := by
  rw [Int32.le_iff_toInt_le, q_ti ha, q_ti hb]
theorem q_Ieq {a b : Int} (ha : -2147483648 ≤ a ∧ a ≤ 2147483647) (hb : -2147483648 ≤ b ∧ b ≤ 2147483647) : q_I a = q_I b ↔ a = b := by
  constructor
  · intro h
    rw [← q_ti ha, ← q_ti hb, h]
  · intro h
    rw [h]
theorem q_I0 : q_I 0 = 0 := rfl
theorem q_Ilt0 {a : Int} (ha : -2147483648 ≤ a ∧ a ≤ 2147483647) : q_I a < 0 ↔ a < 0 := by rw [← q_I0, q_Ilt ha (by omega)]
theorem q_Ile0 {a : Int} (ha : -2147483648 ≤ a ∧ a ≤ 2147483647) : q_I a ≤ 0 ↔ a ≤ 0 := by rw [← q_I0, q_Ile ha (by omega)]
theorem q_I0le {a : Int} (ha : -2147483648 ≤ a ∧ a ≤ 2147483647) : 0 ≤ q_I a ↔ 0 ≤ a := by rw [← q_I0, q_Ile (by omega) ha]
theorem q_I0lt {a : Int} (ha : -2147483648 ≤ a ∧ a ≤ 2147483647) : 0 < q_I a ↔ 0 < a := by rw [← q_I0, q_Ilt (by omega) ha]
theorem q_Ieq0 {a : Int} (ha : -2147483648 ≤ a ∧ a ≤ 2147483647) : q_I a = 0 ↔ a = 0 := by rw [← q_I0, q_Ieq ha (by omega)]
theorem q_Icl {a : Int} (h0 : 0 ≤ a) (h1 : a ≤ 2147483647) : (((q_I a).toNatClampNeg : Nat) : Int) = a := by
  show (((q_I a).toInt.toNat : Nat) : Int) = a
  rw [q_ti (by omega)]
  omega
theorem q_Iin {a : Int} {n : Nat} (h0 : 0 ≤ a) (h1 : a < n) (hn : n ≤ 2147483647) : vp_in (q_I a) n := by
  rw [vp_in_iff, q_ti (by omega)]
  omega
/-- the bit operations, division and remainder, on whole numbers -/
def q_and (a b : Int) : Int := (q_I a &&& q_I b).toInt
def q_or (a b : Int) : Int := (q_I a ||| q_I b).toInt
def q_xor (a b : Int) : Int := (q_I a ^^^ q_I b).toInt
def q_shl (a b : Int) : Int := (q_I a <<< (q_I b &&& 31)).toInt
def q_shr (a b : Int) : Int := (q_I a >>> (q_I b &&& 31)).toInt
def q_div (a b : Int) : Int := (q_I a / q_I b).toInt
def q_rem (a b : Int) : Int := (q_I a - q_I a / q_I b * q_I b).toInt
/-- a truth value as a number -/
def q_b (b : Bool) : Int := if b then 1 else 0
theorem q_bR (b : Bool) : -2147483648 ≤ q_b b ∧ q_b b ≤ 2147483647 := by cases b <;> simp [q_b]
theorem q_b0 (b : Bool) : q_b b = 0 ↔ b = false := by cases b <;> simp [q_b]
theorem q_b01 (b : Bool) : q_b b = 0 ∨ q_b b = 1 := by cases b <;> simp [q_b]
/-- contents: by cell and place (of an array its index, of an object the place of its field) -/
abbrev q_M : Type := Nat → Int → Int
/-- what a cell is: an array (of booleans?, so long), or an object (its class' number, its fields: a fixed cell, or a number) -/
abbrev q_S : Type := (Bool × Nat) ⊕ (Nat × List (Option Nat))
abbrev q_G : Type := Launch × va_G × ClassId × ClassId × (Nat → Nat) × List q_S
def q_ad (G : q_G) (k : Nat) : Nat := G.2.2.2.2.1 k
def q_sh (G : q_G) (k : Nat) : Option q_S := G.2.2.2.2.2[k]?
def q_n (G : q_G) : Nat := G.2.2.2.2.2.length
def q_fv (G : q_G) (M : q_M) (k i : Nat) (f : Option Nat) : Value := match f with
  | some q => .ref (q_ad G q)
  | none => .int (q_I (M k i))
def q_ce (G : q_G) (M : q_M) (k : Nat) (s : q_S) : Nat × va_E := (q_ad G k, match s with
  | .inl (z, n) => .inl (if z then G.2.2.2.1 else G.2.2.1, n, .inl fun i => q_I (M k i))
  | .inr (ci, fs) => .inr (ci, fs.mapIdx fun i f => q_fv G M k i f))
def q_w (G : q_G) (M : q_M) : va_W := G.2.2.2.2.2.mapIdx fun k s => q_ce G M k s
theorem q_w_get {G : q_G} {M : q_M} {k : Nat} {s : q_S} (h : q_sh G k = some s) : (q_w G M)[k]? = some (q_ce G M k s) := by
  unfold q_sh at h
  simp only [q_w, List.getElem?_mapIdx, h, Option.map_some]
theorem q_w_ad {G : q_G} {M : q_M} {k : Nat} {e : Nat × va_E} (h : (q_w G M)[k]? = some e) : k < q_n G ∧ e.1 = q_ad G k := by
  have h1 : k < (q_w G M).length := (List.getElem?_eq_some_iff.mp h).1
  have h2 : k < q_n G := by simpa [q_w, q_n] using h1
  simp only [q_w, List.getElem?_mapIdx, Option.map_eq_some_iff] at h
  obtain ⟨s, -, rfl⟩ := h
  exact ⟨h2, rfl⟩
/-- the cells are apart -/
def q_inj (G : q_G) : Prop := ∀ i j : Nat, i < q_n G → j < q_n G → q_ad G i = q_ad G j → i = j
def q_A (G : q_G) (sz : Nat) (q : Nat) : Prop := (∃ k : Nat, k < q_n G ∧ q = q_ad G k) ∨ sz ≤ q
theorem q_D {G : q_G} (hI : q_inj G) (sz : Nat) (M : q_M) : va_D (q_A G sz) (q_w G M) := by
  refine ⟨fun i j p q hi hj e => ?_, fun k q hk => ?_⟩
  · obtain ⟨a1, a2⟩ := q_w_ad hi
    obtain ⟨b1, b2⟩ := q_w_ad hj
    exact hI i j a1 b1 (by rw [← a2, ← b2, e])
  · obtain ⟨a1, a2⟩ := q_w_ad hk
    exact Or.inl ⟨k, a1, a2⟩
def q_up (M : q_M) (k : Nat) (i v : Int) : q_M := fun k' => if k' = k then fun i' => if i' = i then v else M k i' else M k'
theorem q_up_ne {M : q_M} {k k' : Nat} {i v : Int} (h : k' ≠ k) : q_up M k i v k' = M k' := by simp [q_up, h]
theorem q_up_at {M : q_M} {k : Nat} {i v i' : Int} : q_up M k i v k i' = if i' = i then v else M k i' := by simp [q_up]
theorem q_up_R {M : q_M} {k : Nat} {i v : Int} (hM : ∀ (k : Nat) (i : Int), -2147483648 ≤ M k i ∧ M k i ≤ 2147483647) (hv : -2147483648 ≤ v ∧ v ≤ 2147483647) : ∀ (k' : Nat) (i' : Int), -2147483648 ≤ q_up M k i v k' i' ∧ q_up M k i v k' i' ≤ 2147483647 := by
  intro k' i'
  unfold q_up
  by_cases h : k' = k
  · simp only [h, if_true]
    by_cases h2 : i' = i
    · simp only [h2, if_true]; exact hv
    · simp only [h2, if_false]; exact hM k i'
  · simp only [h, if_false]; exact hM k' i'
theorem q_w_set {G : q_G} {M M' : q_M} {k : Nat} {s : q_S} {e : Nat × va_E} (h : q_sh G k = some s) (he : e = q_ce G M' k s) (ho : ∀ j, j ≠ k → M' j = M j) : (q_w G M).set k e = q_w G M' := by
  apply List.ext_getElem?
  intro j
  by_cases hj : j = k
  · subst hj
    rw [List.getElem?_set_self', q_w_get h, q_w_get h, he]
    rfl
  · rw [List.getElem?_set_ne (fun z => hj z.symm)]
    unfold q_w
    rw [List.getElem?_mapIdx, List.getElem?_mapIdx]
    have : ∀ s, q_ce G M j s = q_ce G M' j s := by
      intro s
      unfold q_ce q_fv
      rw [ho j hj]
    congr 1
    funext s
    exact this s
/-- the calls' links among nest mates, which the tables give of the state -/
def q_nest : List (String × Nat × MethodName × String) := [(RX0, 11, yX1_init, RX8), (RX0, 32, yX8_copyRow, RX8), (RX0, 40, yX8_at, RX8), (RX0, 44, yX8_put, RX8), (RX1, 28, yX8_copyRow, RX8), (RX1, 35, yX8_put, RX8), (RX1, 45, yX8_holds, RX8), (RX1, 52, yX8_thoseWithAny, RX8), (RX1, 59, yX8_at, RX8), (RX1, 79, yX8_firstBy, RX8), (RX1, 89, yX8_placeOf, RX8), (RX2, 11, yX1_init, RX8), (RX2, 29, yX8_at, RX8), (RX2, 36, yX8_put, RX8), (RX2, 44, yX8_holds, RX8), (RX2, 57, yX8_power, RX8), (RX2, 60, yX8_spread, RX8), (RX3, 19, yX8_put, RX8), (RX3, 23, yX8_at, RX8), (RX4, 24, yX8_at, RX8), (RX4, 32, yX8_firstBy, RX8), (RX4, 36, yX8_copyRow, RX8), (RX4, 40, yX8_holds, RX8), (RX4, 48, yX8_placeOf, RX8), (RX4, 60, yX8_put, RX8), (RX4, 86, yX8_power, RX8), (RX5, 19, yX8_holds, RX8), (RX5, 23, yX8_at, RX8), (RX5, 31, yX8_put, RX8), (RX6, 102, yX8_at, RX8), (RX6, 106, yX8_put, RX8), (RX6, 11, yX1_init, RX8), (RX6, 140, yX8_holds, RX8), (RX6, 144, yX8_spread, RX8), (RX7, 11, yX1_init, RX8), (RX7, 57, yX8_power, RX8), (RX7, 64, yX8_spread, RX8), (RX7, 79, yX8_at, RX8), (RX7, 88, yX8_put, RX8), (RX8, 24, yX3_init, RX8), (RX8, 31, yX6_init, RX8), (RX8, 38, yX2_init, RX8), (RX8, 45, yX7_init, RX8), (RX8, 52, yX5_init, RX8), (RX8, 59, yX4_init, RX8), (RX8, 9, yX0_init, RX8)]
def q_NW (U : State) : Prop := ∀ q ∈ q_nest, va_Nw (.methodLinkNest q.1 q.2.1 q.2.2.1 q.2.2.2) U
def q_ty (G : q_G) : List (ClassId × FieldType) := [(G.2.2.1, .int), (G.2.2.2.1, .boolean)]
def q_MR (M : q_M) : Prop := ∀ (k : Nat) (i : Int), -2147483648 ≤ M k i ∧ M k i ≤ 2147483647
def q_pre (G : q_G) (sz : Nat) (M : q_M) (U : State) : Prop := U.heap.size = sz ∧ q_MR M ∧ va_P G.2.1 vwCl (q_w G M) U.heap ∧ va_K G.2.1 vwCl (q_ty G) U ∧ q_NW U
def q_B (G : q_G) (M : q_M) (t : State) : Prop := q_MR M ∧ va_P G.2.1 vwCl (q_w G M) t.heap
/-- contracts: an int (or boolean) answer, none, a long one, a cell -/
def q_CI (G : q_G) (y : MethodName) (ws : List Cond) (rm : Room) (args : List Value) (M : q_M) (post : Int → q_M → Prop) : Prop :=
  ∀ sz : Nat, Met G.1 y ws rm (va_Pc args (q_pre G sz M)) (va_Qi (fun r M' => ∃ z : Int, r = q_I z ∧ (-2147483648 ≤ z ∧ z ≤ 2147483647) ∧ post z M') (q_B G) (q_A G sz)) 0 0 (q_A G sz)
def q_CV (G : q_G) (y : MethodName) (ws : List Cond) (rm : Room) (args : List Value) (M : q_M) (post : q_M → Prop) : Prop :=
  ∀ sz : Nat, Met G.1 y ws rm (va_Pc args (q_pre G sz M)) (va_Qv (fun M' => post M') (q_B G) (q_A G sz)) 0 0 (q_A G sz)
def q_CL (G : q_G) (y : MethodName) (ws : List Cond) (rm : Room) (args : List Value) (M : q_M) (post : Int64 → q_M → Prop) : Prop :=
  ∀ sz : Nat, Met G.1 y ws rm (va_Pc args (q_pre G sz M)) (va_Ql (fun r M' => post r M') (q_B G) (q_A G sz)) 0 0 (q_A G sz)
def q_CA (G : q_G) (y : MethodName) (ws : List Cond) (rm : Room) (args : List Value) (M : q_M) (k : Nat) (post : q_M → Prop) : Prop :=
  ∀ sz : Nat, Met G.1 y ws rm (va_Pc args (q_pre G sz M)) (va_Qr (fun M' => post M') (fun M' a t => a = q_ad G k ∧ q_B G M' t) (q_A G sz)) 0 0 (q_A G sz)
abbrev q_E : Type := Program × Env × Room × State × MethodId × Array Value × List Frame × Method × Code × (State → Prop)
def q_Y (G : q_G) (E : q_E) (nL : Nat) (M : q_M) (L : List (Nat × Value)) (pc : Nat) (st : List Value) : Prop := match E with
  | (p, e, R, s, m, args, below, meth, c, Q) => q_MR M → ∀ (H : Heap) (locs : List Loc) (ls : Array Slot), va_P G.2.1 vwCl (q_w G M) H → va_S (q_A G s.heap.size) s.heap H locs → lv_has ls nL L → W p G.1 e R s m args below meth c H locs 0 0 Q (F0 m pc ls st)
/-- what holds all through a method -/
def q_F (G : q_G) (E : q_E) (own : String) (Ts : List Cond) (cc : ByteArray) (nL : Nat) (rm : Room) : Prop := match E with
  | (p, _, R, s, m, args, _, meth, c, _) => p.tables.exec = Jvm.exec ∧ c.code = cc ∧ c.maxLocals = nL ∧ s.vm.findClass own = some m.cls ∧ (∀ w ∈ Ts, w.before args s = true) ∧ meth.locks = false ∧ R = rm ∧ va_K G.2.1 vwCl (q_ty G) s ∧ q_NW s ∧ q_inj G
def q_FI (G : q_G) (E : q_E) (ret : FieldType) (post : Int → q_M → Prop) : Prop := match E with
  | (_, _, _, s, _, args, below, meth, _, Q) => meth.sig.returnType = some ret ∧ Q = MQ below (va_Qi (fun r M' => ∃ z : Int, r = q_I z ∧ (-2147483648 ≤ z ∧ z ≤ 2147483647) ∧ post z M') (q_B G) (q_A G s.heap.size)) args s 0 0 (q_A G s.heap.size)
def q_FV (G : q_G) (E : q_E) (post : q_M → Prop) : Prop := match E with
  | (_, _, _, s, _, args, below, meth, _, Q) => meth.sig.returnType = none ∧ Q = MQ below (va_Qv (fun M' => post M') (q_B G) (q_A G s.heap.size)) args s 0 0 (q_A G s.heap.size)
def q_FL (G : q_G) (E : q_E) (post : Int64 → q_M → Prop) : Prop := match E with
  | (_, _, _, s, _, args, below, meth, _, Q) => meth.sig.returnType = some .long ∧ Q = MQ below (va_Ql (fun r M' => post r M') (q_B G) (q_A G s.heap.size)) args s 0 0 (q_A G s.heap.size)
def q_FA (G : q_G) (E : q_E) (ret : FieldType) (k : Nat) (post : q_M → Prop) : Prop := match E with
  | (_, _, _, s, _, args, below, meth, _, Q) => meth.sig.returnType = some ret ∧ Q = MQ below (va_Qr (fun M' => post M') (fun M' a t => a = q_ad G k ∧ q_B G M' t) (q_A G s.heap.size)) args s 0 0 (q_A G s.heap.size)

section QR
variable {G : q_G} {E : q_E} {own : String} {Ts : List Cond} {cc : ByteArray} {nL : Nat} {rm : Room} {M : q_M} {L : List (Nat × Value)} {pc : Nat} {st : List Value}

theorem q_iconst (F : q_F G E own Ts cc nL rm) {n : Int} (d : decode cc pc = .ok (.iconst n, 1)) (k : q_Y G E nL M L (pc + 1) (.int (q_I n) :: st)) : q_Y G E nL M L pc st := by
  obtain ⟨p, e, R, s, m, args, below, meth, c, Q⟩ := E
  obtain ⟨hx, hb, hml, hown, hts, hlk, hR, hK, hN, hI⟩ := F
  intro hM H locs ls hP hS hl
  exact lv_iconst hx hb d rfl (k hM H locs ls hP hS hl)

theorem q_bipush (F : q_F G E own Ts cc nL rm) {n : Int} (d : decode cc pc = .ok (.bipush n, 2)) (hv : (Int8.ofInt n).toInt32 = q_I n) (k : q_Y G E nL M L (pc + 2) (.int (q_I n) :: st)) : q_Y G E nL M L pc st := by
  obtain ⟨p, e, R, s, m, args, below, meth, c, Q⟩ := E
  obtain ⟨hx, hb, hml, hown, hts, hlk, hR, hK, hN, hI⟩ := F
  intro hM H locs ls hP hS hl
  exact lv_bipush hx hb d hv (k hM H locs ls hP hS hl)

theorem q_sipush (F : q_F G E own Ts cc nL rm) {n : Int} (d : decode cc pc = .ok (.sipush n, 3)) (hv : (Int16.ofInt n).toInt32 = q_I n) (k : q_Y G E nL M L (pc + 3) (.int (q_I n) :: st)) : q_Y G E nL M L pc st := by
  obtain ⟨p, e, R, s, m, args, below, meth, c, Q⟩ := E
  obtain ⟨hx, hb, hml, hown, hts, hlk, hR, hK, hN, hI⟩ := F
  intro hM H locs ls hP hS hl
  exact lv_sipush hx hb d hv (k hM H locs ls hP hS hl)

theorem q_ldc (F : q_F G E own Ts cc nL rm) {index : Nat} {n : Int} (d : decode cc pc = .ok (.ldc index, 2)) (hc : Cond.constant own index (q_I n) ∈ Ts) (k : q_Y G E nL M L (pc + 2) (.int (q_I n) :: st)) : q_Y G E nL M L pc st := by
  obtain ⟨p, e, R, s, m, args, below, meth, c, Q⟩ := E
  obtain ⟨hx, hb, hml, hown, hts, hlk, hR, hK, hN, hI⟩ := F
  intro hM H locs ls hP hS hl
  exact lv_ldc hx hb hown (hts _ hc) d (k hM H locs ls hP hS hl)

theorem q_iload_n (F : q_F G E own Ts cc nL rm) {i : Fin 4} {z : Int} (d : decode cc pc = .ok (.iload_n i, 1)) (j : Nat) (hj : L[j]? = some ((i : Nat), .int (q_I z))) (k : q_Y G E nL M L (pc + 1) (.int (q_I z) :: st)) : q_Y G E nL M L pc st := by
  obtain ⟨p, e, R, s, m, args, below, meth, c, Q⟩ := E
  obtain ⟨hx, hb, hml, hown, hts, hlk, hR, hK, hN, hI⟩ := F
  intro hM H locs ls hP hS hl
  exact lv_iload_n hx hb d rfl (lv_at hl j hj) (k hM H locs ls hP hS hl)

theorem q_iload (F : q_F G E own Ts cc nL rm) {i : Nat} {z : Int} (d : decode cc pc = .ok (.iload i, 2)) (j : Nat) (hj : L[j]? = some (i, .int (q_I z))) (k : q_Y G E nL M L (pc + 2) (.int (q_I z) :: st)) : q_Y G E nL M L pc st := by
  obtain ⟨p, e, R, s, m, args, below, meth, c, Q⟩ := E
  obtain ⟨hx, hb, hml, hown, hts, hlk, hR, hK, hN, hI⟩ := F
  intro hM H locs ls hP hS hl
  exact lv_iload hx hb d (lv_at hl j hj) (k hM H locs ls hP hS hl)

theorem q_aload_n (F : q_F G E own Ts cc nL rm) {i : Fin 4} {x : Nat} (d : decode cc pc = .ok (.aload_n i, 1)) (j : Nat) (hj : L[j]? = some ((i : Nat), .ref x)) (k : q_Y G E nL M L (pc + 1) (.ref x :: st)) : q_Y G E nL M L pc st := by
  obtain ⟨p, e, R, s, m, args, below, meth, c, Q⟩ := E
  obtain ⟨hx, hb, hml, hown, hts, hlk, hR, hK, hN, hI⟩ := F
  intro hM H locs ls hP hS hl
  exact lv_aload_n hx hb d rfl (lv_at hl j hj) (k hM H locs ls hP hS hl)

theorem q_istore_n (F : q_F G E own Ts cc nL rm) {i : Fin 4} {z : Int} (d : decode cc pc = .ok (.istore_n i, 1)) (L' : List (Nat × Value)) (hn : (i : Nat) < nL) (hL : ((i : Nat), Value.int (q_I z)) :: L.filter (fun q => !(q.1 == (i : Nat)) && !(q.1 + 1 == (i : Nat) && q.2.category == 2)) = L') (k : q_Y G E nL M L' (pc + 1) st) : q_Y G E nL M L pc (.int (q_I z) :: st) := by
  obtain ⟨p, e, R, s, m, args, below, meth, c, Q⟩ := E
  obtain ⟨hx, hb, hml, hown, hts, hlk, hR, hK, hN, hI⟩ := F
  intro hM H locs ls hP hS hl
  exact lv_istore_n hx hb d rfl hl hn hL (fun ls hl => k hM H locs ls hP hS hl)

theorem q_astore_n (F : q_F G E own Ts cc nL rm) {i : Fin 4} {x : Nat} (d : decode cc pc = .ok (.astore_n i, 1)) (L' : List (Nat × Value)) (hn : (i : Nat) < nL) (hL : ((i : Nat), Value.ref x) :: L.filter (fun q => !(q.1 == (i : Nat)) && !(q.1 + 1 == (i : Nat) && q.2.category == 2)) = L') (k : q_Y G E nL M L' (pc + 1) st) : q_Y G E nL M L pc (.ref x :: st) := by
  obtain ⟨p, e, R, s, m, args, below, meth, c, Q⟩ := E
  obtain ⟨hx, hb, hml, hown, hts, hlk, hR, hK, hN, hI⟩ := F
  intro hM H locs ls hP hS hl
  exact lv_astore_n hx hb d rfl hl hn hL (fun ls hl => k hM H locs ls hP hS hl)

theorem q_istore (F : q_F G E own Ts cc nL rm) {i : Nat} {z : Int} (d : decode cc pc = .ok (.istore i, 2)) (L' : List (Nat × Value)) (hn : i < nL) (hL : (i, Value.int (q_I z)) :: L.filter (fun q => !(q.1 == i) && !(q.1 + 1 == i && q.2.category == 2)) = L') (k : q_Y G E nL M L' (pc + 2) st) : q_Y G E nL M L pc (.int (q_I z) :: st) := by
  obtain ⟨p, e, R, s, m, args, below, meth, c, Q⟩ := E
  obtain ⟨hx, hb, hml, hown, hts, hlk, hR, hK, hN, hI⟩ := F
  intro hM H locs ls hP hS hl
  exact lv_istore hx hb d hl hn hL (fun ls hl => k hM H locs ls hP hS hl)

theorem q_iinc (F : q_F G E own Ts cc nL rm) {i : Nat} {n x v : Int} (d : decode cc pc = .ok (.iinc i n, 3)) (j : Nat) (hj : L[j]? = some (i, .int (q_I x))) (hv : v = x + n) (L' : List (Nat × Value)) (hn : i < nL) (hL : (i, Value.int (q_I v)) :: L.filter (fun q => !(q.1 == i) && !(q.1 + 1 == i && q.2.category == 2)) = L') (k : q_Y G E nL M L' (pc + 3) st) : q_Y G E nL M L pc st := by
  obtain ⟨p, e, R, s, m, args, below, meth, c, Q⟩ := E
  obtain ⟨hx, hb, hml, hown, hts, hlk, hR, hK, hN, hI⟩ := F
  intro hM H locs ls hP hS hl
  exact lv_iinc hx hb d hl hj (by rw [hv, ← q_Iadd]; rfl) hn hL (fun ls hl => k hM H locs ls hP hS hl)

theorem q_nm {z : Int} (k : ∀ v : Int, v = z → q_Y G E nL M L pc (.int (q_I v) :: st)) : q_Y G E nL M L pc (.int (q_I z) :: st) := k z rfl

theorem q_drop (ks : List Nat) {L' : List (Nat × Value)} (hL : lv_pick L ks = L') (k : q_Y G E nL M L' pc st) : q_Y G E nL M L pc st := by
  obtain ⟨p, e, R, s, m, args, below, meth, c, Q⟩ := E
  intro hM H locs ls hP hS hl
  exact k hM H locs ls hP hS (lv_sub hl ks hL)

theorem q_MRof (k : q_MR M → q_Y G E nL M L pc st) : q_Y G E nL M L pc st := by
  obtain ⟨p, e, R, s, m, args, below, meth, c, Q⟩ := E
  intro hM
  exact k hM hM

theorem q_iadd (F : q_F G E own Ts cc nL rm) {a b : Int} (d : decode cc pc = .ok (.iadd, 1)) (k : q_Y G E nL M L (pc + 1) (.int (q_I (a + b)) :: st)) : q_Y G E nL M L pc (.int (q_I b) :: .int (q_I a) :: st) := by
  obtain ⟨p, e, R, s, m, args, below, meth, c, Q⟩ := E
  obtain ⟨hx, hb, hml, hown, hts, hlk, hR, hK, hN, hI⟩ := F
  intro hM H locs ls hP hS hl
  refine lv_iadd hx hb d ?_
  rw [q_Iadd]
  exact k hM H locs ls hP hS hl

theorem q_isub (F : q_F G E own Ts cc nL rm) {a b : Int} (d : decode cc pc = .ok (.isub, 1)) (k : q_Y G E nL M L (pc + 1) (.int (q_I (a - b)) :: st)) : q_Y G E nL M L pc (.int (q_I b) :: .int (q_I a) :: st) := by
  obtain ⟨p, e, R, s, m, args, below, meth, c, Q⟩ := E
  obtain ⟨hx, hb, hml, hown, hts, hlk, hR, hK, hN, hI⟩ := F
  intro hM H locs ls hP hS hl
  refine lv_isub hx hb d ?_
  rw [q_Isub]
  exact k hM H locs ls hP hS hl

theorem q_imul (F : q_F G E own Ts cc nL rm) {a b : Int} (d : decode cc pc = .ok (.imul, 1)) (k : q_Y G E nL M L (pc + 1) (.int (q_I (a * b)) :: st)) : q_Y G E nL M L pc (.int (q_I b) :: .int (q_I a) :: st) := by
  obtain ⟨p, e, R, s, m, args, below, meth, c, Q⟩ := E
  obtain ⟨hx, hb, hml, hown, hts, hlk, hR, hK, hN, hI⟩ := F
  intro hM H locs ls hP hS hl
  refine lv_imul hx hb d ?_
  rw [q_Imul]
  exact k hM H locs ls hP hS hl

theorem q_ineg (F : q_F G E own Ts cc nL rm) {a : Int} (d : decode cc pc = .ok (.ineg, 1)) (k : q_Y G E nL M L (pc + 1) (.int (q_I (-a)) :: st)) : q_Y G E nL M L pc (.int (q_I a) :: st) := by
  obtain ⟨p, e, R, s, m, args, below, meth, c, Q⟩ := E
  obtain ⟨hx, hb, hml, hown, hts, hlk, hR, hK, hN, hI⟩ := F
  intro hM H locs ls hP hS hl
  refine lv_ineg hx hb d ?_
  rw [q_Ineg]
  exact k hM H locs ls hP hS hl

theorem q_Idiv {a b : Int} (ha : 0 ≤ a ∧ a ≤ 2147483647) (hb : 0 < b ∧ b ≤ 2147483647) : q_I a / q_I b = q_I (a / b) := by
  have h : q_I b ≠ -1 := by
    intro h
    have h2 : q_I b = q_I (-1) := h
    rw [q_Ieq (by omega) (by omega)] at h2
    omega
  rw [← q_it (q_I a / q_I b), Int32.toInt_div_of_ne_right _ _ h, q_ti (by omega), q_ti (by omega), Int.tdiv_eq_ediv_of_nonneg ha.1]
theorem q_Irem {a b : Int} (ha : 0 ≤ a ∧ a ≤ 2147483647) (hb : 0 < b ∧ b ≤ 2147483647) : q_I a - q_I a / q_I b * q_I b = q_I (a % b) := by
  rw [q_Idiv ha hb, q_Imul, q_Isub, Int.emod_def, Int.mul_comm b]

theorem q_idiv (F : q_F G E own Ts cc nL rm) {a b : Int} (d : decode cc pc = .ok (.idiv, 1)) (hab : (0 ≤ a ∧ a ≤ 2147483647) ∧ (0 < b ∧ b ≤ 2147483647)) (k : q_Y G E nL M L (pc + 1) (.int (q_I (a / b)) :: st)) : q_Y G E nL M L pc (.int (q_I b) :: .int (q_I a) :: st) := by
  obtain ⟨p, e, R, s, m, args, below, meth, c, Q⟩ := E
  obtain ⟨hx, hb, hml, hown, hts, hlk, hR, hK, hN, hI⟩ := F
  intro hM H locs ls hP hS hl
  refine lv_idiv hx hb d (fun h => ?_) ?_
  · rw [q_Ieq0 (by omega)] at h
    omega
  · rw [q_Idiv hab.1 hab.2]
    exact k hM H locs ls hP hS hl

theorem q_irem (F : q_F G E own Ts cc nL rm) {a b : Int} (d : decode cc pc = .ok (.irem, 1)) (hab : (0 ≤ a ∧ a ≤ 2147483647) ∧ (0 < b ∧ b ≤ 2147483647)) (k : q_Y G E nL M L (pc + 1) (.int (q_I (a % b)) :: st)) : q_Y G E nL M L pc (.int (q_I b) :: .int (q_I a) :: st) := by
  obtain ⟨p, e, R, s, m, args, below, meth, c, Q⟩ := E
  obtain ⟨hx, hb, hml, hown, hts, hlk, hR, hK, hN, hI⟩ := F
  intro hM H locs ls hP hS hl
  refine lv_irem hx hb d (fun h => ?_) ?_
  · rw [q_Ieq0 (by omega)] at h
    omega
  · rw [q_Irem hab.1 hab.2]
    exact k hM H locs ls hP hS hl

theorem q_iand (F : q_F G E own Ts cc nL rm) {a b : Int} (d : decode cc pc = .ok (.iand, 1)) (k : ∀ z : Int, z = q_and a b → (-2147483648 ≤ z ∧ z ≤ 2147483647) → q_Y G E nL M L (pc + 1) (.int (q_I z) :: st)) : q_Y G E nL M L pc (.int (q_I b) :: .int (q_I a) :: st) := by
  obtain ⟨p, e, R, s, m, args, below, meth, c, Q⟩ := E
  obtain ⟨hx, hb, hml, hown, hts, hlk, hR, hK, hN, hI⟩ := F
  intro hM H locs ls hP hS hl
  refine lv_iand hx hb d ?_
  rw [← q_it (q_I a &&& q_I b)]
  exact k _ rfl (q_rt _) hM H locs ls hP hS hl

theorem q_ior (F : q_F G E own Ts cc nL rm) {a b : Int} (d : decode cc pc = .ok (.ior, 1)) (k : ∀ z : Int, z = q_or a b → (-2147483648 ≤ z ∧ z ≤ 2147483647) → q_Y G E nL M L (pc + 1) (.int (q_I z) :: st)) : q_Y G E nL M L pc (.int (q_I b) :: .int (q_I a) :: st) := by
  obtain ⟨p, e, R, s, m, args, below, meth, c, Q⟩ := E
  obtain ⟨hx, hb, hml, hown, hts, hlk, hR, hK, hN, hI⟩ := F
  intro hM H locs ls hP hS hl
  refine lv_ior hx hb d ?_
  rw [← q_it (q_I a ||| q_I b)]
  exact k _ rfl (q_rt _) hM H locs ls hP hS hl

theorem q_ixor (F : q_F G E own Ts cc nL rm) {a b : Int} (d : decode cc pc = .ok (.ixor, 1)) (k : ∀ z : Int, z = q_xor a b → (-2147483648 ≤ z ∧ z ≤ 2147483647) → q_Y G E nL M L (pc + 1) (.int (q_I z) :: st)) : q_Y G E nL M L pc (.int (q_I b) :: .int (q_I a) :: st) := by
  obtain ⟨p, e, R, s, m, args, below, meth, c, Q⟩ := E
  obtain ⟨hx, hb, hml, hown, hts, hlk, hR, hK, hN, hI⟩ := F
  intro hM H locs ls hP hS hl
  refine lv_ixor hx hb d ?_
  rw [← q_it (q_I a ^^^ q_I b)]
  exact k _ rfl (q_rt _) hM H locs ls hP hS hl

theorem q_ishl (F : q_F G E own Ts cc nL rm) {a b : Int} (d : decode cc pc = .ok (.ishl, 1)) (k : ∀ z : Int, z = q_shl a b → (-2147483648 ≤ z ∧ z ≤ 2147483647) → q_Y G E nL M L (pc + 1) (.int (q_I z) :: st)) : q_Y G E nL M L pc (.int (q_I b) :: .int (q_I a) :: st) := by
  obtain ⟨p, e, R, s, m, args, below, meth, c, Q⟩ := E
  obtain ⟨hx, hb, hml, hown, hts, hlk, hR, hK, hN, hI⟩ := F
  intro hM H locs ls hP hS hl
  refine lv_ishl hx hb d ?_
  rw [← q_it (q_I a <<< (q_I b &&& 31))]
  exact k _ rfl (q_rt _) hM H locs ls hP hS hl

theorem q_ishr (F : q_F G E own Ts cc nL rm) {a b : Int} (d : decode cc pc = .ok (.ishr, 1)) (k : ∀ z : Int, z = q_shr a b → (-2147483648 ≤ z ∧ z ≤ 2147483647) → q_Y G E nL M L (pc + 1) (.int (q_I z) :: st)) : q_Y G E nL M L pc (.int (q_I b) :: .int (q_I a) :: st) := by
  obtain ⟨p, e, R, s, m, args, below, meth, c, Q⟩ := E
  obtain ⟨hx, hb, hml, hown, hts, hlk, hR, hK, hN, hI⟩ := F
  intro hM H locs ls hP hS hl
  refine lv_ishr hx hb d ?_
  rw [← q_it (q_I a >>> (q_I b &&& 31))]
  exact k _ rfl (q_rt _) hM H locs ls hP hS hl

theorem q_dup (F : q_F G E own Ts cc nL rm) {v : Value} (d : decode cc pc = .ok (.dup, 1)) (hv : v.category = 1) (k : q_Y G E nL M L (pc + 1) (v :: v :: st)) : q_Y G E nL M L pc (v :: st) := by
  obtain ⟨p, e, R, s, m, args, below, meth, c, Q⟩ := E
  obtain ⟨hx, hb, hml, hown, hts, hlk, hR, hK, hN, hI⟩ := F
  intro hM H locs ls hP hS hl
  exact lv_dup hx hb d hv (k hM H locs ls hP hS hl)

theorem q_dup2 (F : q_F G E own Ts cc nL rm) {v w : Value} (d : decode cc pc = .ok (.dup2, 1)) (hv : v.category = 1) (hw : w.category = 1) (k : q_Y G E nL M L (pc + 1) (v :: w :: v :: w :: st)) : q_Y G E nL M L pc (v :: w :: st) := by
  obtain ⟨p, e, R, s, m, args, below, meth, c, Q⟩ := E
  obtain ⟨hx, hb, hml, hown, hts, hlk, hR, hK, hN, hI⟩ := F
  intro hM H locs ls hP hS hl
  exact lv_dup2_11 hx hb d hv hw (k hM H locs ls hP hS hl)

theorem q_pop (F : q_F G E own Ts cc nL rm) {v : Value} (d : decode cc pc = .ok (.pop, 1)) (hv : v.category = 1) (k : q_Y G E nL M L (pc + 1) st) : q_Y G E nL M L pc (v :: st) := by
  obtain ⟨p, e, R, s, m, args, below, meth, c, Q⟩ := E
  obtain ⟨hx, hb, hml, hown, hts, hlk, hR, hK, hN, hI⟩ := F
  intro hM H locs ls hP hS hl
  exact lv_pop hx hb d hv (k hM H locs ls hP hS hl)

theorem q_goto (F : q_F G E own Ts cc nL rm) {off : Int} (tgt : Nat) (d : decode cc pc = .ok (.goto off, 3)) (ht : (pc : Int) + off = (tgt : Int)) (k : q_Y G E nL M L tgt st) : q_Y G E nL M L pc st := by
  obtain ⟨p, e, R, s, m, args, below, meth, c, Q⟩ := E
  obtain ⟨hx, hb, hml, hown, hts, hlk, hR, hK, hN, hI⟩ := F
  intro hM H locs ls hP hS hl
  exact lv_goto hx hb d ht (k hM H locs ls hP hS hl)

theorem q_if_eq (F : q_F G E own Ts cc nL rm) {a off : Int} (tgt : Nat) (d : decode cc pc = .ok (.ifCond .eq off, 3)) (ht : (pc : Int) + off = (tgt : Int)) (ha : (-2147483648 ≤ a ∧ a ≤ 2147483647)) (kt : a = 0 → q_Y G E nL M L tgt st) (kf : ¬ a = 0 → q_Y G E nL M L (pc + 3) st) : q_Y G E nL M L pc (.int (q_I a) :: st) := by
  obtain ⟨p, e, R, s, m, args, below, meth, c, Q⟩ := E
  obtain ⟨hx, hb, hml, hown, hts, hlk, hR, hK, hN, hI⟩ := F
  intro hM H locs ls hP hS hl
  refine lv_if_eq hx hb d ht (fun h => ?_) (fun h => ?_)
  · rw [q_Ieq0 ha] at h
    exact kt (by omega) hM H locs ls hP hS hl
  · rw [q_Ieq0 ha] at h
    exact kf (by omega) hM H locs ls hP hS hl

theorem q_if_ne (F : q_F G E own Ts cc nL rm) {a off : Int} (tgt : Nat) (d : decode cc pc = .ok (.ifCond .ne off, 3)) (ht : (pc : Int) + off = (tgt : Int)) (ha : (-2147483648 ≤ a ∧ a ≤ 2147483647)) (kt : ¬ a = 0 → q_Y G E nL M L tgt st) (kf : a = 0 → q_Y G E nL M L (pc + 3) st) : q_Y G E nL M L pc (.int (q_I a) :: st) := by
  obtain ⟨p, e, R, s, m, args, below, meth, c, Q⟩ := E
  obtain ⟨hx, hb, hml, hown, hts, hlk, hR, hK, hN, hI⟩ := F
  intro hM H locs ls hP hS hl
  refine lv_if_ne hx hb d ht (fun h => ?_) (fun h => ?_)
  · rw [q_Ieq0 ha] at h
    exact kt (by omega) hM H locs ls hP hS hl
  · rw [q_Ieq0 ha] at h
    exact kf (by omega) hM H locs ls hP hS hl

theorem q_if_lt (F : q_F G E own Ts cc nL rm) {a off : Int} (tgt : Nat) (d : decode cc pc = .ok (.ifCond .lt off, 3)) (ht : (pc : Int) + off = (tgt : Int)) (ha : (-2147483648 ≤ a ∧ a ≤ 2147483647)) (kt : a < 0 → q_Y G E nL M L tgt st) (kf : 0 ≤ a → q_Y G E nL M L (pc + 3) st) : q_Y G E nL M L pc (.int (q_I a) :: st) := by
  obtain ⟨p, e, R, s, m, args, below, meth, c, Q⟩ := E
  obtain ⟨hx, hb, hml, hown, hts, hlk, hR, hK, hN, hI⟩ := F
  intro hM H locs ls hP hS hl
  refine lv_if_lt hx hb d ht (fun h => ?_) (fun h => ?_)
  · rw [q_Ilt0 ha] at h
    exact kt (by omega) hM H locs ls hP hS hl
  · rw [q_Ilt0 ha] at h
    exact kf (by omega) hM H locs ls hP hS hl

theorem q_if_ge (F : q_F G E own Ts cc nL rm) {a off : Int} (tgt : Nat) (d : decode cc pc = .ok (.ifCond .ge off, 3)) (ht : (pc : Int) + off = (tgt : Int)) (ha : (-2147483648 ≤ a ∧ a ≤ 2147483647)) (kt : 0 ≤ a → q_Y G E nL M L tgt st) (kf : a < 0 → q_Y G E nL M L (pc + 3) st) : q_Y G E nL M L pc (.int (q_I a) :: st) := by
  obtain ⟨p, e, R, s, m, args, below, meth, c, Q⟩ := E
  obtain ⟨hx, hb, hml, hown, hts, hlk, hR, hK, hN, hI⟩ := F
  intro hM H locs ls hP hS hl
  refine lv_if_ge hx hb d ht (fun h => ?_) (fun h => ?_)
  · rw [q_I0le ha] at h
    exact kt (by omega) hM H locs ls hP hS hl
  · rw [q_I0le ha] at h
    exact kf (by omega) hM H locs ls hP hS hl

theorem q_if_gt (F : q_F G E own Ts cc nL rm) {a off : Int} (tgt : Nat) (d : decode cc pc = .ok (.ifCond .gt off, 3)) (ht : (pc : Int) + off = (tgt : Int)) (ha : (-2147483648 ≤ a ∧ a ≤ 2147483647)) (kt : 0 < a → q_Y G E nL M L tgt st) (kf : a ≤ 0 → q_Y G E nL M L (pc + 3) st) : q_Y G E nL M L pc (.int (q_I a) :: st) := by
  obtain ⟨p, e, R, s, m, args, below, meth, c, Q⟩ := E
  obtain ⟨hx, hb, hml, hown, hts, hlk, hR, hK, hN, hI⟩ := F
  intro hM H locs ls hP hS hl
  refine lv_if_gt hx hb d ht (fun h => ?_) (fun h => ?_)
  · rw [q_I0lt ha] at h
    exact kt (by omega) hM H locs ls hP hS hl
  · rw [q_I0lt ha] at h
    exact kf (by omega) hM H locs ls hP hS hl

theorem q_if_le (F : q_F G E own Ts cc nL rm) {a off : Int} (tgt : Nat) (d : decode cc pc = .ok (.ifCond .le off, 3)) (ht : (pc : Int) + off = (tgt : Int)) (ha : (-2147483648 ≤ a ∧ a ≤ 2147483647)) (kt : a ≤ 0 → q_Y G E nL M L tgt st) (kf : 0 < a → q_Y G E nL M L (pc + 3) st) : q_Y G E nL M L pc (.int (q_I a) :: st) := by
  obtain ⟨p, e, R, s, m, args, below, meth, c, Q⟩ := E
  obtain ⟨hx, hb, hml, hown, hts, hlk, hR, hK, hN, hI⟩ := F
  intro hM H locs ls hP hS hl
  refine lv_if_le hx hb d ht (fun h => ?_) (fun h => ?_)
  · rw [q_Ile0 ha] at h
    exact kt (by omega) hM H locs ls hP hS hl
  · rw [q_Ile0 ha] at h
    exact kf (by omega) hM H locs ls hP hS hl

theorem q_ifb_eq (F : q_F G E own Ts cc nL rm) {b : Bool} {off : Int} (tgt : Nat) (d : decode cc pc = .ok (.ifCond .eq off, 3)) (ht : (pc : Int) + off = (tgt : Int)) (kt : b = false → q_Y G E nL M L tgt st) (kf : b = true → q_Y G E nL M L (pc + 3) st) : q_Y G E nL M L pc (.int (q_I (q_b b)) :: st) := by
  obtain ⟨p, e, R, s, m, args, below, meth, c, Q⟩ := E
  obtain ⟨hx, hb, hml, hown, hts, hlk, hR, hK, hN, hI⟩ := F
  intro hM H locs ls hP hS hl
  refine lv_if_eq hx hb d ht (fun h => ?_) (fun h => ?_)
  · rw [q_Ieq0 (q_bR b), q_b0] at h
    exact kt h hM H locs ls hP hS hl
  · rw [q_Ieq0 (q_bR b), q_b0] at h
    exact kf (by simpa using h) hM H locs ls hP hS hl

theorem q_ifb_ne (F : q_F G E own Ts cc nL rm) {b : Bool} {off : Int} (tgt : Nat) (d : decode cc pc = .ok (.ifCond .ne off, 3)) (ht : (pc : Int) + off = (tgt : Int)) (kt : b = true → q_Y G E nL M L tgt st) (kf : b = false → q_Y G E nL M L (pc + 3) st) : q_Y G E nL M L pc (.int (q_I (q_b b)) :: st) := by
  obtain ⟨p, e, R, s, m, args, below, meth, c, Q⟩ := E
  obtain ⟨hx, hb, hml, hown, hts, hlk, hR, hK, hN, hI⟩ := F
  intro hM H locs ls hP hS hl
  refine lv_if_ne hx hb d ht (fun h => ?_) (fun h => ?_)
  · rw [q_Ieq0 (q_bR b), q_b0] at h
    exact kt (by simpa using h) hM H locs ls hP hS hl
  · rw [q_Ieq0 (q_bR b), q_b0] at h
    exact kf h hM H locs ls hP hS hl

theorem q_icmp_eq (F : q_F G E own Ts cc nL rm) {a b off : Int} (tgt : Nat) (d : decode cc pc = .ok (.if_icmp .eq off, 3)) (ht : (pc : Int) + off = (tgt : Int)) (hab : (-2147483648 ≤ a ∧ a ≤ 2147483647) ∧ (-2147483648 ≤ b ∧ b ≤ 2147483647)) (kt : a = b → q_Y G E nL M L tgt st) (kf : ¬ a = b → q_Y G E nL M L (pc + 3) st) : q_Y G E nL M L pc (.int (q_I b) :: .int (q_I a) :: st) := by
  obtain ⟨p, e, R, s, m, args, below, meth, c, Q⟩ := E
  obtain ⟨hx, hb, hml, hown, hts, hlk, hR, hK, hN, hI⟩ := F
  intro hM H locs ls hP hS hl
  obtain ⟨ha, hb2⟩ := hab
  refine lv_icmp_eq hx hb d ht (fun h => ?_) (fun h => ?_)
  · rw [q_Ieq ha hb2] at h
    exact kt (by omega) hM H locs ls hP hS hl
  · rw [q_Ieq ha hb2] at h
    exact kf (by omega) hM H locs ls hP hS hl

theorem q_icmp_ne (F : q_F G E own Ts cc nL rm) {a b off : Int} (tgt : Nat) (d : decode cc pc = .ok (.if_icmp .ne off, 3)) (ht : (pc : Int) + off = (tgt : Int)) (hab : (-2147483648 ≤ a ∧ a ≤ 2147483647) ∧ (-2147483648 ≤ b ∧ b ≤ 2147483647)) (kt : ¬ a = b → q_Y G E nL M L tgt st) (kf : a = b → q_Y G E nL M L (pc + 3) st) : q_Y G E nL M L pc (.int (q_I b) :: .int (q_I a) :: st) := by
  obtain ⟨p, e, R, s, m, args, below, meth, c, Q⟩ := E
  obtain ⟨hx, hb, hml, hown, hts, hlk, hR, hK, hN, hI⟩ := F
  intro hM H locs ls hP hS hl
  obtain ⟨ha, hb2⟩ := hab
  refine lv_icmp_ne hx hb d ht (fun h => ?_) (fun h => ?_)
  · rw [q_Ieq ha hb2] at h
    exact kt (by omega) hM H locs ls hP hS hl
  · rw [q_Ieq ha hb2] at h
    exact kf (by omega) hM H locs ls hP hS hl

theorem q_icmp_lt (F : q_F G E own Ts cc nL rm) {a b off : Int} (tgt : Nat) (d : decode cc pc = .ok (.if_icmp .lt off, 3)) (ht : (pc : Int) + off = (tgt : Int)) (hab : (-2147483648 ≤ a ∧ a ≤ 2147483647) ∧ (-2147483648 ≤ b ∧ b ≤ 2147483647)) (kt : a < b → q_Y G E nL M L tgt st) (kf : b ≤ a → q_Y G E nL M L (pc + 3) st) : q_Y G E nL M L pc (.int (q_I b) :: .int (q_I a) :: st) := by
  obtain ⟨p, e, R, s, m, args, below, meth, c, Q⟩ := E
  obtain ⟨hx, hb, hml, hown, hts, hlk, hR, hK, hN, hI⟩ := F
  intro hM H locs ls hP hS hl
  obtain ⟨ha, hb2⟩ := hab
  refine lv_icmp_lt hx hb d ht (fun h => ?_) (fun h => ?_)
  · rw [q_Ilt ha hb2] at h
    exact kt (by omega) hM H locs ls hP hS hl
  · rw [q_Ilt ha hb2] at h
    exact kf (by omega) hM H locs ls hP hS hl

theorem q_icmp_ge (F : q_F G E own Ts cc nL rm) {a b off : Int} (tgt : Nat) (d : decode cc pc = .ok (.if_icmp .ge off, 3)) (ht : (pc : Int) + off = (tgt : Int)) (hab : (-2147483648 ≤ a ∧ a ≤ 2147483647) ∧ (-2147483648 ≤ b ∧ b ≤ 2147483647)) (kt : b ≤ a → q_Y G E nL M L tgt st) (kf : a < b → q_Y G E nL M L (pc + 3) st) : q_Y G E nL M L pc (.int (q_I b) :: .int (q_I a) :: st) := by
  obtain ⟨p, e, R, s, m, args, below, meth, c, Q⟩ := E
  obtain ⟨hx, hb, hml, hown, hts, hlk, hR, hK, hN, hI⟩ := F
  intro hM H locs ls hP hS hl
  obtain ⟨ha, hb2⟩ := hab
  refine lv_icmp_ge hx hb d ht (fun h => ?_) (fun h => ?_)
  · rw [q_Ile hb2 ha] at h
    exact kt (by omega) hM H locs ls hP hS hl
  · rw [q_Ile hb2 ha] at h
    exact kf (by omega) hM H locs ls hP hS hl

theorem q_icmp_gt (F : q_F G E own Ts cc nL rm) {a b off : Int} (tgt : Nat) (d : decode cc pc = .ok (.if_icmp .gt off, 3)) (ht : (pc : Int) + off = (tgt : Int)) (hab : (-2147483648 ≤ a ∧ a ≤ 2147483647) ∧ (-2147483648 ≤ b ∧ b ≤ 2147483647)) (kt : b < a → q_Y G E nL M L tgt st) (kf : a ≤ b → q_Y G E nL M L (pc + 3) st) : q_Y G E nL M L pc (.int (q_I b) :: .int (q_I a) :: st) := by
  obtain ⟨p, e, R, s, m, args, below, meth, c, Q⟩ := E
  obtain ⟨hx, hb, hml, hown, hts, hlk, hR, hK, hN, hI⟩ := F
  intro hM H locs ls hP hS hl
  obtain ⟨ha, hb2⟩ := hab
  refine lv_icmp_gt hx hb d ht (fun h => ?_) (fun h => ?_)
  · rw [q_Ilt hb2 ha] at h
    exact kt (by omega) hM H locs ls hP hS hl
  · rw [q_Ilt hb2 ha] at h
    exact kf (by omega) hM H locs ls hP hS hl

theorem q_icmp_le (F : q_F G E own Ts cc nL rm) {a b off : Int} (tgt : Nat) (d : decode cc pc = .ok (.if_icmp .le off, 3)) (ht : (pc : Int) + off = (tgt : Int)) (hab : (-2147483648 ≤ a ∧ a ≤ 2147483647) ∧ (-2147483648 ≤ b ∧ b ≤ 2147483647)) (kt : a ≤ b → q_Y G E nL M L tgt st) (kf : b < a → q_Y G E nL M L (pc + 3) st) : q_Y G E nL M L pc (.int (q_I b) :: .int (q_I a) :: st) := by
  obtain ⟨p, e, R, s, m, args, below, meth, c, Q⟩ := E
  obtain ⟨hx, hb, hml, hown, hts, hlk, hR, hK, hN, hI⟩ := F
  intro hM H locs ls hP hS hl
  obtain ⟨ha, hb2⟩ := hab
  refine lv_icmp_le hx hb d ht (fun h => ?_) (fun h => ?_)
  · rw [q_Ile ha hb2] at h
    exact kt (by omega) hM H locs ls hP hS hl
  · rw [q_Ile ha hb2] at h
    exact kf (by omega) hM H locs ls hP hS hl

theorem q_tableIn (F : q_F G E own Ts cc nL rm) {dflt lo hi : Int} {offs : Array Int} {len : Nat} {a off : Int} (v : Int) (tgt : Nat) (d : decode cc pc = .ok (.tableswitch dflt lo hi offs, len)) (hv : a = v) (hr : (-2147483648 ≤ v ∧ v ≤ 2147483647) ∧ ¬ v < lo ∧ ¬ hi < v) (ho : offs[(v - lo).toNat]? = some off) (ht : (pc : Int) + off = (tgt : Int)) (k : q_Y G E nL M L tgt st) : q_Y G E nL M L pc (.int (q_I a) :: st) := by
  obtain ⟨p, e, R, s, m, args, below, meth, c, Q⟩ := E
  obtain ⟨hx, hb, hml, hown, hts, hlk, hR, hK, hN, hI⟩ := F
  intro hM H locs ls hP hS hl
  subst hv
  exact lv_tableIn hx hb d (by rw [q_ti hr.1]; exact hr.2.1) (by rw [q_ti hr.1]; exact hr.2.2) (by rw [q_ti hr.1]; exact ho) ht (k hM H locs ls hP hS hl)

theorem q_tableOut (F : q_F G E own Ts cc nL rm) {dflt lo hi : Int} {offs : Array Int} {len : Nat} {a : Int} (tgt : Nat) (d : decode cc pc = .ok (.tableswitch dflt lo hi offs, len)) (hr : (-2147483648 ≤ a ∧ a ≤ 2147483647) ∧ (a < lo ∨ hi < a)) (ht : (pc : Int) + dflt = (tgt : Int)) (k : q_Y G E nL M L tgt st) : q_Y G E nL M L pc (.int (q_I a) :: st) := by
  obtain ⟨p, e, R, s, m, args, below, meth, c, Q⟩ := E
  obtain ⟨hx, hb, hml, hown, hts, hlk, hR, hK, hN, hI⟩ := F
  intro hM H locs ls hP hS hl
  exact lv_tableOut hx hb d (by rw [q_ti hr.1]; exact hr.2) ht (k hM H locs ls hP hS hl)

theorem q_fs_set {G : q_G} {M : q_M} {k i : Nat} {v : Int} {fs : List (Option Nat)} (hf : fs[i]? = some none) : (fs.mapIdx fun j f => q_fv G M k j f).set i (.int (q_I v)) = fs.mapIdx fun j f => q_fv G (q_up M k i v) k j f := by
  apply List.ext_getElem?
  intro j
  by_cases hj : j = i
  · subst hj
    rw [List.getElem?_set_self', List.getElem?_mapIdx, List.getElem?_mapIdx, hf]
    simp [q_fv, q_up]
  · rw [List.getElem?_set_ne (fun z => hj z.symm), List.getElem?_mapIdx, List.getElem?_mapIdx]
    congr 1
    funext f
    have hj2 : ¬ (j : Int) = (i : Int) := by omega
    cases f <;> simp [q_fv, q_up, hj2]

theorem q_getr (F : q_F G E own Ts cc nL rm) {ref C : String} {T : u_T} {N ci index k : Nat} {fs : List (Option Nat)} (hu : ∀ w ∈ u_ws C T N, w ∈ Ts) (hc : vwCl[ci]? = some (C, T, N)) (hs : q_sh G k = some (.inr (ci, fs))) (i : Nat) (hi : i < N) (hln : Cond.fieldLink own index ref (T i).2.1 (T i).2.2.1 ∈ Ts) (href : (T i).1 = ref) {q : Nat} (hf : fs[i]? = some (some q)) (d : decode cc pc = .ok (.getfield index, 3)) (kk : q_Y G E nL M L (pc + 3) (.ref (q_ad G q) :: st)) : q_Y G E nL M L pc (.ref (q_ad G k) :: st) := by
  obtain ⟨p, e, R, s, m, args, below, meth, c, Q⟩ := E
  obtain ⟨hx, hb, hml, hown, hts, hlk, hR, hK, hN, hI⟩ := F
  intro hM H locs ls hP hS hl
  refine va_get (ci := ci) hx hb hts hu hown hK hP k (q_w_get hs) hc i hi (hts _ hln) (fun x h => by rw [href] at h; exact h) (v := .ref (q_ad G q)) ?_ d (kk hM H locs ls hP hS hl)
  rw [List.getElem?_mapIdx, hf]
  rfl

theorem q_geti (F : q_F G E own Ts cc nL rm) {ref C : String} {T : u_T} {N ci index k : Nat} {fs : List (Option Nat)} (hu : ∀ w ∈ u_ws C T N, w ∈ Ts) (hc : vwCl[ci]? = some (C, T, N)) (hs : q_sh G k = some (.inr (ci, fs))) (i : Nat) (hi : i < N) (hln : Cond.fieldLink own index ref (T i).2.1 (T i).2.2.1 ∈ Ts) (href : (T i).1 = ref) (ii : Int) (hii : ii = (i : Int)) (hf : fs[i]? = some none) (d : decode cc pc = .ok (.getfield index, 3)) (kk : (-2147483648 ≤ M k ii ∧ M k ii ≤ 2147483647) → q_Y G E nL M L (pc + 3) (.int (q_I (M k ii)) :: st)) : q_Y G E nL M L pc (.ref (q_ad G k) :: st) := by
  obtain ⟨p, e, R, s, m, args, below, meth, c, Q⟩ := E
  obtain ⟨hx, hb, hml, hown, hts, hlk, hR, hK, hN, hI⟩ := F
  intro hM H locs ls hP hS hl
  subst hii
  refine va_get (ci := ci) hx hb hts hu hown hK hP k (q_w_get hs) hc i hi (hts _ hln) (fun x h => by rw [href] at h; exact h) (v := .int (q_I (M k i))) ?_ d (kk (hM k i) hM H locs ls hP hS hl)
  rw [List.getElem?_mapIdx, hf]
  rfl

theorem q_puti (F : q_F G E own Ts cc nL rm) {ref C : String} {T : u_T} {N ci index k : Nat} {fs : List (Option Nat)} (hu : ∀ w ∈ u_ws C T N, w ∈ Ts) (hc : vwCl[ci]? = some (C, T, N)) (hs : q_sh G k = some (.inr (ci, fs))) (i : Nat) (hi : i < N) (hln : Cond.fieldLink own index ref (T i).2.1 (T i).2.2.1 ∈ Ts) (href : (T i).1 = ref) (ii : Int) (hii : ii = (i : Int)) (ty0 : Nat → FieldType) (hty : ∀ k, k < N → parseFieldDescriptor (T k).2.2.1 = some (ty0 k)) (hnm : ∀ a, a < N → ∀ b, b < N → a ≠ b → (T a).2.1 ≠ (T b).2.1) (hfin : (T i).2.2.2 = false) (hf : fs[i]? = some none) {v : Int} (hd : parseFieldDescriptor (T i).2.2.1 = some .int) (hv : (-2147483648 ≤ v ∧ v ≤ 2147483647)) (d : decode cc pc = .ok (.putfield index, 3)) (kk : ∀ M' : q_M, M' = q_up M k ii v → q_Y G E nL M' L (pc + 3) st) : q_Y G E nL M L pc (.int (q_I v) :: .ref (q_ad G k) :: st) := by
  obtain ⟨p, e, R, s, m, args, below, meth, c, Q⟩ := E
  obtain ⟨hx, hb, hml, hown, hts, hlk, hR, hK, hN, hI⟩ := F
  intro hM H locs ls hP hS hl
  subst hii
  have hlt : i < (fs.mapIdx fun i f => q_fv G M k i f).length := by
    have := (List.getElem?_eq_some_iff.mp hf).1
    simpa using this
  refine va_put (ci := ci) hx hb hts hu ty0 hty hnm hown hK hP (q_D hI s.heap.size M) hS k (q_w_get hs) hc i hi (hts _ hln) (fun x h => by rw [href] at h; exact h) hfin hd rfl rfl hlt d (fun H1 locs1 hP1 _ hS1 => ?_)
  rw [q_w_set (M' := q_up M k i v) hs (by rw [q_fs_set hf]; rfl) (fun j hj => q_up_ne hj)] at hP1
  exact kk _ rfl (q_up_R hM (by omega)) H1 locs1 ls hP1 hS1 hl

theorem q_putz (F : q_F G E own Ts cc nL rm) {ref C : String} {T : u_T} {N ci index k : Nat} {fs : List (Option Nat)} (hu : ∀ w ∈ u_ws C T N, w ∈ Ts) (hc : vwCl[ci]? = some (C, T, N)) (hs : q_sh G k = some (.inr (ci, fs))) (i : Nat) (hi : i < N) (hln : Cond.fieldLink own index ref (T i).2.1 (T i).2.2.1 ∈ Ts) (href : (T i).1 = ref) (ii : Int) (hii : ii = (i : Int)) (ty0 : Nat → FieldType) (hty : ∀ k, k < N → parseFieldDescriptor (T k).2.2.1 = some (ty0 k)) (hnm : ∀ a, a < N → ∀ b, b < N → a ≠ b → (T a).2.1 ≠ (T b).2.1) (hfin : (T i).2.2.2 = false) (hf : fs[i]? = some none) {v : Int} (hd : parseFieldDescriptor (T i).2.2.1 = some .boolean) (hv : (v = 0 ∨ v = 1)) (d : decode cc pc = .ok (.putfield index, 3)) (kk : ∀ M' : q_M, M' = q_up M k ii v → q_Y G E nL M' L (pc + 3) st) : q_Y G E nL M L pc (.int (q_I v) :: .ref (q_ad G k) :: st) := by
  obtain ⟨p, e, R, s, m, args, below, meth, c, Q⟩ := E
  obtain ⟨hx, hb, hml, hown, hts, hlk, hR, hK, hN, hI⟩ := F
  intro hM H locs ls hP hS hl
  subst hii
  have hlt : i < (fs.mapIdx fun i f => q_fv G M k i f).length := by
    have := (List.getElem?_eq_some_iff.mp hf).1
    simpa using this
  refine va_put (ci := ci) hx hb hts hu ty0 hty hnm hown hK hP (q_D hI s.heap.size M) hS k (q_w_get hs) hc i hi (hts _ hln) (fun x h => by rw [href] at h; exact h) hfin hd (by rcases hv with rfl | rfl <;> rfl) (by rcases hv with rfl | rfl <;> rfl) hlt d (fun H1 locs1 hP1 _ hS1 => ?_)
  rw [q_w_set (M' := q_up M k i v) hs (by rw [q_fs_set hf]; rfl) (fun j hj => q_up_ne hj)] at hP1
  exact kk _ rfl (q_up_R hM (by omega)) H1 locs1 ls hP1 hS1 hl

theorem q_alen (F : q_F G E own Ts cc nL rm) {k n : Nat} (nz : Int) (hs : q_sh G k = some (.inl (false, n))) (hnz : nz = (n : Int)) (d : decode cc pc = .ok (.arraylength, 1)) (kk : q_Y G E nL M L (pc + 1) (.int (q_I nz) :: st)) : q_Y G E nL M L pc (.ref (q_ad G k) :: st) := by
  obtain ⟨p, e, R, s, m, args, below, meth, c, Q⟩ := E
  obtain ⟨hx, hb, hml, hown, hts, hlk, hR, hK, hN, hI⟩ := F
  intro hM H locs ls hP hS hl
  refine va_alen hx hb hK hP k 0 (q_w_get hs) rfl ?_ d (kk hM H locs ls hP hS hl)
  rw [hnz]
  exact Int32.ofInt_eq_ofNat.symm

theorem q_iald (F : q_F G E own Ts cc nL rm) {k n : Nat} {i : Int} (hs : q_sh G k = some (.inl (false, n))) (hn : n ≤ 2147483647) (hi : 0 ≤ i ∧ i < (n : Int)) (d : decode cc pc = .ok (.iaload, 1)) (kk : (-2147483648 ≤ M k i ∧ M k i ≤ 2147483647) → q_Y G E nL M L (pc + 1) (.int (q_I (M k i)) :: st)) : q_Y G E nL M L pc (.int (q_I i) :: .ref (q_ad G k) :: st) := by
  obtain ⟨p, e, R, s, m, args, below, meth, c, Q⟩ := E
  obtain ⟨hx, hb, hml, hown, hts, hlk, hR, hK, hN, hI⟩ := F
  intro hM H locs ls hP hS hl
  refine va_iald hx hb hK hP k 0 (q_w_get hs) rfl (q_Iin hi.1 hi.2 hn) d ?_
  rw [q_Icl hi.1 (by omega)]
  exact kk (hM k i) hM H locs ls hP hS hl

theorem q_bald (F : q_F G E own Ts cc nL rm) {k n : Nat} {i : Int} (hs : q_sh G k = some (.inl (true, n))) (hn : n ≤ 2147483647) (hi : 0 ≤ i ∧ i < (n : Int)) (d : decode cc pc = .ok (.baload, 1)) (kk : (-2147483648 ≤ M k i ∧ M k i ≤ 2147483647) → q_Y G E nL M L (pc + 1) (.int (q_I (M k i)) :: st)) : q_Y G E nL M L pc (.int (q_I i) :: .ref (q_ad G k) :: st) := by
  obtain ⟨p, e, R, s, m, args, below, meth, c, Q⟩ := E
  obtain ⟨hx, hb, hml, hown, hts, hlk, hR, hK, hN, hI⟩ := F
  intro hM H locs ls hP hS hl
  refine va_zald hx hb hK hP k 1 (q_w_get hs) rfl (q_Iin hi.1 hi.2 hn) d ?_
  rw [q_Icl hi.1 (by omega)]
  exact kk (hM k i) hM H locs ls hP hS hl

theorem q_upd {M : q_M} {k : Nat} {i v : Int} (h0 : 0 ≤ i) (h1 : i ≤ 2147483647) : upd (fun j => q_I (M k j)) (q_I i).toNatClampNeg (q_I v) = fun j : Nat => q_I (q_up M k i v k j) := by
  funext j
  unfold upd
  rw [q_up_at]
  have h := q_Icl h0 h1
  by_cases hj : (j : Int) = i
  · rw [if_pos hj, if_pos (by omega)]
  · rw [if_neg hj, if_neg (by omega)]

theorem q_iast (F : q_F G E own Ts cc nL rm) {k n : Nat} {i v : Int} (hs : q_sh G k = some (.inl (false, n))) (hn : n ≤ 2147483647) (hi : 0 ≤ i ∧ i < (n : Int)) (hv : (-2147483648 ≤ v ∧ v ≤ 2147483647)) (d : decode cc pc = .ok (.iastore, 1)) (kk : ∀ M' : q_M, M' = q_up M k i v → q_Y G E nL M' L (pc + 1) st) : q_Y G E nL M L pc (.int (q_I v) :: .int (q_I i) :: .ref (q_ad G k) :: st) := by
  obtain ⟨p, e, R, s, m, args, below, meth, c, Q⟩ := E
  obtain ⟨hx, hb, hml, hown, hts, hlk, hR, hK, hN, hI⟩ := F
  intro hM H locs ls hP hS hl
  refine va_iast hx hb hK hP (q_D hI s.heap.size M) hS k 0 (q_w_get hs) rfl (q_Iin hi.1 hi.2 hn) d (fun H1 locs1 hP1 _ hS1 => ?_)
  rw [q_upd hi.1 (by omega)] at hP1
  refine kk _ rfl (q_up_R hM hv) H1 locs1 ls ?_ hS1 hl
  rw [← q_w_set (M' := q_up M k i v) hs rfl (fun j hj => q_up_ne hj)]
  exact hP1

theorem q_bast (F : q_F G E own Ts cc nL rm) {k n : Nat} {i v : Int} (hs : q_sh G k = some (.inl (true, n))) (hn : n ≤ 2147483647) (hi : 0 ≤ i ∧ i < (n : Int)) (hv : v = 0 ∨ v = 1) (d : decode cc pc = .ok (.bastore, 1)) (kk : ∀ M' : q_M, M' = q_up M k i v → q_Y G E nL M' L (pc + 1) st) : q_Y G E nL M L pc (.int (q_I v) :: .int (q_I i) :: .ref (q_ad G k) :: st) := by
  obtain ⟨p, e, R, s, m, args, below, meth, c, Q⟩ := E
  obtain ⟨hx, hb, hml, hown, hts, hlk, hR, hK, hN, hI⟩ := F
  intro hM H locs ls hP hS hl
  refine va_zast hx hb hK hP (q_D hI s.heap.size M) hS k 1 (q_w_get hs) rfl (q_Iin hi.1 hi.2 hn) d (fun H1 locs1 hP1 _ hS1 => ?_)
  rw [show vp_nar .boolean (q_I v) = q_I v by rcases hv with rfl | rfl <;> rfl, q_upd hi.1 (by omega)] at hP1
  refine kk _ rfl (q_up_R hM (by omega)) H1 locs1 ls ?_ hS1 hl
  rw [← q_w_set (M' := q_up M k i v) hs rfl (fun j hj => q_up_ne hj)]
  exact hP1

def q_cp (M : q_M) (k0 k1 : Nat) (n : Int) : q_M := fun k => if k = k1 then fun i => if 0 ≤ i ∧ i < n then M k0 i else M k1 i else M k
theorem q_cp_ne {M : q_M} {k0 k1 k : Nat} {n : Int} (h : k ≠ k1) : q_cp M k0 k1 n k = M k := by simp [q_cp, h]
theorem q_cp_at {M : q_M} {k0 k1 : Nat} {n i : Int} : q_cp M k0 k1 n k1 i = if 0 ≤ i ∧ i < n then M k0 i else M k1 i := by simp [q_cp]

theorem q_copy (F : q_F G E own Ts cc nL rm) {index k0 k1 n0 n1 : Nat} {n : Int} (hs0 : q_sh G k0 = some (.inl (false, n0))) (hs1 : q_sh G k1 = some (.inl (false, n1))) (hn : (n0 ≤ 2147483647 ∧ n1 ≤ 2147483647) ∧ 0 ≤ n ∧ n ≤ (n0 : Int) ∧ n ≤ (n1 : Int)) (hl1 : Cond.methodLink own index arraycopyName ∈ Ts) (hl2 : Cond.native arraycopyName ∈ Ts) (hl3 : Cond.static arraycopyName ∈ Ts) (hl4 : Cond.initialized "java/lang/System" ∈ Ts) (hrm : 1 ≤ rm.frames ∧ (st.map fun v => v.category).sum + 18 ≤ rm.locals) (d : decode cc pc = .ok (.invokestatic index, 3)) (kk : ∀ M' : q_M, M' = q_cp M k0 k1 n → q_Y G E nL M' L (pc + 3) st) : q_Y G E nL M L pc (.int (q_I n) :: .int (q_I 0) :: .ref (q_ad G k1) :: .int (q_I 0) :: .ref (q_ad G k0) :: st) := by
  obtain ⟨p, e, R, s, m, args, below, meth, c, Q⟩ := E
  obtain ⟨hx, hb, hml, hown, hts, hlk, hR, hK, hN, hI⟩ := F
  intro hM H locs ls hP hS hl
  subst hR
  have hcl : (((q_I n).toNatClampNeg : Nat) : Int) = n := q_Icl hn.2.1 (by omega)
  have h0 : (q_I 0).toNatClampNeg = 0 := rfl
  refine va_copyi hx hb (by rw [hml]; exact hl.1.symm) hown (hts _ hl1) (hts _ hl2) (hts _ hl3) (hts _ hl4) hK hP (q_D hI s.heap.size M) hS k0 k1 0 0 (q_w_get hs0) (q_w_get hs1) rfl rfl rfl (by decide) (by decide) (by rw [q_Ilt0 (by omega)]; omega) (by rw [h0]; omega) (by rw [h0]; omega) (fun _ _ => rfl) hrm.1 hrm.2 d (fun H1 locs1 hP1 _ hS1 => ?_)
  rw [q_w_set (M' := q_cp M k0 k1 n) hs1 ?_ (fun j hj => q_cp_ne hj)] at hP1
  · refine kk _ rfl ?_ H1 locs1 ls hP1 hS1 hl
    intro k i
    unfold q_cp
    by_cases hk : k = k1
    · simp only [hk, if_true]
      split
      · exact hM k0 i
      · exact hM k1 i
    · simp only [hk, if_false]
      exact hM k i
  · unfold q_ce
    congr 3
    have hf : (va_cpy (fun j : Nat => q_I (M k0 j)) (fun j : Nat => q_I (M k1 j)) (q_I 0).toNatClampNeg (q_I 0).toNatClampNeg (q_I n).toNatClampNeg) = fun j : Nat => q_I (q_cp M k0 k1 n k1 j) := by
      funext j
      rw [q_cp_at, h0]
      unfold va_cpy
      by_cases hj : (j : Int) < n
      · rw [if_pos (by omega), if_pos (by omega)]
        congr 2
        omega
      · rw [if_neg (by omega), if_neg (by omega)]
    rw [hf]

theorem q_mmax (F : q_F G E own Ts cc nL rm) {index : Nat} {a b : Int} (hab : (-2147483648 ≤ a ∧ a ≤ 2147483647) ∧ (-2147483648 ≤ b ∧ b ≤ 2147483647)) (hl1 : Cond.methodLink own index Lib.Math.max.name ∈ Ts) (hl2 : Cond.static Lib.Math.max.name ∈ Ts) (hl3 : Cond.initialized "java/lang/Math" ∈ Ts) (hl4 : Cond.code Lib.Math.max.name Lib.Math.max.code 2 (some .int) ∈ Ts) (hrm : 1 ≤ rm.frames ∧ (st.map fun v => v.category).sum + 13 ≤ rm.locals) (d : decode cc pc = .ok (.invokestatic index, 3)) (kk : q_Y G E nL M L (pc + 3) (.int (q_I (max a b)) :: st)) : q_Y G E nL M L pc (.int (q_I b) :: .int (q_I a) :: st) := by
  obtain ⟨p, e, R, s, m, args, below, meth, c, Q⟩ := E
  obtain ⟨hx, hb, hml, hown, hts, hlk, hR, hK, hN, hI⟩ := F
  intro hM H locs ls hP hS hl
  subst hR
  refine va_mmax hx hb (by rw [hml]; exact hl.1.symm) hown (hts _ hl1) (hts _ hl2) (hts _ hl3) (hts _ hl4) hrm.1 hrm.2 (Nat.zero_le _) (Nat.zero_le _) d ?_
  have h : (if q_I a < q_I b then q_I b else q_I a) = q_I (max a b) := by
    by_cases h : a < b
    · rw [if_pos (by rw [q_Ilt hab.1 hab.2]; exact h)]
      congr 1
      omega
    · rw [if_neg (by rw [q_Ilt hab.1 hab.2]; exact h)]
      congr 1
      omega
  rw [h]
  exact kk hM H locs ls hP hS hl

theorem q_mmin (F : q_F G E own Ts cc nL rm) {index : Nat} {a b : Int} (hab : (-2147483648 ≤ a ∧ a ≤ 2147483647) ∧ (-2147483648 ≤ b ∧ b ≤ 2147483647)) (hl1 : Cond.methodLink own index Lib.Math.min.name ∈ Ts) (hl2 : Cond.static Lib.Math.min.name ∈ Ts) (hl3 : Cond.initialized "java/lang/Math" ∈ Ts) (hl4 : Cond.code Lib.Math.min.name Lib.Math.min.code 2 (some .int) ∈ Ts) (hrm : 1 ≤ rm.frames ∧ (st.map fun v => v.category).sum + 13 ≤ rm.locals) (d : decode cc pc = .ok (.invokestatic index, 3)) (kk : q_Y G E nL M L (pc + 3) (.int (q_I (min a b)) :: st)) : q_Y G E nL M L pc (.int (q_I b) :: .int (q_I a) :: st) := by
  obtain ⟨p, e, R, s, m, args, below, meth, c, Q⟩ := E
  obtain ⟨hx, hb, hml, hown, hts, hlk, hR, hK, hN, hI⟩ := F
  intro hM H locs ls hP hS hl
  subst hR
  refine va_mmin hx hb (by rw [hml]; exact hl.1.symm) hown (hts _ hl1) (hts _ hl2) (hts _ hl3) (hts _ hl4) hrm.1 hrm.2 (Nat.zero_le _) (Nat.zero_le _) d ?_
  have h : (if q_I b < q_I a then q_I b else q_I a) = q_I (min a b) := by
    by_cases h : b < a
    · rw [if_pos (by rw [q_Ilt hab.2 hab.1]; exact h)]
      congr 1
      omega
    · rw [if_neg (by rw [q_Ilt hab.2 hab.1]; exact h)]
      congr 1
      omega
  rw [h]
  exact kk hM H locs ls hP hS hl

theorem q_iret (F : q_F G E own Ts cc nL rm) {post : Int → q_M → Prop} (FI : q_FI G E .int post) {z : Int} (d : decode cc pc = .ok (.ireturn, 1)) (hz : (-2147483648 ≤ z ∧ z ≤ 2147483647)) (hp : post z M) : q_Y G E nL M L pc [.int (q_I z)] := by
  obtain ⟨p, e, R, s, m, args, below, meth, c, Q⟩ := E
  obtain ⟨hx, hb, hml, hown, hts, hlk, hR, hK, hN, hI⟩ := F
  intro hM H locs ls hP hS hl
  obtain ⟨hr, rfl⟩ := FI
  exact W.iret hx hb hr (fun t ht hW => ⟨⟨q_I z, M, rfl, ⟨z, rfl, hz, hp⟩, hM, by rw [ht]; exact hP⟩, hS.F ht⟩) hS.2.2 d hlk

theorem q_zret (F : q_F G E own Ts cc nL rm) {post : Int → q_M → Prop} (FI : q_FI G E .boolean post) {z : Int} (d : decode cc pc = .ok (.ireturn, 1)) (hz : z = 0 ∨ z = 1) (hp : post z M) : q_Y G E nL M L pc [.int (q_I z)] := by
  obtain ⟨p, e, R, s, m, args, below, meth, c, Q⟩ := E
  obtain ⟨hx, hb, hml, hown, hts, hlk, hR, hK, hN, hI⟩ := F
  intro hM H locs ls hP hS hl
  obtain ⟨hr, rfl⟩ := FI
  exact W.zret hx hb hr (by rcases hz with rfl | rfl <;> rfl) (fun t ht hW => ⟨⟨q_I z, M, rfl, ⟨z, rfl, by omega, hp⟩, hM, by rw [ht]; exact hP⟩, hS.F ht⟩) hS.2.2 d hlk

theorem q_vret (F : q_F G E own Ts cc nL rm) {post : q_M → Prop} (FV : q_FV G E post) (d : decode cc pc = .ok (.return_, 1)) (hp : post M) : q_Y G E nL M L pc [] := by
  obtain ⟨p, e, R, s, m, args, below, meth, c, Q⟩ := E
  obtain ⟨hx, hb, hml, hown, hts, hlk, hR, hK, hN, hI⟩ := F
  intro hM H locs ls hP hS hl
  obtain ⟨hr, rfl⟩ := FV
  exact W.vret hx hb hr (fun t ht hW => ⟨⟨M, rfl, hp, hM, by rw [ht]; exact hP⟩, hS.F ht⟩) hS.2.2 d hlk

theorem q_lret (F : q_F G E own Ts cc nL rm) {post : Int64 → q_M → Prop} (FL : q_FL G E post) {z : Int64} (d : decode cc pc = .ok (.lreturn, 1)) (hp : post z M) : q_Y G E nL M L pc [.long z] := by
  obtain ⟨p, e, R, s, m, args, below, meth, c, Q⟩ := E
  obtain ⟨hx, hb, hml, hown, hts, hlk, hR, hK, hN, hI⟩ := F
  intro hM H locs ls hP hS hl
  obtain ⟨hr, rfl⟩ := FL
  exact W.lret hx hb hr (fun t ht hW => ⟨⟨z, M, rfl, hp, hM, by rw [ht]; exact hP⟩, hS.F ht⟩) hS.2.2 d hlk

theorem q_aret (F : q_F G E own Ts cc nL rm) {ret : FieldType} {k : Nat} {post : q_M → Prop} (FA : q_FA G E ret k post) (hrt : (∃ n, ret = .object n) ∨ ∃ t, ret = .array t) (d : decode cc pc = .ok (.areturn, 1)) (hp : post M) : q_Y G E nL M L pc [.ref (q_ad G k)] := by
  obtain ⟨p, e, R, s, m, args, below, meth, c, Q⟩ := E
  obtain ⟨hx, hb, hml, hown, hts, hlk, hR, hK, hN, hI⟩ := F
  intro hM H locs ls hP hS hl
  obtain ⟨hr, rfl⟩ := FA
  exact W.aret hx hb hr hrt (Or.inr ⟨_, rfl⟩) (fun t ht hW => ⟨⟨M, q_ad G k, rfl, hp, rfl, hM, by rw [ht]; exact hP⟩, hS.F ht⟩) hS.2.2 d hlk

theorem q_NW_alike {s U : State} (hW : s.WarmedH U.vm) (h : q_NW s) : q_NW U := fun q hq => va_Nw.warmM hW (h q hq)
theorem q_blind {sz : Nat} {av : List Value} : FrameBlind (va_Pc av (q_pre G sz M)) := by
  intro a U g mk h
  obtain ⟨h0, h1, h2, h3, h4, h5⟩ := h
  exact ⟨h0, h1, h2, h3, va_K.moved (u := U) (U := U.calling g mk a) (Vm.Alike.refl U.vm) h4, fun q hq => va_Nw.same rfl (u := U) rfl (h5 q hq)⟩
theorem q_A_mono {a b q : Nat} (h : a ≤ b) (hq : q_A G b q) : q_A G a q := hq.elim Or.inl (fun h2 => Or.inr (Nat.le_trans h h2))

theorem q_callSI (F : q_F G E own Ts cc nL rm) {y : MethodName} {ws ws' : List Cond} {rmc : Room} {As rest : List Value} {bytes : ByteArray} {maxL index n : Nat} {ret : Option FieldType} {post : Int → q_M → Prop} (C : q_CI G y ws rmc As M post) (hw : ws = Cond.code y bytes maxL ret :: ws') (hG : GoodIn Ts (va_wsS own index y ws)) (hd : y.cls ≠ "java/lang/invoke/MethodHandle" ∧ y.cls ≠ "java/lang/invoke/VarHandle" ∧ (parseMethodDescriptor y.desc).map (fun d => d.parameters.length) = some n) (hn : As.length = n) (hrm : rmc.cells = 0 ∧ rmc.slots = 0 ∧ rmc.frames + 1 ≤ rm.frames ∧ 8 + (maxL + 11) + rmc.locals ≤ rm.locals) (hst : st = As.reverse ++ rest) (hW : (rest.map fun v => v.category).sum ≤ 8) (d : decode cc pc = .ok (.invokestatic index, 3)) (k : ∀ (z : Int) (M' : q_M), (-2147483648 ≤ z ∧ z ≤ 2147483647) → post z M' → q_Y G E nL M' L (pc + 3) (.int (q_I z) :: rest)) : q_Y G E nL M L pc st := by
  obtain ⟨p, e, R, s, m, args, below, meth, c, Q⟩ := E
  obtain ⟨hx, hb, hml, hown, hts, hlk, hR, hK, hN, hI⟩ := F
  intro hM H locs ls hP hS hl
  subst hR; subst hst
  refine va_calli (va_runS (As := As) (rest := rest) ⟨hx, hb, hml, hown, hts⟩ (C H.size) (va_cwS n hts hG hw hrm.1 hrm.2.1 hd ⟨hrm.2.2.1, hrm.2.2.2⟩) ⟨q_blind, fun U hU hW => ⟨rfl, by rw [hU], hM, by rw [hU]; exact hP, va_K.moved hW.alike hK, q_NW_alike hW hN⟩⟩ rfl hn hl.1 rfl (lv_room hW) d ⟨Nat.zero_le _, Nat.zero_le _⟩) hS (fun q _ h => q_A_mono hS.1 h) (fun q h => q_A_mono hS.1 h) (fun r u t H1 locs1 ht hvm hw hB hz1 hk1 hS1 => ?_)
  obtain ⟨z, rfl, hz, hp⟩ := hw
  exact k z u hz hp hB.1 H1 locs1 ls (by rw [← ht]; exact hB.2) hS1 hl

theorem q_callNI (F : q_F G E own Ts cc nL rm) {host : String} {y : MethodName} {ws ws' : List Cond} {rmc : Room} {As rest : List Value} {bytes : ByteArray} {maxL index n : Nat} {ret : Option FieldType} {post : Int → q_M → Prop} (C : q_CI G y ws rmc As M post) (hw : ws = Cond.code y bytes maxL ret :: ws') (hG : GoodIn Ts ws) (hnest : (own, index, y, host) ∈ q_nest) (hini : Cond.initialized y.cls ∈ Ts) (hsta : Cond.static y ∈ Ts) (hd : y.cls ≠ "java/lang/invoke/MethodHandle" ∧ y.cls ≠ "java/lang/invoke/VarHandle" ∧ (parseMethodDescriptor y.desc).map (fun d => d.parameters.length) = some n) (hn : As.length = n) (hrm : rmc.cells = 0 ∧ rmc.slots = 0 ∧ rmc.frames + 1 ≤ rm.frames ∧ 8 + (maxL + 11) + rmc.locals ≤ rm.locals) (hst : st = As.reverse ++ rest) (hW : (rest.map fun v => v.category).sum ≤ 8) (d : decode cc pc = .ok (.invokestatic index, 3)) (k : ∀ (z : Int) (M' : q_M), (-2147483648 ≤ z ∧ z ≤ 2147483647) → post z M' → q_Y G E nL M' L (pc + 3) (.int (q_I z) :: rest)) : q_Y G E nL M L pc st := by
  obtain ⟨p, e, R, s, m, args, below, meth, c, Q⟩ := E
  obtain ⟨hx, hb, hml, hown, hts, hlk, hR, hK, hN, hI⟩ := F
  intro hM H locs ls hP hS hl
  subst hR; subst hst
  refine va_calli (va_runSN (As := As) (rest := rest) ⟨hx, hb, hml, hown, hts⟩ (C H.size) ⟨va_cnB n hts hG hw hrm.1 hrm.2.1 (hN _ hnest) (hts _ hini) hd ⟨hrm.2.2.1, hrm.2.2.2⟩, hts _ hsta, trivial⟩ ⟨q_blind, fun U hU hW => ⟨rfl, by rw [hU], hM, by rw [hU]; exact hP, va_K.moved hW.alike hK, q_NW_alike hW hN⟩⟩ rfl hn hl.1 rfl (lv_room hW) d ⟨Nat.zero_le _, Nat.zero_le _⟩) hS (fun q _ h => q_A_mono hS.1 h) (fun q h => q_A_mono hS.1 h) (fun r u t H1 locs1 ht hvm hw hB hz1 hk1 hS1 => ?_)
  obtain ⟨z, rfl, hz, hp⟩ := hw
  exact k z u hz hp hB.1 H1 locs1 ls (by rw [← ht]; exact hB.2) hS1 hl

theorem q_callVI (F : q_F G E own Ts cc nL rm) {Cn : String} {T : u_T} {N ci : Nat} {kb : Nat} {fs : List (Option Nat)} {y : MethodName} {ws ws' : List Cond} {rmc : Room} {As rest : List Value} {bytes : ByteArray} {maxL index n : Nat} {ret : Option FieldType} {post : Int → q_M → Prop} (C : q_CI G y ws rmc (.ref (q_ad G kb) :: As) M post) (hw : ws = Cond.code y bytes maxL ret :: ws') (hc : vwCl[ci]? = some (Cn, T, N)) (hs : q_sh G kb = some (.inr (ci, fs))) (hG : GoodIn Ts (wsV own index Cn y ws)) (hcn : y.cls = Cn) (hd : y.cls ≠ "java/lang/invoke/MethodHandle" ∧ y.cls ≠ "java/lang/invoke/VarHandle" ∧ (parseMethodDescriptor y.desc).map (fun d => d.parameters.length) = some n) (hn : As.length = n) (hrm : rmc.cells = 0 ∧ rmc.slots = 0 ∧ rmc.frames + 1 ≤ rm.frames ∧ 8 + (maxL + 11) + rmc.locals ≤ rm.locals) (hst : st = As.reverse ++ .ref (q_ad G kb) :: rest) (hW : (rest.map fun v => v.category).sum ≤ 8) (d : decode cc pc = .ok (.invokevirtual index, 3)) (k : ∀ (z : Int) (M' : q_M), (-2147483648 ≤ z ∧ z ≤ 2147483647) → post z M' → q_Y G E nL M' L (pc + 3) (.int (q_I z) :: rest)) : q_Y G E nL M L pc st := by
  obtain ⟨p, e, R, s, m, args, below, meth, c, Q⟩ := E
  obtain ⟨hx, hb, hml, hown, hts, hlk, hR, hK, hN, hI⟩ := F
  intro hM H locs ls hP hS hl
  subst hR; subst hst
  refine va_calli (va_runV (As := As) (rest := rest) ⟨hx, hb, hml, hown, hts⟩ (C H.size) (cwV n hts hG hw hrm.1 hrm.2.1 ⟨hcn, hd⟩ ⟨hrm.2.2.1, hrm.2.2.2⟩) ⟨q_blind, va_recv hK hP hc (q_w_get hs), fun U hU hW => ⟨rfl, by rw [hU], hM, by rw [hU]; exact hP, va_K.moved hW.alike hK, q_NW_alike hW hN⟩⟩ rfl hn hl.1 rfl (lv_room hW) d ⟨Nat.zero_le _, Nat.zero_le _⟩) hS (fun q _ h => q_A_mono hS.1 h) (fun q h => q_A_mono hS.1 h) (fun r u t H1 locs1 ht hvm hw hB hz1 hk1 hS1 => ?_)
  obtain ⟨z, rfl, hz, hp⟩ := hw
  exact k z u hz hp hB.1 H1 locs1 ls (by rw [← ht]; exact hB.2) hS1 hl

theorem q_callSV (F : q_F G E own Ts cc nL rm) {y : MethodName} {ws ws' : List Cond} {rmc : Room} {As rest : List Value} {bytes : ByteArray} {maxL index n : Nat} {ret : Option FieldType} {post : q_M → Prop} (C : q_CV G y ws rmc As M post) (hw : ws = Cond.code y bytes maxL ret :: ws') (hG : GoodIn Ts (va_wsS own index y ws)) (hd : y.cls ≠ "java/lang/invoke/MethodHandle" ∧ y.cls ≠ "java/lang/invoke/VarHandle" ∧ (parseMethodDescriptor y.desc).map (fun d => d.parameters.length) = some n) (hn : As.length = n) (hrm : rmc.cells = 0 ∧ rmc.slots = 0 ∧ rmc.frames + 1 ≤ rm.frames ∧ 8 + (maxL + 11) + rmc.locals ≤ rm.locals) (hst : st = As.reverse ++ rest) (hW : (rest.map fun v => v.category).sum ≤ 8) (d : decode cc pc = .ok (.invokestatic index, 3)) (k : ∀ (M' : q_M), post M' → q_Y G E nL M' L (pc + 3) rest) : q_Y G E nL M L pc st := by
  obtain ⟨p, e, R, s, m, args, below, meth, c, Q⟩ := E
  obtain ⟨hx, hb, hml, hown, hts, hlk, hR, hK, hN, hI⟩ := F
  intro hM H locs ls hP hS hl
  subst hR; subst hst
  refine va_callv (va_runS (As := As) (rest := rest) ⟨hx, hb, hml, hown, hts⟩ (C H.size) (va_cwS n hts hG hw hrm.1 hrm.2.1 hd ⟨hrm.2.2.1, hrm.2.2.2⟩) ⟨q_blind, fun U hU hW => ⟨rfl, by rw [hU], hM, by rw [hU]; exact hP, va_K.moved hW.alike hK, q_NW_alike hW hN⟩⟩ rfl hn hl.1 rfl (lv_room hW) d ⟨Nat.zero_le _, Nat.zero_le _⟩) hS (fun q _ h => q_A_mono hS.1 h) (fun q h => q_A_mono hS.1 h) (fun u t H1 locs1 ht hvm hw hB hz1 hk1 hS1 => ?_)
  exact k u hw hB.1 H1 locs1 ls (by rw [← ht]; exact hB.2) hS1 hl

theorem q_callNV (F : q_F G E own Ts cc nL rm) {host : String} {y : MethodName} {ws ws' : List Cond} {rmc : Room} {As rest : List Value} {bytes : ByteArray} {maxL index n : Nat} {ret : Option FieldType} {post : q_M → Prop} (C : q_CV G y ws rmc As M post) (hw : ws = Cond.code y bytes maxL ret :: ws') (hG : GoodIn Ts ws) (hnest : (own, index, y, host) ∈ q_nest) (hini : Cond.initialized y.cls ∈ Ts) (hsta : Cond.static y ∈ Ts) (hd : y.cls ≠ "java/lang/invoke/MethodHandle" ∧ y.cls ≠ "java/lang/invoke/VarHandle" ∧ (parseMethodDescriptor y.desc).map (fun d => d.parameters.length) = some n) (hn : As.length = n) (hrm : rmc.cells = 0 ∧ rmc.slots = 0 ∧ rmc.frames + 1 ≤ rm.frames ∧ 8 + (maxL + 11) + rmc.locals ≤ rm.locals) (hst : st = As.reverse ++ rest) (hW : (rest.map fun v => v.category).sum ≤ 8) (d : decode cc pc = .ok (.invokestatic index, 3)) (k : ∀ (M' : q_M), post M' → q_Y G E nL M' L (pc + 3) rest) : q_Y G E nL M L pc st := by
  obtain ⟨p, e, R, s, m, args, below, meth, c, Q⟩ := E
  obtain ⟨hx, hb, hml, hown, hts, hlk, hR, hK, hN, hI⟩ := F
  intro hM H locs ls hP hS hl
  subst hR; subst hst
  refine va_callv (va_runSN (As := As) (rest := rest) ⟨hx, hb, hml, hown, hts⟩ (C H.size) ⟨va_cnB n hts hG hw hrm.1 hrm.2.1 (hN _ hnest) (hts _ hini) hd ⟨hrm.2.2.1, hrm.2.2.2⟩, hts _ hsta, trivial⟩ ⟨q_blind, fun U hU hW => ⟨rfl, by rw [hU], hM, by rw [hU]; exact hP, va_K.moved hW.alike hK, q_NW_alike hW hN⟩⟩ rfl hn hl.1 rfl (lv_room hW) d ⟨Nat.zero_le _, Nat.zero_le _⟩) hS (fun q _ h => q_A_mono hS.1 h) (fun q h => q_A_mono hS.1 h) (fun u t H1 locs1 ht hvm hw hB hz1 hk1 hS1 => ?_)
  exact k u hw hB.1 H1 locs1 ls (by rw [← ht]; exact hB.2) hS1 hl

theorem q_callVV (F : q_F G E own Ts cc nL rm) {Cn : String} {T : u_T} {N ci : Nat} {kb : Nat} {fs : List (Option Nat)} {y : MethodName} {ws ws' : List Cond} {rmc : Room} {As rest : List Value} {bytes : ByteArray} {maxL index n : Nat} {ret : Option FieldType} {post : q_M → Prop} (C : q_CV G y ws rmc (.ref (q_ad G kb) :: As) M post) (hw : ws = Cond.code y bytes maxL ret :: ws') (hc : vwCl[ci]? = some (Cn, T, N)) (hs : q_sh G kb = some (.inr (ci, fs))) (hG : GoodIn Ts (wsV own index Cn y ws)) (hcn : y.cls = Cn) (hd : y.cls ≠ "java/lang/invoke/MethodHandle" ∧ y.cls ≠ "java/lang/invoke/VarHandle" ∧ (parseMethodDescriptor y.desc).map (fun d => d.parameters.length) = some n) (hn : As.length = n) (hrm : rmc.cells = 0 ∧ rmc.slots = 0 ∧ rmc.frames + 1 ≤ rm.frames ∧ 8 + (maxL + 11) + rmc.locals ≤ rm.locals) (hst : st = As.reverse ++ .ref (q_ad G kb) :: rest) (hW : (rest.map fun v => v.category).sum ≤ 8) (d : decode cc pc = .ok (.invokevirtual index, 3)) (k : ∀ (M' : q_M), post M' → q_Y G E nL M' L (pc + 3) rest) : q_Y G E nL M L pc st := by
  obtain ⟨p, e, R, s, m, args, below, meth, c, Q⟩ := E
  obtain ⟨hx, hb, hml, hown, hts, hlk, hR, hK, hN, hI⟩ := F
  intro hM H locs ls hP hS hl
  subst hR; subst hst
  refine va_callv (va_runV (As := As) (rest := rest) ⟨hx, hb, hml, hown, hts⟩ (C H.size) (cwV n hts hG hw hrm.1 hrm.2.1 ⟨hcn, hd⟩ ⟨hrm.2.2.1, hrm.2.2.2⟩) ⟨q_blind, va_recv hK hP hc (q_w_get hs), fun U hU hW => ⟨rfl, by rw [hU], hM, by rw [hU]; exact hP, va_K.moved hW.alike hK, q_NW_alike hW hN⟩⟩ rfl hn hl.1 rfl (lv_room hW) d ⟨Nat.zero_le _, Nat.zero_le _⟩) hS (fun q _ h => q_A_mono hS.1 h) (fun q h => q_A_mono hS.1 h) (fun u t H1 locs1 ht hvm hw hB hz1 hk1 hS1 => ?_)
  exact k u hw hB.1 H1 locs1 ls (by rw [← ht]; exact hB.2) hS1 hl

theorem q_callSL (F : q_F G E own Ts cc nL rm) {y : MethodName} {ws ws' : List Cond} {rmc : Room} {As rest : List Value} {bytes : ByteArray} {maxL index n : Nat} {ret : Option FieldType} {post : Int64 → q_M → Prop} (C : q_CL G y ws rmc As M post) (hw : ws = Cond.code y bytes maxL ret :: ws') (hG : GoodIn Ts (va_wsS own index y ws)) (hd : y.cls ≠ "java/lang/invoke/MethodHandle" ∧ y.cls ≠ "java/lang/invoke/VarHandle" ∧ (parseMethodDescriptor y.desc).map (fun d => d.parameters.length) = some n) (hn : As.length = n) (hrm : rmc.cells = 0 ∧ rmc.slots = 0 ∧ rmc.frames + 1 ≤ rm.frames ∧ 8 + (maxL + 11) + rmc.locals ≤ rm.locals) (hst : st = As.reverse ++ rest) (hW : (rest.map fun v => v.category).sum ≤ 8) (d : decode cc pc = .ok (.invokestatic index, 3)) (k : ∀ (z : Int64) (M' : q_M), post z M' → q_Y G E nL M' L (pc + 3) (.long z :: rest)) : q_Y G E nL M L pc st := by
  obtain ⟨p, e, R, s, m, args, below, meth, c, Q⟩ := E
  obtain ⟨hx, hb, hml, hown, hts, hlk, hR, hK, hN, hI⟩ := F
  intro hM H locs ls hP hS hl
  subst hR; subst hst
  refine va_calll (va_runS (As := As) (rest := rest) ⟨hx, hb, hml, hown, hts⟩ (C H.size) (va_cwS n hts hG hw hrm.1 hrm.2.1 hd ⟨hrm.2.2.1, hrm.2.2.2⟩) ⟨q_blind, fun U hU hW => ⟨rfl, by rw [hU], hM, by rw [hU]; exact hP, va_K.moved hW.alike hK, q_NW_alike hW hN⟩⟩ rfl hn hl.1 rfl (lv_room hW) d ⟨Nat.zero_le _, Nat.zero_le _⟩) hS (fun q _ h => q_A_mono hS.1 h) (fun q h => q_A_mono hS.1 h) (fun r u t H1 locs1 ht hvm hw hB hz1 hk1 hS1 => ?_)
  exact k r u hw hB.1 H1 locs1 ls (by rw [← ht]; exact hB.2) hS1 hl

theorem q_callNL (F : q_F G E own Ts cc nL rm) {host : String} {y : MethodName} {ws ws' : List Cond} {rmc : Room} {As rest : List Value} {bytes : ByteArray} {maxL index n : Nat} {ret : Option FieldType} {post : Int64 → q_M → Prop} (C : q_CL G y ws rmc As M post) (hw : ws = Cond.code y bytes maxL ret :: ws') (hG : GoodIn Ts ws) (hnest : (own, index, y, host) ∈ q_nest) (hini : Cond.initialized y.cls ∈ Ts) (hsta : Cond.static y ∈ Ts) (hd : y.cls ≠ "java/lang/invoke/MethodHandle" ∧ y.cls ≠ "java/lang/invoke/VarHandle" ∧ (parseMethodDescriptor y.desc).map (fun d => d.parameters.length) = some n) (hn : As.length = n) (hrm : rmc.cells = 0 ∧ rmc.slots = 0 ∧ rmc.frames + 1 ≤ rm.frames ∧ 8 + (maxL + 11) + rmc.locals ≤ rm.locals) (hst : st = As.reverse ++ rest) (hW : (rest.map fun v => v.category).sum ≤ 8) (d : decode cc pc = .ok (.invokestatic index, 3)) (k : ∀ (z : Int64) (M' : q_M), post z M' → q_Y G E nL M' L (pc + 3) (.long z :: rest)) : q_Y G E nL M L pc st := by
  obtain ⟨p, e, R, s, m, args, below, meth, c, Q⟩ := E
  obtain ⟨hx, hb, hml, hown, hts, hlk, hR, hK, hN, hI⟩ := F
  intro hM H locs ls hP hS hl
  subst hR; subst hst
  refine va_calll (va_runSN (As := As) (rest := rest) ⟨hx, hb, hml, hown, hts⟩ (C H.size) ⟨va_cnB n hts hG hw hrm.1 hrm.2.1 (hN _ hnest) (hts _ hini) hd ⟨hrm.2.2.1, hrm.2.2.2⟩, hts _ hsta, trivial⟩ ⟨q_blind, fun U hU hW => ⟨rfl, by rw [hU], hM, by rw [hU]; exact hP, va_K.moved hW.alike hK, q_NW_alike hW hN⟩⟩ rfl hn hl.1 rfl (lv_room hW) d ⟨Nat.zero_le _, Nat.zero_le _⟩) hS (fun q _ h => q_A_mono hS.1 h) (fun q h => q_A_mono hS.1 h) (fun r u t H1 locs1 ht hvm hw hB hz1 hk1 hS1 => ?_)
  exact k r u hw hB.1 H1 locs1 ls (by rw [← ht]; exact hB.2) hS1 hl

theorem q_callVL (F : q_F G E own Ts cc nL rm) {Cn : String} {T : u_T} {N ci : Nat} {kb : Nat} {fs : List (Option Nat)} {y : MethodName} {ws ws' : List Cond} {rmc : Room} {As rest : List Value} {bytes : ByteArray} {maxL index n : Nat} {ret : Option FieldType} {post : Int64 → q_M → Prop} (C : q_CL G y ws rmc (.ref (q_ad G kb) :: As) M post) (hw : ws = Cond.code y bytes maxL ret :: ws') (hc : vwCl[ci]? = some (Cn, T, N)) (hs : q_sh G kb = some (.inr (ci, fs))) (hG : GoodIn Ts (wsV own index Cn y ws)) (hcn : y.cls = Cn) (hd : y.cls ≠ "java/lang/invoke/MethodHandle" ∧ y.cls ≠ "java/lang/invoke/VarHandle" ∧ (parseMethodDescriptor y.desc).map (fun d => d.parameters.length) = some n) (hn : As.length = n) (hrm : rmc.cells = 0 ∧ rmc.slots = 0 ∧ rmc.frames + 1 ≤ rm.frames ∧ 8 + (maxL + 11) + rmc.locals ≤ rm.locals) (hst : st = As.reverse ++ .ref (q_ad G kb) :: rest) (hW : (rest.map fun v => v.category).sum ≤ 8) (d : decode cc pc = .ok (.invokevirtual index, 3)) (k : ∀ (z : Int64) (M' : q_M), post z M' → q_Y G E nL M' L (pc + 3) (.long z :: rest)) : q_Y G E nL M L pc st := by
  obtain ⟨p, e, R, s, m, args, below, meth, c, Q⟩ := E
  obtain ⟨hx, hb, hml, hown, hts, hlk, hR, hK, hN, hI⟩ := F
  intro hM H locs ls hP hS hl
  subst hR; subst hst
  refine va_calll (va_runV (As := As) (rest := rest) ⟨hx, hb, hml, hown, hts⟩ (C H.size) (cwV n hts hG hw hrm.1 hrm.2.1 ⟨hcn, hd⟩ ⟨hrm.2.2.1, hrm.2.2.2⟩) ⟨q_blind, va_recv hK hP hc (q_w_get hs), fun U hU hW => ⟨rfl, by rw [hU], hM, by rw [hU]; exact hP, va_K.moved hW.alike hK, q_NW_alike hW hN⟩⟩ rfl hn hl.1 rfl (lv_room hW) d ⟨Nat.zero_le _, Nat.zero_le _⟩) hS (fun q _ h => q_A_mono hS.1 h) (fun q h => q_A_mono hS.1 h) (fun r u t H1 locs1 ht hvm hw hB hz1 hk1 hS1 => ?_)
  exact k r u hw hB.1 H1 locs1 ls (by rw [← ht]; exact hB.2) hS1 hl

theorem q_callSA (F : q_F G E own Ts cc nL rm) {y : MethodName} {ws ws' : List Cond} {rmc : Room} {As rest : List Value} {bytes : ByteArray} {maxL index n : Nat} {ret : Option FieldType} {kk : Nat} {post : q_M → Prop} (C : q_CA G y ws rmc As M kk post) (hw : ws = Cond.code y bytes maxL ret :: ws') (hG : GoodIn Ts (va_wsS own index y ws)) (hd : y.cls ≠ "java/lang/invoke/MethodHandle" ∧ y.cls ≠ "java/lang/invoke/VarHandle" ∧ (parseMethodDescriptor y.desc).map (fun d => d.parameters.length) = some n) (hn : As.length = n) (hrm : rmc.cells = 0 ∧ rmc.slots = 0 ∧ rmc.frames + 1 ≤ rm.frames ∧ 8 + (maxL + 11) + rmc.locals ≤ rm.locals) (hst : st = As.reverse ++ rest) (hW : (rest.map fun v => v.category).sum ≤ 8) (d : decode cc pc = .ok (.invokestatic index, 3)) (k : ∀ (M' : q_M), post M' → q_Y G E nL M' L (pc + 3) (.ref (q_ad G kk) :: rest)) : q_Y G E nL M L pc st := by
  obtain ⟨p, e, R, s, m, args, below, meth, c, Q⟩ := E
  obtain ⟨hx, hb, hml, hown, hts, hlk, hR, hK, hN, hI⟩ := F
  intro hM H locs ls hP hS hl
  subst hR; subst hst
  refine va_callr (va_runS (As := As) (rest := rest) ⟨hx, hb, hml, hown, hts⟩ (C H.size) (va_cwS n hts hG hw hrm.1 hrm.2.1 hd ⟨hrm.2.2.1, hrm.2.2.2⟩) ⟨q_blind, fun U hU hW => ⟨rfl, by rw [hU], hM, by rw [hU]; exact hP, va_K.moved hW.alike hK, q_NW_alike hW hN⟩⟩ rfl hn hl.1 rfl (lv_room hW) d ⟨Nat.zero_le _, Nat.zero_le _⟩) hS (fun q _ h => q_A_mono hS.1 h) (fun q h => q_A_mono hS.1 h) (fun u ra t H1 locs1 ht hvm hw hB hz1 hk1 hS1 => ?_)
  obtain ⟨rfl, hB⟩ := hB
  exact k u hw hB.1 H1 locs1 ls (by rw [← ht]; exact hB.2) hS1 hl

theorem q_callNA (F : q_F G E own Ts cc nL rm) {host : String} {y : MethodName} {ws ws' : List Cond} {rmc : Room} {As rest : List Value} {bytes : ByteArray} {maxL index n : Nat} {ret : Option FieldType} {kk : Nat} {post : q_M → Prop} (C : q_CA G y ws rmc As M kk post) (hw : ws = Cond.code y bytes maxL ret :: ws') (hG : GoodIn Ts ws) (hnest : (own, index, y, host) ∈ q_nest) (hini : Cond.initialized y.cls ∈ Ts) (hsta : Cond.static y ∈ Ts) (hd : y.cls ≠ "java/lang/invoke/MethodHandle" ∧ y.cls ≠ "java/lang/invoke/VarHandle" ∧ (parseMethodDescriptor y.desc).map (fun d => d.parameters.length) = some n) (hn : As.length = n) (hrm : rmc.cells = 0 ∧ rmc.slots = 0 ∧ rmc.frames + 1 ≤ rm.frames ∧ 8 + (maxL + 11) + rmc.locals ≤ rm.locals) (hst : st = As.reverse ++ rest) (hW : (rest.map fun v => v.category).sum ≤ 8) (d : decode cc pc = .ok (.invokestatic index, 3)) (k : ∀ (M' : q_M), post M' → q_Y G E nL M' L (pc + 3) (.ref (q_ad G kk) :: rest)) : q_Y G E nL M L pc st := by
  obtain ⟨p, e, R, s, m, args, below, meth, c, Q⟩ := E
  obtain ⟨hx, hb, hml, hown, hts, hlk, hR, hK, hN, hI⟩ := F
  intro hM H locs ls hP hS hl
  subst hR; subst hst
  refine va_callr (va_runSN (As := As) (rest := rest) ⟨hx, hb, hml, hown, hts⟩ (C H.size) ⟨va_cnB n hts hG hw hrm.1 hrm.2.1 (hN _ hnest) (hts _ hini) hd ⟨hrm.2.2.1, hrm.2.2.2⟩, hts _ hsta, trivial⟩ ⟨q_blind, fun U hU hW => ⟨rfl, by rw [hU], hM, by rw [hU]; exact hP, va_K.moved hW.alike hK, q_NW_alike hW hN⟩⟩ rfl hn hl.1 rfl (lv_room hW) d ⟨Nat.zero_le _, Nat.zero_le _⟩) hS (fun q _ h => q_A_mono hS.1 h) (fun q h => q_A_mono hS.1 h) (fun u ra t H1 locs1 ht hvm hw hB hz1 hk1 hS1 => ?_)
  obtain ⟨rfl, hB⟩ := hB
  exact k u hw hB.1 H1 locs1 ls (by rw [← ht]; exact hB.2) hS1 hl

theorem q_callVA (F : q_F G E own Ts cc nL rm) {Cn : String} {T : u_T} {N ci : Nat} {kb : Nat} {fs : List (Option Nat)} {y : MethodName} {ws ws' : List Cond} {rmc : Room} {As rest : List Value} {bytes : ByteArray} {maxL index n : Nat} {ret : Option FieldType} {kk : Nat} {post : q_M → Prop} (C : q_CA G y ws rmc (.ref (q_ad G kb) :: As) M kk post) (hw : ws = Cond.code y bytes maxL ret :: ws') (hc : vwCl[ci]? = some (Cn, T, N)) (hs : q_sh G kb = some (.inr (ci, fs))) (hG : GoodIn Ts (wsV own index Cn y ws)) (hcn : y.cls = Cn) (hd : y.cls ≠ "java/lang/invoke/MethodHandle" ∧ y.cls ≠ "java/lang/invoke/VarHandle" ∧ (parseMethodDescriptor y.desc).map (fun d => d.parameters.length) = some n) (hn : As.length = n) (hrm : rmc.cells = 0 ∧ rmc.slots = 0 ∧ rmc.frames + 1 ≤ rm.frames ∧ 8 + (maxL + 11) + rmc.locals ≤ rm.locals) (hst : st = As.reverse ++ .ref (q_ad G kb) :: rest) (hW : (rest.map fun v => v.category).sum ≤ 8) (d : decode cc pc = .ok (.invokevirtual index, 3)) (k : ∀ (M' : q_M), post M' → q_Y G E nL M' L (pc + 3) (.ref (q_ad G kk) :: rest)) : q_Y G E nL M L pc st := by
  obtain ⟨p, e, R, s, m, args, below, meth, c, Q⟩ := E
  obtain ⟨hx, hb, hml, hown, hts, hlk, hR, hK, hN, hI⟩ := F
  intro hM H locs ls hP hS hl
  subst hR; subst hst
  refine va_callr (va_runV (As := As) (rest := rest) ⟨hx, hb, hml, hown, hts⟩ (C H.size) (cwV n hts hG hw hrm.1 hrm.2.1 ⟨hcn, hd⟩ ⟨hrm.2.2.1, hrm.2.2.2⟩) ⟨q_blind, va_recv hK hP hc (q_w_get hs), fun U hU hW => ⟨rfl, by rw [hU], hM, by rw [hU]; exact hP, va_K.moved hW.alike hK, q_NW_alike hW hN⟩⟩ rfl hn hl.1 rfl (lv_room hW) d ⟨Nat.zero_le _, Nat.zero_le _⟩) hS (fun q _ h => q_A_mono hS.1 h) (fun q h => q_A_mono hS.1 h) (fun u ra t H1 locs1 ht hvm hw hB hz1 hk1 hS1 => ?_)
  obtain ⟨rfl, hB⟩ := hB
  exact k u hw hB.1 H1 locs1 ls (by rw [← ht]; exact hB.2) hS1 hl

theorem q_callSP (F : q_F G E own Ts cc nL rm) {y : MethodName} {ws ws' : List Cond} {rmc : Room} {As rest : List Value} {bytes : ByteArray} {maxL index n : Nat} {ret : Option FieldType} {v : Int} (C : q_CI G y ws rmc As M (fun z M' => z = v ∧ M' = M)) (hw : ws = Cond.code y bytes maxL ret :: ws') (hG : GoodIn Ts (va_wsS own index y ws)) (hd : y.cls ≠ "java/lang/invoke/MethodHandle" ∧ y.cls ≠ "java/lang/invoke/VarHandle" ∧ (parseMethodDescriptor y.desc).map (fun d => d.parameters.length) = some n) (hn : As.length = n) (hrm : rmc.cells = 0 ∧ rmc.slots = 0 ∧ rmc.frames + 1 ≤ rm.frames ∧ 8 + (maxL + 11) + rmc.locals ≤ rm.locals) (hst : st = As.reverse ++ rest) (hW : (rest.map fun v => v.category).sum ≤ 8) (d : decode cc pc = .ok (.invokestatic index, 3)) (k : (-2147483648 ≤ v ∧ v ≤ 2147483647) → q_Y G E nL M L (pc + 3) (.int (q_I v) :: rest)) : q_Y G E nL M L pc st := by
  refine q_callSI F C hw hG hd hn hrm hst hW d (fun z M' hz hp => ?_)
  obtain ⟨rfl, rfl⟩ := hp
  exact k hz

theorem q_callNP (F : q_F G E own Ts cc nL rm) {host : String} {y : MethodName} {ws ws' : List Cond} {rmc : Room} {As rest : List Value} {bytes : ByteArray} {maxL index n : Nat} {ret : Option FieldType} {v : Int} (C : q_CI G y ws rmc As M (fun z M' => z = v ∧ M' = M)) (hw : ws = Cond.code y bytes maxL ret :: ws') (hG : GoodIn Ts ws) (hnest : (own, index, y, host) ∈ q_nest) (hini : Cond.initialized y.cls ∈ Ts) (hsta : Cond.static y ∈ Ts) (hd : y.cls ≠ "java/lang/invoke/MethodHandle" ∧ y.cls ≠ "java/lang/invoke/VarHandle" ∧ (parseMethodDescriptor y.desc).map (fun d => d.parameters.length) = some n) (hn : As.length = n) (hrm : rmc.cells = 0 ∧ rmc.slots = 0 ∧ rmc.frames + 1 ≤ rm.frames ∧ 8 + (maxL + 11) + rmc.locals ≤ rm.locals) (hst : st = As.reverse ++ rest) (hW : (rest.map fun v => v.category).sum ≤ 8) (d : decode cc pc = .ok (.invokestatic index, 3)) (k : (-2147483648 ≤ v ∧ v ≤ 2147483647) → q_Y G E nL M L (pc + 3) (.int (q_I v) :: rest)) : q_Y G E nL M L pc st := by
  refine q_callNI F C hw hG hnest hini hsta hd hn hrm hst hW d (fun z M' hz hp => ?_)
  obtain ⟨rfl, rfl⟩ := hp
  exact k hz

theorem q_callVP (F : q_F G E own Ts cc nL rm) {Cn : String} {T : u_T} {N ci : Nat} {kb : Nat} {fs : List (Option Nat)} {y : MethodName} {ws ws' : List Cond} {rmc : Room} {As rest : List Value} {bytes : ByteArray} {maxL index n : Nat} {ret : Option FieldType} {v : Int} (C : q_CI G y ws rmc (.ref (q_ad G kb) :: As) M (fun z M' => z = v ∧ M' = M)) (hw : ws = Cond.code y bytes maxL ret :: ws') (hc : vwCl[ci]? = some (Cn, T, N)) (hs : q_sh G kb = some (.inr (ci, fs))) (hG : GoodIn Ts (wsV own index Cn y ws)) (hcn : y.cls = Cn) (hd : y.cls ≠ "java/lang/invoke/MethodHandle" ∧ y.cls ≠ "java/lang/invoke/VarHandle" ∧ (parseMethodDescriptor y.desc).map (fun d => d.parameters.length) = some n) (hn : As.length = n) (hrm : rmc.cells = 0 ∧ rmc.slots = 0 ∧ rmc.frames + 1 ≤ rm.frames ∧ 8 + (maxL + 11) + rmc.locals ≤ rm.locals) (hst : st = As.reverse ++ .ref (q_ad G kb) :: rest) (hW : (rest.map fun v => v.category).sum ≤ 8) (d : decode cc pc = .ok (.invokevirtual index, 3)) (k : (-2147483648 ≤ v ∧ v ≤ 2147483647) → q_Y G E nL M L (pc + 3) (.int (q_I v) :: rest)) : q_Y G E nL M L pc st := by
  refine q_callVI F C hw hc hs hG hcn hd hn hrm hst hW d (fun z M' hz hp => ?_)
  obtain ⟨rfl, rfl⟩ := hp
  exact k hz

end QR

theorem q_CI.of {G : q_G} {y : MethodName} {ws ws' : List Cond} {rm : Room} {args : List Value} {M : q_M} {ret : FieldType} {post : Int → q_M → Prop} {cc : ByteArray} {nL : Nat} (hI : q_inj G) (hy : plainName y.cls = true) (hw : ws = Cond.code y cc nL (some ret) :: ws') (own : String) (hown : y.cls = own) (L : List (Nat × Value)) (hL : lv_args 0 args = L) (hlen : (lg_sl args).length ≤ nL)
    (body : ∀ E : q_E, q_F G E own ws cc nL rm → q_FI G E ret post → q_Y G E nL M L 0 []) : q_CI G y ws rm args M post := by
  intro sz
  refine Met.ofW (cc := cc) (maxL := nL) (ret := (some ret)) hy hw ?_
  intro p e s m args' below meth c s₁ B hml hv
  obtain ⟨rfl, rfl, hM, hP, hK, hN⟩ := hv
  have hb := body (p, e, rm, s, m, args.toArray, below, meth, c, _) ⟨B.exec, B.bytes, hml, by rw [← hown]; exact findClass_of_methodNamed B.named, atoms_spec (ws := ws) B.pre, B.notSynchronized, rfl, hK, hN, hI⟩ ⟨B.returns, rfl⟩
  rw [lg_entry_eq]
  exact hb hM s.heap [] _ hP va_S.rf (hL ▸ lv_entry args hlen)

theorem q_CV.of {G : q_G} {y : MethodName} {ws ws' : List Cond} {rm : Room} {args : List Value} {M : q_M} {post : q_M → Prop} {cc : ByteArray} {nL : Nat} (hI : q_inj G) (hy : plainName y.cls = true) (hw : ws = Cond.code y cc nL none :: ws') (own : String) (hown : y.cls = own) (L : List (Nat × Value)) (hL : lv_args 0 args = L) (hlen : (lg_sl args).length ≤ nL)
    (body : ∀ E : q_E, q_F G E own ws cc nL rm → q_FV G E post → q_Y G E nL M L 0 []) : q_CV G y ws rm args M post := by
  intro sz
  refine Met.ofW (cc := cc) (maxL := nL) (ret := none) hy hw ?_
  intro p e s m args' below meth c s₁ B hml hv
  obtain ⟨rfl, rfl, hM, hP, hK, hN⟩ := hv
  have hb := body (p, e, rm, s, m, args.toArray, below, meth, c, _) ⟨B.exec, B.bytes, hml, by rw [← hown]; exact findClass_of_methodNamed B.named, atoms_spec (ws := ws) B.pre, B.notSynchronized, rfl, hK, hN, hI⟩ ⟨B.returns, rfl⟩
  rw [lg_entry_eq]
  exact hb hM s.heap [] _ hP va_S.rf (hL ▸ lv_entry args hlen)

theorem q_CL.of {G : q_G} {y : MethodName} {ws ws' : List Cond} {rm : Room} {args : List Value} {M : q_M} {post : Int64 → q_M → Prop} {cc : ByteArray} {nL : Nat} (hI : q_inj G) (hy : plainName y.cls = true) (hw : ws = Cond.code y cc nL (some .long) :: ws') (own : String) (hown : y.cls = own) (L : List (Nat × Value)) (hL : lv_args 0 args = L) (hlen : (lg_sl args).length ≤ nL)
    (body : ∀ E : q_E, q_F G E own ws cc nL rm → q_FL G E post → q_Y G E nL M L 0 []) : q_CL G y ws rm args M post := by
  intro sz
  refine Met.ofW (cc := cc) (maxL := nL) (ret := (some .long)) hy hw ?_
  intro p e s m args' below meth c s₁ B hml hv
  obtain ⟨rfl, rfl, hM, hP, hK, hN⟩ := hv
  have hb := body (p, e, rm, s, m, args.toArray, below, meth, c, _) ⟨B.exec, B.bytes, hml, by rw [← hown]; exact findClass_of_methodNamed B.named, atoms_spec (ws := ws) B.pre, B.notSynchronized, rfl, hK, hN, hI⟩ ⟨B.returns, rfl⟩
  rw [lg_entry_eq]
  exact hb hM s.heap [] _ hP va_S.rf (hL ▸ lv_entry args hlen)

theorem q_CA.of {G : q_G} {y : MethodName} {ws ws' : List Cond} {rm : Room} {args : List Value} {M : q_M} {ret : FieldType} {k : Nat} {post : q_M → Prop} {cc : ByteArray} {nL : Nat} (hI : q_inj G) (hy : plainName y.cls = true) (hw : ws = Cond.code y cc nL (some ret) :: ws') (own : String) (hown : y.cls = own) (L : List (Nat × Value)) (hL : lv_args 0 args = L) (hlen : (lg_sl args).length ≤ nL)
    (body : ∀ E : q_E, q_F G E own ws cc nL rm → q_FA G E ret k post → q_Y G E nL M L 0 []) : q_CA G y ws rm args M k post := by
  intro sz
  refine Met.ofW (cc := cc) (maxL := nL) (ret := (some ret)) hy hw ?_
  intro p e s m args' below meth c s₁ B hml hv
  obtain ⟨rfl, rfl, hM, hP, hK, hN⟩ := hv
  have hb := body (p, e, rm, s, m, args.toArray, below, meth, c, _) ⟨B.exec, B.bytes, hml, by rw [← hown]; exact findClass_of_methodNamed B.named, atoms_spec (ws := ws) B.pre, B.notSynchronized, rfl, hK, hN, hI⟩ ⟨B.returns, rfl⟩
  rw [lg_entry_eq]
  exact hb hM s.heap [] _ hP va_S.rf (hL ▸ lv_entry args hlen)
