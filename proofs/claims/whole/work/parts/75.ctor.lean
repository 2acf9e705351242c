/-! constructors -/
/-- a world cell by cell -/
def q_wl (G : q_G) (M : q_M) : Nat → List q_S → va_W
  | _, [] => []
  | k, s :: l => q_ce G M k s :: q_wl G M (k + 1) l
theorem q_wl_of (G : q_G) (M : q_M) : ∀ (l : List q_S) (k : Nat), l.mapIdx (fun i s => q_ce G M (k + i) s) = q_wl G M k l
  | [], k => rfl
  | s :: l, k => by
    rw [List.mapIdx_cons]
    have h := q_wl_of G M l (k + 1)
    show _ = q_ce G M k s :: q_wl G M (k + 1) l
    rw [← h]
    congr 1
    congr 1
    funext i s
    rw [show k + (i + 1) = k + 1 + i by omega]
theorem q_wl_eq (G : q_G) (M : q_M) : q_w G M = q_wl G M 0 G.2.2.2.2.2 := by
  rw [← q_wl_of]
  unfold q_w
  congr 1
  funext i s
  rw [Nat.zero_add]
def q_NY (l : Launch) (D : va_G) (e0 : va_E) (E : q_E) (h0 ci cells slots : Nat) (fs : List Value) (tl : va_W) (pc : Nat) (st : List Value) : Prop := match E with
  | (p, e, R, s, m, args, below, meth, c, Q) => ∀ (H : Heap) (locs : List Loc) (ls : Array Slot), va_P D vwCl ((h0, .inr (ci, fs)) :: tl) H → va_D (va_A [(h0, e0)] s.heap.size) ((h0, .inr (ci, fs)) :: tl) → va_S (va_A [(h0, e0)] s.heap.size) s.heap H locs → lv_has ls 1 [(0, .ref h0)] → W p l e R s m args below meth c H locs cells slots Q (F0 m pc ls st)
def q_NF (D : va_G) (cI cZ : ClassId) (E : q_E) (own : String) (Ts : List Cond) (cc : ByteArray) (rm : Room) : Prop := match E with
  | (p, _, R, s, m, args, _, meth, c, _) => p.tables.exec = Jvm.exec ∧ c.code = cc ∧ c.maxLocals = 1 ∧ s.vm.findClass own = some m.cls ∧ (∀ w ∈ Ts, w.before args s = true) ∧ meth.locks = false ∧ R = rm ∧ va_K D vwCl [(cI, .int), (cZ, .boolean)] s ∧ q_NW s ∧ meth.name = "<init>"
def q_NV (l : Launch) (D : va_G) (cI cZ : ClassId) (e0 : va_E) (E : q_E) (h0 mc ms : Nat) (sh : List q_S) (M0 : q_M) : Prop := match E with
  | (_, _, _, s, _, args, below, meth, _, Q) => meth.sig.returnType = none ∧ Q = MQ below (va_Qv (fun u : Nat → Nat => u 0 = h0) (fun u t => va_P D vwCl (q_w (l, D, cI, cZ, u, sh) M0) t.heap ∧ va_D (va_A [(h0, e0)] s.heap.size) (q_w (l, D, cI, cZ, u, sh) M0)) (va_A [(h0, e0)] s.heap.size)) args s mc ms (va_A [(h0, e0)] s.heap.size)
def q_NP (D : va_G) (cI cZ : ClassId) (h0 sz : Nat) (e0 : va_E) (U : State) : Prop := U.heap.size = sz ∧ va_P D vwCl [(h0, e0)] U.heap ∧ va_K D vwCl [(cI, .int), (cZ, .boolean)] U ∧ q_NW U
def q_CN (l : Launch) (D : va_G) (cI cZ : ClassId) (y : MethodName) (ws : List Cond) (rm : Room) (e0 : va_E) (sh : List q_S) (M0 : q_M) (mc ms : Nat) : Prop :=
  ∀ h0 sz : Nat, Met l y ws rm (va_Pc [.ref h0] (q_NP D cI cZ h0 sz e0)) (va_Qv (fun u : Nat → Nat => u 0 = h0) (fun u t => va_P D vwCl (q_w (l, D, cI, cZ, u, sh) M0) t.heap ∧ va_D (va_A [(h0, e0)] sz) (q_w (l, D, cI, cZ, u, sh) M0)) (va_A [(h0, e0)] sz)) mc ms (va_A [(h0, e0)] sz)
theorem q_one {x : Nat × va_E} {k : Nat} {y : Nat × va_E} (h : [x][k]? = some y) : k = 0 ∧ y = x := by
  have hz : k < 1 := (List.getElem?_eq_some_iff.mp h).1
  have h0 : k = 0 := by omega
  subst h0
  exact ⟨rfl, (Option.some.inj h).symm⟩
theorem q_D1 (h0 sz : Nat) (e0 : va_E) : va_D (va_A [(h0, e0)] sz) [(h0, e0)] := by
  refine ⟨fun i j p q hi hj _ => ?_, fun k q hk => ?_⟩
  · rw [(q_one hi).1, (q_one hj).1]
  · exact Or.inl ⟨k, q.2, hk⟩
theorem q_Nblind {D : va_G} {cI cZ : ClassId} {h0 sz : Nat} {e0 : va_E} {av : List Value} : FrameBlind (va_Pc av (q_NP D cI cZ h0 sz e0)) := by
  intro a U g mk h
  obtain ⟨h0, h1, h3, h4, h5⟩ := h
  exact ⟨h0, h1, h3, va_K.moved (u := U) (U := U.calling g mk a) (Vm.Alike.refl U.vm) h4, fun q hq => va_Nw.same rfl (u := U) rfl (h5 q hq)⟩
theorem q_CN.of {l : Launch} {D : va_G} {cI cZ : ClassId} {y : MethodName} {ws ws' : List Cond} {rm : Room} {ci : Nat} {fs0 : List Value} {sh : List q_S} {M0 : q_M} {mc ms : Nat} {cc : ByteArray} (hy : plainName y.cls = true) (hw : ws = Cond.code y cc 1 none :: ws') (own : String) (hown : y.cls = own) (hyn : y.name = "<init>")
    (body : ∀ (E : q_E) (h0 : Nat), q_NF D cI cZ E own ws cc rm → q_NV l D cI cZ (.inr (ci, fs0)) E h0 mc ms sh M0 → q_NY l D (.inr (ci, fs0)) E h0 ci 0 0 fs0 [] 0 []) : q_CN l D cI cZ y ws rm (.inr (ci, fs0)) sh M0 mc ms := by
  intro h0 sz
  refine Met.ofW (cc := cc) (maxL := 1) (ret := none) hy hw ?_
  intro p e s m args' below meth c s₁ B hml hv
  obtain ⟨rfl, rfl, hP, hK, hN⟩ := hv
  have hb := body (p, e, rm, s, m, ([.ref h0] : List Value).toArray, below, meth, c, _) h0 ⟨B.exec, B.bytes, hml, by rw [← hown]; exact findClass_of_methodNamed B.named, atoms_spec (ws := ws) B.pre, B.notSynchronized, rfl, hK, hN, (name_of_methodNamed B.named B.method).1.trans hyn⟩ ⟨B.returns, rfl⟩
  rw [lg_entry_eq]
  exact hb s.heap [] _ hP (q_D1 _ _ _) va_S.rf (lv_entry [.ref h0] (Nat.le_of_ble_eq_true rfl))
theorem q_cA {D : va_G} {cI cZ cA : ClassId} {s : State} {ty : FieldType} (hty : ty = .int ∨ ty = .boolean) (hK : va_K D vwCl ([(cI, .int), (cZ, .boolean)] ++ [(cA, ty)]) s) : cA = if ty = .int then cI else cZ := by
  rcases hty with rfl | rfl
  · have h1 : s.vm.findClass ("[" ++ FieldType.int.toString) = some cI := (hK.2 0 _ rfl).2
    have h2 : s.vm.findClass ("[" ++ FieldType.int.toString) = some cA := (hK.2 2 _ rfl).2
    rw [if_pos rfl]
    exact Option.some.inj (h2.symm.trans h1)
  · have h1 : s.vm.findClass ("[" ++ FieldType.boolean.toString) = some cZ := (hK.2 1 _ rfl).2
    have h2 : s.vm.findClass ("[" ++ FieldType.boolean.toString) = some cA := (hK.2 2 _ rfl).2
    rw [if_neg (by decide)]
    exact Option.some.inj (h2.symm.trans h1)
section QN
variable {l : Launch} {D : va_G} {cI cZ : ClassId} {e0 : va_E} {E : q_E} {h0 ci cells slots pc : Nat} {fs : List Value} {tl : va_W} {st : List Value} {own : String} {Ts : List Cond} {cc : ByteArray} {rm : Room} {sh : List q_S} {M0 : q_M} {mc ms : Nat}
theorem n_aload (F : q_NF D cI cZ E own Ts cc rm) (d : decode cc pc = .ok (.aload_n 0, 1)) (k : q_NY l D e0 E h0 ci cells slots fs tl (pc + 1) (.ref h0 :: st)) : q_NY l D e0 E h0 ci cells slots fs tl pc st := by
  obtain ⟨p, e, R, s, m, args, below, meth, c, Q⟩ := E
  obtain ⟨hx, hb, hml, hown, hts, hlk, hR, hK, hN, hin⟩ := F
  intro H locs ls hP hD hS hl
  exact lv_aload_n hx hb d rfl (lv_at hl 0 rfl) (k H locs ls hP hD hS hl)
theorem n_iconst (F : q_NF D cI cZ E own Ts cc rm) {n : Int} (d : decode cc pc = .ok (.iconst n, 1)) (k : q_NY l D e0 E h0 ci cells slots fs tl (pc + 1) (.int (q_I n) :: st)) : q_NY l D e0 E h0 ci cells slots fs tl pc st := by
  obtain ⟨p, e, R, s, m, args, below, meth, c, Q⟩ := E
  obtain ⟨hx, hb, hml, hown, hts, hlk, hR, hK, hN, hin⟩ := F
  intro H locs ls hP hD hS hl
  exact lv_iconst hx hb d rfl (k H locs ls hP hD hS hl)
theorem n_bipush (F : q_NF D cI cZ E own Ts cc rm) {n : Int} (d : decode cc pc = .ok (.bipush n, 2)) (hv : (Int8.ofInt n).toInt32 = q_I n) (k : q_NY l D e0 E h0 ci cells slots fs tl (pc + 2) (.int (q_I n) :: st)) : q_NY l D e0 E h0 ci cells slots fs tl pc st := by
  obtain ⟨p, e, R, s, m, args, below, meth, c, Q⟩ := E
  obtain ⟨hx, hb, hml, hown, hts, hlk, hR, hK, hN, hin⟩ := F
  intro H locs ls hP hD hS hl
  exact lv_bipush hx hb d hv (k H locs ls hP hD hS hl)
theorem n_sipush (F : q_NF D cI cZ E own Ts cc rm) {n : Int} (d : decode cc pc = .ok (.sipush n, 3)) (hv : (Int16.ofInt n).toInt32 = q_I n) (k : q_NY l D e0 E h0 ci cells slots fs tl (pc + 3) (.int (q_I n) :: st)) : q_NY l D e0 E h0 ci cells slots fs tl pc st := by
  obtain ⟨p, e, R, s, m, args, below, meth, c, Q⟩ := E
  obtain ⟨hx, hb, hml, hown, hts, hlk, hR, hK, hN, hin⟩ := F
  intro H locs ls hP hD hS hl
  exact lv_sipush hx hb d hv (k H locs ls hP hD hS hl)
theorem n_obj (F : q_NF D cI cZ E own Ts cc rm) {idx : Nat} (h1 : Cond.methodLink own idx objectInit ∈ Ts) (h2 : Cond.instanceMethod objectInit ∈ Ts) (h3 : Cond.code objectInit ⟨#[0xb1]⟩ 1 none ∈ Ts) (hf : 1 ≤ rm.frames ∧ 12 ≤ rm.locals) (d : decode cc pc = .ok (.invokespecial idx, 3)) (k : q_NY l D e0 E h0 ci cells slots fs tl (pc + 3) []) : q_NY l D e0 E h0 ci cells slots fs tl pc [.ref h0] := by
  obtain ⟨p, e, R, s, m, args, below, meth, c, Q⟩ := E
  obtain ⟨hx, hb, hml, hown, hts, hlk, hR, hK, hN, hin⟩ := F
  intro H locs ls hP hD hS hl
  subst hR
  refine W.objInit hx hb hown (hts _ h1) (hts _ h2) (hts _ h3) rfl (by rw [hml]; exact hl.1) rfl d hf.1 hf.2 ?_
  exact W.eq (g2 := F0 m (pc + 3) ls []) rfl (k H locs ls hP hD hS hl)
/-- a fresh array into a final field -/
theorem n_arr (F : q_NF D cI cZ E own Ts cc rm) (aty : ArrayType) (ty : FieldType) (cA0 : ClassId) (hat : newarray.typeOf aty = ty) (hty0 : (ty = .int ∧ cA0 = cI) ∨ (ty = .boolean ∧ cA0 = cZ)) {n : Int} {N' : Nat} (hn : ¬ q_I n < 0) (hN' : (q_I n).toNatClampNeg = N') (hby : N' * componentBytes ty ≤ 536870912) (hac : Cond.arrayClass (newarray.typeOf aty) ∈ Ts)
    {C : String} {T : u_T} {N index : Nat} (hu : ∀ w ∈ u_ws C T N, w ∈ Ts) (hc : vwCl[ci]? = some (C, T, N)) (i : Nat) (hi : i < N) (hln : Cond.fieldLink own index C (T i).2.1 (T i).2.2.1 ∈ Ts) (href : (T i).1 = C ∧ C = own) (ty0 : Nat → FieldType) (hty : ∀ k, k < N → parseFieldDescriptor (T k).2.2.1 = some (ty0 k)) (hnm : ∀ a, a < N → ∀ b, b < N → a ≠ b → (T a).2.1 ≠ (T b).2.1) (hfin : (T i).2.2.2 = true) (hd : parseFieldDescriptor (T i).2.2.1 = some (.array ty)) (hl : i < fs.length)
    (hroom : cells + 1 ≤ rm.cells ∧ slots + N' ≤ rm.slots) (d1 : decode cc pc = .ok (.newarray aty, 2)) (d2 : decode cc (pc + 2) = .ok (.putfield index, 3)) (k : ∀ q : Nat, q_NY l D e0 E h0 ci (cells + 1) (slots + N') (fs.set i (.ref q)) (tl ++ [(q, .inl (cA0, N', .inl fun _ => q_I 0))]) (pc + 5) st) : q_NY l D e0 E h0 ci cells slots fs tl pc (.int (q_I n) :: .ref h0 :: st) := by
  obtain ⟨p, e, R, s, m, args, below, meth, c, Q⟩ := E
  obtain ⟨hx, hb, hml, hown, hts, hlk, hR, hK, hN, hin⟩ := F
  intro H locs ls hP hD hS hl2
  subst hR
  have hA : ∀ q : Nat, s.heap.size ≤ q → va_A [(h0, e0)] s.heap.size q := fun q h => Or.inr h
  refine va_newa (atype := aty) (ty := ty) (N' := N') (a0 := (N', .inl fun _ => q_I 0)) hx hb (hts _ hac) hat hK hP hD hS hA (fun cA => by rcases hty0 with ⟨rfl, -⟩ | ⟨rfl, -⟩ <;> rfl) hn hN' hby hroom.1 hroom.2 d1 (fun q cA H1 hK1 hP1 hD1 hS1 => ?_)
  have hc1 : cA = cA0 := by
    rcases hty0 with ⟨rfl, rfl⟩ | ⟨rfl, rfl⟩
    · have h1 := q_cA (Or.inl rfl) hK1
      rwa [if_pos rfl] at h1
    · have h1 := q_cA (Or.inr rfl) hK1
      rwa [if_neg (by decide)] at h1
  subst hc1
  have hP1 : va_P D vwCl ((h0, .inr (ci, fs)) :: (tl ++ [(q, .inl (cA, N', .inl fun _ => q_I 0))])) H1 := hP1
  have hD1 : va_D (va_A [(h0, e0)] s.heap.size) ((h0, .inr (ci, fs)) :: (tl ++ [(q, .inl (cA, N', .inl fun _ => q_I 0))])) := hD1
  refine va_putF (ci := ci) (v := .ref q) (ty := .array ty) hx hb hts hu ty0 hty hnm hown hK hP1 hD1 hS1 0 rfl hc i hi (hts _ hln) (fun x h => by rw [href.1] at h; exact h) hfin hin (by rw [href.1]; exact href.2) hd rfl rfl hl d2 (fun H2 locs2 hP2 hD2 hS2 => ?_)
  exact k q H2 locs2 ls hP2 hD2 hS2 hl2
/-- an int into a field -/
theorem n_put (F : q_NF D cI cZ E own Ts cc rm) {C : String} {T : u_T} {N index : Nat} (hu : ∀ w ∈ u_ws C T N, w ∈ Ts) (hc : vwCl[ci]? = some (C, T, N)) (i : Nat) (hi : i < N) (hln : Cond.fieldLink own index C (T i).2.1 (T i).2.2.1 ∈ Ts) (href : (T i).1 = C) (ty0 : Nat → FieldType) (hty : ∀ k, k < N → parseFieldDescriptor (T k).2.2.1 = some (ty0 k)) (hnm : ∀ a, a < N → ∀ b, b < N → a ≠ b → (T a).2.1 ≠ (T b).2.1) (hfin : (T i).2.2.2 = false) {v : Int} (hd : parseFieldDescriptor (T i).2.2.1 = some .int) (hl : i < fs.length)
    (d : decode cc pc = .ok (.putfield index, 3)) (k : q_NY l D e0 E h0 ci cells slots (fs.set i (.int (q_I v))) tl (pc + 3) st) : q_NY l D e0 E h0 ci cells slots fs tl pc (.int (q_I v) :: .ref h0 :: st) := by
  obtain ⟨p, e, R, s, m, args, below, meth, c, Q⟩ := E
  obtain ⟨hx, hb, hml, hown, hts, hlk, hR, hK, hN, hin⟩ := F
  intro H locs ls hP hD hS hl2
  refine va_put (ci := ci) (v := .int (q_I v)) (ty := .int) hx hb hts hu ty0 hty hnm hown hK hP hD hS 0 rfl hc i hi (hts _ hln) (fun x h => by rw [href] at h; exact h) hfin hd rfl rfl hl d (fun H2 locs2 hP2 hD2 hS2 => ?_)
  exact k H2 locs2 ls hP2 hD2 hS2 hl2
/-- a fresh object of a class of the nest, into a final field -/
theorem n_child (F : q_NF D cI cZ E own Ts cc rm) {y : MethodName} {wsy wsy' : List Cond} {rmc : Room} {cj : Nat} {fsj : List Value} {shj : List q_S} {Mj : q_M} {mcj msj : Nat} (K : q_CN l D cI cZ y wsy rmc (.inr (cj, fsj)) shj Mj mcj msj) {Cj : String} {Tj : u_T} {Nj : Nat} (huj : ∀ w ∈ u_ws Cj Tj Nj, w ∈ Ts) (tyj : Nat → FieldType) (htyj : ∀ k, k < Nj → parseFieldDescriptor (Tj k).2.2.1 = some (tyj k)) (hcj : vwCl[cj]? = some (Cj, Tj, Nj)) (hfsj : ∀ j, j < Nj → defaultValue (tyj j) = vp_V fsj j)
    {i1 i2 : Nat} (hcl : Cond.classLink own i1 Cj ∈ Ts) (hinst : Cond.instantiable Cj Nj ∈ Ts) (hini : Cond.initialized Cj ∈ Ts) {bytes : ByteArray} (hw : wsy = Cond.code y bytes 1 none :: wsy') (hG : GoodIn Ts wsy) (hnest : (own, i2, y, RX8) ∈ q_nest) (hy : y.name = "<init>" ∧ y.cls = Cj) (hinm : Cond.instanceMethod y ∈ Ts) (hd0 : y.cls ≠ "java/lang/invoke/MethodHandle" ∧ y.cls ≠ "java/lang/invoke/VarHandle" ∧ (parseMethodDescriptor y.desc).map (fun d => d.parameters.length) = some 0) (hrm : rmc.cells = mcj ∧ rmc.slots = msj ∧ rmc.frames + 1 ≤ rm.frames ∧ 8 + (1 + 11) + rmc.locals ≤ rm.locals)
    {C : String} {T : u_T} {N index : Nat} (hu : ∀ w ∈ u_ws C T N, w ∈ Ts) (hc : vwCl[ci]? = some (C, T, N)) (i : Nat) (hi : i < N) (hln : Cond.fieldLink own index C (T i).2.1 (T i).2.2.1 ∈ Ts) (href : (T i).1 = C ∧ C = own) (ty0 : Nat → FieldType) (hty : ∀ k, k < N → parseFieldDescriptor (T k).2.2.1 = some (ty0 k)) (hnm : ∀ a, a < N → ∀ b, b < N → a ≠ b → (T a).2.1 ≠ (T b).2.1) (hfin : (T i).2.2.2 = true) {ty : String} (hd : parseFieldDescriptor (T i).2.2.1 = some (.object ty)) (hl : i < fs.length)
    (hroom : cells + 1 + mcj ≤ rm.cells ∧ slots + Nj + msj ≤ rm.slots) (d1 : decode cc pc = .ok (.new i1, 3)) (d2 : decode cc (pc + 3) = .ok (.dup, 1)) (d3 : decode cc (pc + 4) = .ok (.invokespecial i2, 3)) (d4 : decode cc (pc + 7) = .ok (.putfield index, 3))
    (k : ∀ u : Nat → Nat, q_NY l D e0 E h0 ci (cells + 1 + mcj) (slots + Nj + msj) (fs.set i (.ref (u 0))) (tl ++ q_w (l, D, cI, cZ, u, shj) Mj) (pc + 10) []) : q_NY l D e0 E h0 ci cells slots fs tl pc [.ref h0] := by
  obtain ⟨p, e, R, s, m, args, below, meth, c, Q⟩ := E
  obtain ⟨hx, hb, hml, hown, hts, hlk, hR, hK, hN, hin⟩ := F
  intro H locs ls hP hD hS hl2
  subst hR
  have hA : ∀ q : Nat, s.heap.size ≤ q → va_A [(h0, e0)] s.heap.size q := fun q h => Or.inr h
  refine va_new (ci := cj) (fs := fsj) hx hb hts huj tyj htyj hown (hts _ hcl) (hts _ hinst) (hts _ hini) hK hP hD hS hA hcj hfsj (by omega) (by omega) d1 (fun q H1 hP1 hD1 hS1 => ?_)
  refine lv_dup hx hb d2 rfl ?_
  generalize hwe : ((h0, Sum.inr (ci, fs)) :: tl : va_W) = ws at hP hD hP1 hD1
  have hlast : (ws ++ [(q, Sum.inr (cj, fsj))])[ws.length]? = some (q, Sum.inr (cj, fsj)) := by
    rw [List.getElem?_append_right (Nat.le_refl _), Nat.sub_self]
    rfl
  have hPc : va_P D vwCl [(q, .inr (cj, fsj))] H1 := by
    intro k x hx
    obtain ⟨-, rfl⟩ := q_one hx
    exact hP1 _ _ hlast
  have hq : va_A [(h0, e0)] s.heap.size q := hD1.2 _ _ hlast
  have hFc : ∀ x : Nat, va_A [(q, .inr (cj, fsj))] H1.size x → va_A [(h0, e0)] s.heap.size x := by
    intro x hx
    rcases hx with ⟨k, e', hk⟩ | hx
    · have h9 := (q_one hk).2
      cases h9
      exact hq
    · exact Or.inr (Nat.le_trans hS1.1 hx)
  refine va_callv (va_runIN (As := []) (rest := [.ref q, .ref h0]) ⟨hx, hb, hml, hown, hts⟩ (K q H1.size) ⟨va_cnB 0 hts hG hw hrm.1 hrm.2.1 (hN _ hnest) (by rw [hy.2]; exact hts _ hini) hd0 ⟨hrm.2.2.1, hrm.2.2.2⟩, hy.1, hts _ hinm⟩ ⟨q_Nblind, fun U hU hW => ⟨rfl, by rw [hU], by rw [hU]; exact hPc, va_K.moved hW.alike hK, q_NW_alike hW hN⟩⟩ rfl rfl hl2.1 rfl (lv_room (Nat.le_of_ble_eq_true rfl)) d3 hroom) hS1 (fun x _ h => hFc x h) (fun x h => hFc x h) (fun u t H2 locs2 ht hvm hw2 hB hz1 hk1 hS2 => ?_)
  obtain ⟨hPu, hDu⟩ := hB
  rw [ht] at hPu
  have hap : ∀ (k : Nat) (x : Nat × va_E), ws[k]? = some x → x.1 < H1.size ∧ ¬ va_A [(q, .inr (cj, fsj))] H1.size x.1 := by
    intro k x hk
    have hlt : k < ws.length := (List.getElem?_eq_some_iff.mp hk).1
    have hk' : (ws ++ [(q, Sum.inr (cj, fsj))])[k]? = some x := by rw [List.getElem?_append_left hlt]; exact hk
    have hsz := (hP1 _ _ hk').lt
    refine ⟨hsz, fun h => ?_⟩
    rcases h with ⟨k2, e', h2⟩ | h2
    · have h9 := (q_one h2).2
      have h8 := hD1.1 k ws.length x _ hk' hlast (Prod.mk.inj h9).1
      omega
    · omega
  have hPw : va_P D vwCl ws H2 := by
    intro k x hk
    have hlt : k < ws.length := (List.getElem?_eq_some_iff.mp hk).1
    have hk' : (ws ++ [(q, Sum.inr (cj, fsj))])[k]? = some x := by rw [List.getElem?_append_left hlt]; exact hk
    obtain ⟨a1, a2⟩ := hap k x hk
    exact (hP1 _ _ hk').kept (hk1 x.1 a1 a2)
  have hP2 := hPw.app hPu
  have hD2 := va_D.app hD (hDu.weaken (fun k x _ h => hFc x.1 h)) (fun i j x y hx hy hxy => (hap i x hx).2 (by rw [hxy]; exact hDu.2 j y hy))
  rw [← hwe] at hP2 hD2
  rw [← hw2]
  have hP2 : va_P D vwCl ((h0, .inr (ci, fs)) :: (tl ++ q_w (l, D, cI, cZ, u, shj) Mj)) H2 := hP2
  have hD2 : va_D (va_A [(h0, e0)] s.heap.size) ((h0, .inr (ci, fs)) :: (tl ++ q_w (l, D, cI, cZ, u, shj) Mj)) := hD2
  refine va_putF (ci := ci) (v := .ref (u 0)) (ty := .object ty) hx hb hts hu ty0 hty hnm hown hK hP2 hD2 hS2 0 rfl hc i hi (hts _ hln) (fun x h => by rw [href.1] at h; exact h) hfin hin (by rw [href.1]; exact href.2) hd rfl rfl hl d4 (fun H3 locs3 hP3 hD3 hS3 => ?_)
  exact k u H3 locs3 ls hP3 hD3 hS3 hl2
theorem n_ret (F : q_NF D cI cZ E own Ts cc rm) (V : q_NV l D cI cZ e0 E h0 mc ms sh M0) (d : decode cc pc = .ok (.return_, 1)) (u : Nat → Nat) (hu : u 0 = h0) (hw : (h0, .inr (ci, fs)) :: tl = q_w (l, D, cI, cZ, u, sh) M0) : q_NY l D e0 E h0 ci mc ms fs tl pc [] := by
  obtain ⟨p, e, R, s, m, args, below, meth, c, Q⟩ := E
  obtain ⟨hx, hb, hml, hown, hts, hlk, hR, hK, hN, hin⟩ := F
  obtain ⟨hr, hQ⟩ := V
  intro H locs ls hP hD hS hl2
  subst hQ
  rw [hw] at hP hD
  exact W.vret hx hb hr (fun t ht hW => ⟨⟨u, rfl, hu, by rw [ht]; exact hP, hD⟩, hS.F ht⟩) hS.2.2 d hlk
end QN
