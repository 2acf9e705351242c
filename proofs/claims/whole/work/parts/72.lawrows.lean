/-! the law over two worlds -/
def q_sc (xs : Nat → Int32) (i : Int) : Int := (xs i.toNat).toInt
theorem q_sc_R (xs : Nat → Int32) (i : Int) : -2147483648 ≤ q_sc xs i ∧ q_sc xs i ≤ 2147483647 := q_rt _
def q_LF (GX GZ : q_G) (E : q_E) (b0 Ln : Nat) (xs : Nat → Int32) : Prop := match E with
  | (p, _, R, s, m, args, below, meth, c, Q) => p.tables.exec = Jvm.exec ∧ c.code = cL_law ∧ c.maxLocals = 4 ∧ s.vm.findClass RL = some m.cls ∧ (∀ w ∈ wsL_law, w.before args s = true) ∧ meth.locks = false ∧ R = room_1 ∧ va_K GX.2.1 vwCl (q_ty GX) s ∧ q_NW s ∧ (q_inj GX ∧ q_inj GZ ∧ (∀ i j : Nat, i < q_n GX → j < q_n GZ → q_ad GX i ≠ q_ad GZ j) ∧ (∀ i : Nat, i < q_n GX → s.heap.size ≤ q_ad GX i) ∧ (∀ i : Nat, i < q_n GZ → s.heap.size ≤ q_ad GZ i)) ∧ (va_X b0 Ln xs s s.heap ∧ b0 < s.heap.size) ∧ (args = #[Value.ref b0] ∧ Q = lw_Z below #[Value.ref b0] s ∧ meth.sig.returnType = ret)
def q_LY (GX GZ : q_G) (E : q_E) (MX MZ : q_M) (L : List (Nat × Value)) (pc : Nat) (st : List Value) : Prop := match E with
  | (p, e, R, s, m, args, below, meth, c, Q) => q_MR MX → q_MR MZ → ∀ (H : Heap) (locs : List Loc) (ls : Array Slot), va_P GX.2.1 vwCl (q_w GX MX) H → va_P GX.2.1 vwCl (q_w GZ MZ) H → va_S (fun q => s.heap.size ≤ q) s.heap H locs → lv_has ls 4 L → W p GX.1 e R s m args below meth c H locs 79 2832 Q (F0 m pc ls st)
section LAWR
variable {GX GZ : q_G} {E : q_E} {b0 Ln : Nat} {xs : Nat → Int32} {MX MZ : q_M} {L : List (Nat × Value)} {pc : Nat} {st : List Value}
theorem l_iconst (F : q_LF GX GZ E b0 Ln xs) {n : Int} (d : decode cL_law pc = .ok (.iconst n, 1)) (k : q_LY GX GZ E MX MZ L (pc + 1) (.int (q_I n) :: st)) : q_LY GX GZ E MX MZ L pc st := by
  obtain ⟨p, e, R, s, m, args, below, meth, c, Q⟩ := E
  obtain ⟨hx, hb, -⟩ := F
  intro hM hM2 H locs ls hP hP2 hS hl
  exact lv_iconst hx hb d rfl (k hM hM2 H locs ls hP hP2 hS hl)
theorem l_bipush (F : q_LF GX GZ E b0 Ln xs) {n : Int} (d : decode cL_law pc = .ok (.bipush n, 2)) (hv : (Int8.ofInt n).toInt32 = q_I n) (k : q_LY GX GZ E MX MZ L (pc + 2) (.int (q_I n) :: st)) : q_LY GX GZ E MX MZ L pc st := by
  obtain ⟨p, e, R, s, m, args, below, meth, c, Q⟩ := E
  obtain ⟨hx, hb, -⟩ := F
  intro hM hM2 H locs ls hP hP2 hS hl
  exact lv_bipush hx hb d hv (k hM hM2 H locs ls hP hP2 hS hl)
theorem l_iload_n (F : q_LF GX GZ E b0 Ln xs) {i : Fin 4} {z : Int} (d : decode cL_law pc = .ok (.iload_n i, 1)) (j : Nat) (hj : L[j]? = some ((i : Nat), .int (q_I z))) (k : q_LY GX GZ E MX MZ L (pc + 1) (.int (q_I z) :: st)) : q_LY GX GZ E MX MZ L pc st := by
  obtain ⟨p, e, R, s, m, args, below, meth, c, Q⟩ := E
  obtain ⟨hx, hb, -⟩ := F
  intro hM hM2 H locs ls hP hP2 hS hl
  exact lv_iload_n hx hb d rfl (lv_at hl j hj) (k hM hM2 H locs ls hP hP2 hS hl)
theorem l_aload_n (F : q_LF GX GZ E b0 Ln xs) {i : Fin 4} {x : Nat} (d : decode cL_law pc = .ok (.aload_n i, 1)) (j : Nat) (hj : L[j]? = some ((i : Nat), .ref x)) (k : q_LY GX GZ E MX MZ L (pc + 1) (.ref x :: st)) : q_LY GX GZ E MX MZ L pc st := by
  obtain ⟨p, e, R, s, m, args, below, meth, c, Q⟩ := E
  obtain ⟨hx, hb, -⟩ := F
  intro hM hM2 H locs ls hP hP2 hS hl
  exact lv_aload_n hx hb d rfl (lv_at hl j hj) (k hM hM2 H locs ls hP hP2 hS hl)
theorem l_istore_n (F : q_LF GX GZ E b0 Ln xs) {i : Fin 4} {z : Int} (d : decode cL_law pc = .ok (.istore_n i, 1)) (L' : List (Nat × Value)) (hn : (i : Nat) < 4) (hL : ((i : Nat), Value.int (q_I z)) :: L.filter (fun q => !(q.1 == (i : Nat)) && !(q.1 + 1 == (i : Nat) && q.2.category == 2)) = L') (k : q_LY GX GZ E MX MZ L' (pc + 1) st) : q_LY GX GZ E MX MZ L pc (.int (q_I z) :: st) := by
  obtain ⟨p, e, R, s, m, args, below, meth, c, Q⟩ := E
  obtain ⟨hx, hb, -⟩ := F
  intro hM hM2 H locs ls hP hP2 hS hl
  exact lv_istore_n hx hb d rfl hl hn hL (fun ls hl => k hM hM2 H locs ls hP hP2 hS hl)
theorem l_astore_n (F : q_LF GX GZ E b0 Ln xs) {i : Fin 4} {x : Nat} (d : decode cL_law pc = .ok (.astore_n i, 1)) (L' : List (Nat × Value)) (hn : (i : Nat) < 4) (hL : ((i : Nat), Value.ref x) :: L.filter (fun q => !(q.1 == (i : Nat)) && !(q.1 + 1 == (i : Nat) && q.2.category == 2)) = L') (k : q_LY GX GZ E MX MZ L' (pc + 1) st) : q_LY GX GZ E MX MZ L pc (.ref x :: st) := by
  obtain ⟨p, e, R, s, m, args, below, meth, c, Q⟩ := E
  obtain ⟨hx, hb, -⟩ := F
  intro hM hM2 H locs ls hP hP2 hS hl
  exact lv_astore_n hx hb d rfl hl hn hL (fun ls hl => k hM hM2 H locs ls hP hP2 hS hl)
theorem l_iinc (F : q_LF GX GZ E b0 Ln xs) {i : Nat} {n x v : Int} (d : decode cL_law pc = .ok (.iinc i n, 3)) (j : Nat) (hj : L[j]? = some (i, .int (q_I x))) (hv : v = x + n) (L' : List (Nat × Value)) (hn : i < 4) (hL : (i, Value.int (q_I v)) :: L.filter (fun q => !(q.1 == i) && !(q.1 + 1 == i && q.2.category == 2)) = L') (k : q_LY GX GZ E MX MZ L' (pc + 3) st) : q_LY GX GZ E MX MZ L pc st := by
  obtain ⟨p, e, R, s, m, args, below, meth, c, Q⟩ := E
  obtain ⟨hx, hb, -⟩ := F
  intro hM hM2 H locs ls hP hP2 hS hl
  exact lv_iinc hx hb d hl hj (by rw [hv, ← q_Iadd]; rfl) hn hL (fun ls hl => k hM hM2 H locs ls hP hP2 hS hl)
theorem l_isub (F : q_LF GX GZ E b0 Ln xs) {a b : Int} (d : decode cL_law pc = .ok (.isub, 1)) (k : q_LY GX GZ E MX MZ L (pc + 1) (.int (q_I (a - b)) :: st)) : q_LY GX GZ E MX MZ L pc (.int (q_I b) :: .int (q_I a) :: st) := by
  obtain ⟨p, e, R, s, m, args, below, meth, c, Q⟩ := E
  obtain ⟨hx, hb, -⟩ := F
  intro hM hM2 H locs ls hP hP2 hS hl
  refine lv_isub hx hb d ?_
  rw [q_Isub]
  exact k hM hM2 H locs ls hP hP2 hS hl
theorem l_iadd (F : q_LF GX GZ E b0 Ln xs) {a b : Int} (d : decode cL_law pc = .ok (.iadd, 1)) (k : q_LY GX GZ E MX MZ L (pc + 1) (.int (q_I (a + b)) :: st)) : q_LY GX GZ E MX MZ L pc (.int (q_I b) :: .int (q_I a) :: st) := by
  obtain ⟨p, e, R, s, m, args, below, meth, c, Q⟩ := E
  obtain ⟨hx, hb, -⟩ := F
  intro hM hM2 H locs ls hP hP2 hS hl
  refine lv_iadd hx hb d ?_
  rw [q_Iadd]
  exact k hM hM2 H locs ls hP hP2 hS hl
theorem l_iand (F : q_LF GX GZ E b0 Ln xs) {a b : Int} (d : decode cL_law pc = .ok (.iand, 1)) (k : ∀ z : Int, z = q_and a b → (-2147483648 ≤ z ∧ z ≤ 2147483647) → q_LY GX GZ E MX MZ L (pc + 1) (.int (q_I z) :: st)) : q_LY GX GZ E MX MZ L pc (.int (q_I b) :: .int (q_I a) :: st) := by
  obtain ⟨p, e, R, s, m, args, below, meth, c, Q⟩ := E
  obtain ⟨hx, hb, -⟩ := F
  intro hM hM2 H locs ls hP hP2 hS hl
  refine lv_iand hx hb d ?_
  rw [← q_it (q_I a &&& q_I b)]
  exact k _ rfl (q_rt _) hM hM2 H locs ls hP hP2 hS hl
theorem l_icmp_gt (F : q_LF GX GZ E b0 Ln xs) {a b off : Int} (tgt : Nat) (d : decode cL_law pc = .ok (.if_icmp .gt off, 3)) (ht : (pc : Int) + off = (tgt : Int)) (hab : (-2147483648 ≤ a ∧ a ≤ 2147483647) ∧ (-2147483648 ≤ b ∧ b ≤ 2147483647)) (kt : b < a → q_LY GX GZ E MX MZ L tgt st) (kf : a ≤ b → q_LY GX GZ E MX MZ L (pc + 3) st) : q_LY GX GZ E MX MZ L pc (.int (q_I b) :: .int (q_I a) :: st) := by
  obtain ⟨p, e, R, s, m, args, below, meth, c, Q⟩ := E
  obtain ⟨hx, hb, -⟩ := F
  intro hM hM2 H locs ls hP hP2 hS hl
  obtain ⟨ha, hb2⟩ := hab
  refine lv_icmp_gt hx hb d ht (fun h => ?_) (fun h => ?_)
  · rw [q_Ilt hb2 ha] at h
    exact kt (by omega) hM hM2 H locs ls hP hP2 hS hl
  · rw [q_Ilt hb2 ha] at h
    exact kf (by omega) hM hM2 H locs ls hP hP2 hS hl
theorem l_icmp_eq (F : q_LF GX GZ E b0 Ln xs) {a b off : Int} (tgt : Nat) (d : decode cL_law pc = .ok (.if_icmp .eq off, 3)) (ht : (pc : Int) + off = (tgt : Int)) (hab : (-2147483648 ≤ a ∧ a ≤ 2147483647) ∧ (-2147483648 ≤ b ∧ b ≤ 2147483647)) (kt : a = b → q_LY GX GZ E MX MZ L tgt st) (kf : ¬ a = b → q_LY GX GZ E MX MZ L (pc + 3) st) : q_LY GX GZ E MX MZ L pc (.int (q_I b) :: .int (q_I a) :: st) := by
  obtain ⟨p, e, R, s, m, args, below, meth, c, Q⟩ := E
  obtain ⟨hx, hb, -⟩ := F
  intro hM hM2 H locs ls hP hP2 hS hl
  obtain ⟨ha, hb2⟩ := hab
  refine lv_icmp_eq hx hb d ht (fun h => ?_) (fun h => ?_)
  · rw [q_Ieq ha hb2] at h
    exact kt (by omega) hM hM2 H locs ls hP hP2 hS hl
  · rw [q_Ieq ha hb2] at h
    exact kf (by omega) hM hM2 H locs ls hP hP2 hS hl
theorem l_if_eq (F : q_LF GX GZ E b0 Ln xs) {a off : Int} (tgt : Nat) (d : decode cL_law pc = .ok (.ifCond .eq off, 3)) (ht : (pc : Int) + off = (tgt : Int)) (ha : (-2147483648 ≤ a ∧ a ≤ 2147483647)) (kt : a = 0 → q_LY GX GZ E MX MZ L tgt st) (kf : ¬ a = 0 → q_LY GX GZ E MX MZ L (pc + 3) st) : q_LY GX GZ E MX MZ L pc (.int (q_I a) :: st) := by
  obtain ⟨p, e, R, s, m, args, below, meth, c, Q⟩ := E
  obtain ⟨hx, hb, -⟩ := F
  intro hM hM2 H locs ls hP hP2 hS hl
  refine lv_if_eq hx hb d ht (fun h => ?_) (fun h => ?_)
  · rw [q_Ieq0 ha] at h
    exact kt (by omega) hM hM2 H locs ls hP hP2 hS hl
  · rw [q_Ieq0 ha] at h
    exact kf (by omega) hM hM2 H locs ls hP hP2 hS hl
theorem l_if_ne (F : q_LF GX GZ E b0 Ln xs) {a off : Int} (tgt : Nat) (d : decode cL_law pc = .ok (.ifCond .ne off, 3)) (ht : (pc : Int) + off = (tgt : Int)) (ha : (-2147483648 ≤ a ∧ a ≤ 2147483647)) (kt : ¬ a = 0 → q_LY GX GZ E MX MZ L tgt st) (kf : a = 0 → q_LY GX GZ E MX MZ L (pc + 3) st) : q_LY GX GZ E MX MZ L pc (.int (q_I a) :: st) := by
  obtain ⟨p, e, R, s, m, args, below, meth, c, Q⟩ := E
  obtain ⟨hx, hb, -⟩ := F
  intro hM hM2 H locs ls hP hP2 hS hl
  refine lv_if_ne hx hb d ht (fun h => ?_) (fun h => ?_)
  · rw [q_Ieq0 ha] at h
    exact kt (by omega) hM hM2 H locs ls hP hP2 hS hl
  · rw [q_Ieq0 ha] at h
    exact kf (by omega) hM hM2 H locs ls hP hP2 hS hl
theorem l_goto (F : q_LF GX GZ E b0 Ln xs) {off : Int} (tgt : Nat) (d : decode cL_law pc = .ok (.goto off, 3)) (ht : (pc : Int) + off = (tgt : Int)) (k : q_LY GX GZ E MX MZ L tgt st) : q_LY GX GZ E MX MZ L pc st := by
  obtain ⟨p, e, R, s, m, args, below, meth, c, Q⟩ := E
  obtain ⟨hx, hb, -⟩ := F
  intro hM hM2 H locs ls hP hP2 hS hl
  exact lv_goto hx hb d ht (k hM hM2 H locs ls hP hP2 hS hl)
theorem l_tableIn (F : q_LF GX GZ E b0 Ln xs) {dflt lo hi : Int} {offs : Array Int} {len : Nat} {a off : Int} (v : Int) (tgt : Nat) (d : decode cL_law pc = .ok (.tableswitch dflt lo hi offs, len)) (hv : a = v) (hr : (-2147483648 ≤ v ∧ v ≤ 2147483647) ∧ ¬ v < lo ∧ ¬ hi < v) (ho : offs[(v - lo).toNat]? = some off) (ht : (pc : Int) + off = (tgt : Int)) (k : q_LY GX GZ E MX MZ L tgt st) : q_LY GX GZ E MX MZ L pc (.int (q_I a) :: st) := by
  obtain ⟨p, e, R, s, m, args, below, meth, c, Q⟩ := E
  obtain ⟨hx, hb, -⟩ := F
  intro hM hM2 H locs ls hP hP2 hS hl
  subst hv
  exact lv_tableIn hx hb d (by rw [q_ti hr.1]; exact hr.2.1) (by rw [q_ti hr.1]; exact hr.2.2) (by rw [q_ti hr.1]; exact ho) ht (k hM hM2 H locs ls hP hP2 hS hl)
theorem l_tableOut (F : q_LF GX GZ E b0 Ln xs) {dflt lo hi : Int} {offs : Array Int} {len : Nat} {a : Int} (tgt : Nat) (d : decode cL_law pc = .ok (.tableswitch dflt lo hi offs, len)) (hr : (-2147483648 ≤ a ∧ a ≤ 2147483647) ∧ (a < lo ∨ hi < a)) (ht : (pc : Int) + dflt = (tgt : Int)) (k : q_LY GX GZ E MX MZ L tgt st) : q_LY GX GZ E MX MZ L pc (.int (q_I a) :: st) := by
  obtain ⟨p, e, R, s, m, args, below, meth, c, Q⟩ := E
  obtain ⟨hx, hb, -⟩ := F
  intro hM hM2 H locs ls hP hP2 hS hl
  exact lv_tableOut hx hb d (by rw [q_ti hr.1]; exact hr.2) ht (k hM hM2 H locs ls hP hP2 hS hl)
theorem l_drop (ks : List Nat) {L' : List (Nat × Value)} (hL : lv_pick L ks = L') (k : q_LY GX GZ E MX MZ L' pc st) : q_LY GX GZ E MX MZ L pc st := by
  obtain ⟨p, e, R, s, m, args, below, meth, c, Q⟩ := E
  intro hM hM2 H locs ls hP hP2 hS hl
  exact k hM hM2 H locs ls hP hP2 hS (lv_sub hl ks hL)
theorem l_nm {z : Int} (k : ∀ v : Int, v = z → q_LY GX GZ E MX MZ L pc (.int (q_I v) :: st)) : q_LY GX GZ E MX MZ L pc (.int (q_I z) :: st) := k z rfl
theorem l_lcmp (F : q_LF GX GZ E b0 Ln xs) {a b : Int} (d : decode cL_law pc = .ok (.lcmp, 1)) (hab : (-9223372036854775808 ≤ a ∧ a ≤ 9223372036854775807) ∧ (-9223372036854775808 ≤ b ∧ b ≤ 9223372036854775807)) (k : ∀ z : Int, (z = 0 ↔ a = b) → (-2147483648 ≤ z ∧ z ≤ 2147483647) → q_LY GX GZ E MX MZ L (pc + 1) (.int (q_I z) :: st)) : q_LY GX GZ E MX MZ L pc (.long (q_J b) :: .long (q_J a) :: st) := by
  obtain ⟨p, e, R, s, m, args, below, meth, c, Q⟩ := E
  obtain ⟨hx, hb, -⟩ := F
  intro hM hM2 H locs ls hP hP2 hS hl
  refine W.lcmp hx hb d ?_
  have h := q_Jeq hab.1 hab.2
  have hl2 := q_Jlt hab.2 hab.1
  unfold lg_cmp
  by_cases h1 : a = b
  · have h3 : ¬ b < a := by omega
    rw [if_neg (by rw [gt_iff_lt, hl2]; exact h3), if_pos (h.mpr h1)]
    exact k 0 (by simp [h1]) (by omega) hM hM2 H locs ls hP hP2 hS hl
  · by_cases h2 : b < a
    · rw [if_pos (by rw [gt_iff_lt, hl2]; exact h2)]
      exact k 1 (by simp [h1]) (by omega) hM hM2 H locs ls hP hP2 hS hl
    · rw [if_neg (by rw [gt_iff_lt, hl2]; exact h2), if_neg (fun q => h1 (h.mp q))]
      exact k (-1) (by simp [h1]) (by omega) hM hM2 H locs ls hP hP2 hS hl
theorem l_sld (F : q_LF GX GZ E b0 Ln xs) {i : Int} (hi : 0 ≤ i ∧ i < Ln) (hL : Ln ≤ 2560) (d : decode cL_law pc = .ok (.iaload, 1)) (k : q_LY GX GZ E MX MZ L (pc + 1) (.int (q_I (q_sc xs i)) :: st)) : q_LY GX GZ E MX MZ L pc (.int (q_I i) :: .ref b0 :: st) := by
  obtain ⟨p, e, R, s, m, args, below, meth, c, Q⟩ := E
  obtain ⟨hx, hb, hml, hown, hts, hlk, hR, hK, hN, hI, ⟨hX, hbl⟩, -⟩ := F
  intro hM hM2 H locs ls hP hP2 hS hl
  have hcl := q_Icl hi.1 (show i ≤ 2147483647 by omega)
  have hv : xs (q_I i).toNatClampNeg = q_I (q_sc xs i) := by
    unfold q_sc
    rw [q_it, show i.toNat = (q_I i).toNatClampNeg by omega]
  refine va_sld hx hb hX hbl (Nat.not_le.mpr hbl) hS (q_Iin hi.1 hi.2 (by omega)) d ?_
  rw [hv]
  exact k hM hM2 H locs ls hP hP2 hS hl
theorem l_slen (F : q_LF GX GZ E b0 Ln xs) (d : decode cL_law pc = .ok (.arraylength, 1)) (k : q_LY GX GZ E MX MZ L (pc + 1) (.int (q_I Ln) :: st)) : q_LY GX GZ E MX MZ L pc (.ref b0 :: st) := by
  obtain ⟨p, e, R, s, m, args, below, meth, c, Q⟩ := E
  obtain ⟨hx, hb, hml, hown, hts, hlk, hR, hK, hN, hI, ⟨hX, hbl⟩, -⟩ := F
  intro hM hM2 H locs ls hP hP2 hS hl
  refine va_slen hx hb hX hbl (Nat.not_le.mpr hbl) hS d ?_
  rw [show Int32.ofNat Ln = q_I Ln from Int32.ofInt_eq_ofNat.symm]
  exact k hM hM2 H locs ls hP hP2 hS hl
theorem l_ret (F : q_LF GX GZ E b0 Ln xs) (d : decode cL_law pc = .ok (.ireturn, 1)) : q_LY GX GZ E MX MZ L pc [.int (q_I 1)] := by
  obtain ⟨p, e, R, s, m, args, below, meth, c, Q⟩ := E
  obtain ⟨hx, hb, hml, hown, hts, hlk, hR, hK, hN, hI, ⟨hX, hbl⟩, ha, hQ, hr⟩ := F
  intro hM hM2 H locs ls hP hP2 hS hl
  subst ha; subst hQ; subst hR
  exact va_forget hS.2.2 (lw_ret hx hb hr hlk d)
theorem l_lcmpS (F : q_LF GX GZ E b0 Ln xs) {a : Int64} (d : decode cL_law pc = .ok (.lcmp, 1)) (k : q_LY GX GZ E MX MZ L (pc + 1) (.int (q_I 0) :: st)) : q_LY GX GZ E MX MZ L pc (.long a :: .long a :: st) := by
  obtain ⟨p, e, R, s, m, args, below, meth, c, Q⟩ := E
  obtain ⟨hx, hb, -⟩ := F
  intro hM hM2 H locs ls hP hP2 hS hl
  refine W.lcmp hx hb d ?_
  have h : lg_cmp a a = 0 := by
    unfold lg_cmp
    simp
  rw [h]
  exact k hM hM2 H locs ls hP hP2 hS hl
theorem l_X (F : q_LF GX GZ E b0 Ln xs) {hi : Nat} (h : E.2.2.2.1.heap.size ≤ hi) {q : Nat} (hq : q_A GX hi q) : E.2.2.2.1.heap.size ≤ q := by
  obtain ⟨p, e, R, s, m, args, below, meth, c, Q⟩ := E
  obtain ⟨-, -, -, -, -, -, -, -, -, hI, -⟩ := F
  rcases hq with ⟨k, hk, rfl⟩ | hq
  · exact hI.2.2.2.1 k hk
  · exact Nat.le_trans h hq
theorem l_Z (F : q_LF GX GZ E b0 Ln xs) {hi : Nat} (h : E.2.2.2.1.heap.size ≤ hi) {q : Nat} (hq : q_A GZ hi q) : E.2.2.2.1.heap.size ≤ q := by
  obtain ⟨p, e, R, s, m, args, below, meth, c, Q⟩ := E
  obtain ⟨-, -, -, -, -, -, -, -, -, hI, -⟩ := F
  rcases hq with ⟨k, hk, rfl⟩ | hq
  · exact hI.2.2.2.2 k hk
  · exact Nat.le_trans h hq
theorem l_kX (F : q_LF GX GZ E b0 Ln xs) {H H1 : Heap} (hP2 : va_P GX.2.1 vwCl (q_w GZ MZ) H) (hk : ∀ q : Nat, q < H.size → ¬ q_A GX H.size q → H1[q]? = H[q]?) : va_P GX.2.1 vwCl (q_w GZ MZ) H1 := by
  obtain ⟨p, e, R, s, m, args, below, meth, c, Q⟩ := E
  obtain ⟨-, -, -, -, -, -, -, -, -, hI, -⟩ := F
  refine hP2.kept (fun k q hq => ?_)
  have hlt := (hP2 k q hq).lt
  obtain ⟨a1, a2⟩ := q_w_ad hq
  refine hk q.1 hlt (fun hA => ?_)
  rcases hA with ⟨j, hj, he⟩ | hA
  · exact hI.2.2.1 j k hj a1 (by rw [← he, a2])
  · omega
theorem l_kZ (F : q_LF GX GZ E b0 Ln xs) {H H1 : Heap} (hP : va_P GX.2.1 vwCl (q_w GX MX) H) (hk : ∀ q : Nat, q < H.size → ¬ q_A GZ H.size q → H1[q]? = H[q]?) : va_P GX.2.1 vwCl (q_w GX MX) H1 := by
  obtain ⟨p, e, R, s, m, args, below, meth, c, Q⟩ := E
  obtain ⟨-, -, -, -, -, -, -, -, -, hI, -⟩ := F
  refine hP.kept (fun k q hq => ?_)
  have hlt := (hP k q hq).lt
  obtain ⟨a1, a2⟩ := q_w_ad hq
  refine hk q.1 hlt (fun hA => ?_)
  rcases hA with ⟨j, hj, he⟩ | hA
  · exact hI.2.2.1 k j a1 hj (by rw [← he, a2])
  · omega
theorem l_callXI (F : q_LF GX GZ E b0 Ln xs) {Cn : String} {T : u_T} {N ci : Nat} {kb : Nat} {fs : List (Option Nat)} {y : MethodName} {ws ws' : List Cond} {rmc : Room} {As rest : List Value} {bytes : ByteArray} {maxL index n : Nat} {ret : Option FieldType} {post : Int → q_M → Prop} (C : q_CI GX y ws rmc (.ref (q_ad GX kb) :: As) MX post) (hw : ws = Cond.code y bytes maxL ret :: ws') (hc : vwCl[ci]? = some (Cn, T, N)) (hs : q_sh GX kb = some (.inr (ci, fs))) (hG : GoodIn wsL_law (wsV RL index Cn y ws)) (hcn : y.cls = Cn) (hd : y.cls ≠ "java/lang/invoke/MethodHandle" ∧ y.cls ≠ "java/lang/invoke/VarHandle" ∧ (parseMethodDescriptor y.desc).map (fun d => d.parameters.length) = some n) (hn : As.length = n) (hrm : rmc.cells = 0 ∧ rmc.slots = 0 ∧ rmc.frames + 1 ≤ room_1.frames ∧ 8 + (maxL + 11) + rmc.locals ≤ room_1.locals) (hst : st = As.reverse ++ .ref (q_ad GX kb) :: rest) (hW : (rest.map fun v => v.category).sum ≤ 8) (d : decode cL_law pc = .ok (.invokevirtual index, 3)) (k : ∀ (z : Int) (M' : q_M), (-2147483648 ≤ z ∧ z ≤ 2147483647) → post z M' → q_LY GX GZ E M' MZ L (pc + 3) (.int (q_I z) :: rest)) : q_LY GX GZ E MX MZ L pc st := by
  obtain ⟨p, e, R, s, m, args, below, meth, c, Q⟩ := E
  have F0' := F
  obtain ⟨hx, hb, hml, hown, hts, hlk, hR, hK, hN, hI, -⟩ := F
  intro hM hM2 H locs ls hP hP2 hS hl
  subst hR; subst hst
  refine va_calli (va_runV (As := As) (rest := rest) ⟨hx, hb, hml, hown, hts⟩ (C H.size) (cwV n hts hG hw hrm.1 hrm.2.1 ⟨hcn, hd⟩ ⟨hrm.2.2.1, hrm.2.2.2⟩) ⟨q_blind, va_recv hK hP hc (q_w_get hs), fun U hU hW => ⟨rfl, by rw [hU], hM, by rw [hU]; exact hP, va_K.moved hW.alike hK, q_NW_alike hW hN⟩⟩ rfl hn hl.1 rfl (lv_room hW) d ⟨Nat.le_of_ble_eq_true rfl, Nat.le_of_ble_eq_true rfl⟩) hS (fun q _ h => l_X F0' hS.1 h) (fun q h => l_X F0' hS.1 h) (fun r u t H1 locs1 ht hvm hw hB hz1 hk1 hS1 => ?_)
  obtain ⟨z, rfl, hz, hp⟩ := hw
  exact k z u hz hp hB.1 hM2 H1 locs1 ls (by rw [← ht]; exact hB.2) (l_kX F0' hP2 hk1) hS1 hl
theorem l_callXL (F : q_LF GX GZ E b0 Ln xs) {Cn : String} {T : u_T} {N ci : Nat} {kb : Nat} {fs : List (Option Nat)} {y : MethodName} {ws ws' : List Cond} {rmc : Room} {As rest : List Value} {bytes : ByteArray} {maxL index n : Nat} {ret : Option FieldType} {post : Int64 → q_M → Prop} (C : q_CL GX y ws rmc (.ref (q_ad GX kb) :: As) MX post) (hw : ws = Cond.code y bytes maxL ret :: ws') (hc : vwCl[ci]? = some (Cn, T, N)) (hs : q_sh GX kb = some (.inr (ci, fs))) (hG : GoodIn wsL_law (wsV RL index Cn y ws)) (hcn : y.cls = Cn) (hd : y.cls ≠ "java/lang/invoke/MethodHandle" ∧ y.cls ≠ "java/lang/invoke/VarHandle" ∧ (parseMethodDescriptor y.desc).map (fun d => d.parameters.length) = some n) (hn : As.length = n) (hrm : rmc.cells = 0 ∧ rmc.slots = 0 ∧ rmc.frames + 1 ≤ room_1.frames ∧ 8 + (maxL + 11) + rmc.locals ≤ room_1.locals) (hst : st = As.reverse ++ .ref (q_ad GX kb) :: rest) (hW : (rest.map fun v => v.category).sum ≤ 8) (d : decode cL_law pc = .ok (.invokevirtual index, 3)) (k : ∀ (z : Int64) (M' : q_M), post z M' → q_LY GX GZ E M' MZ L (pc + 3) (.long z :: rest)) : q_LY GX GZ E MX MZ L pc st := by
  obtain ⟨p, e, R, s, m, args, below, meth, c, Q⟩ := E
  have F0' := F
  obtain ⟨hx, hb, hml, hown, hts, hlk, hR, hK, hN, hI, -⟩ := F
  intro hM hM2 H locs ls hP hP2 hS hl
  subst hR; subst hst
  refine va_calll (va_runV (As := As) (rest := rest) ⟨hx, hb, hml, hown, hts⟩ (C H.size) (cwV n hts hG hw hrm.1 hrm.2.1 ⟨hcn, hd⟩ ⟨hrm.2.2.1, hrm.2.2.2⟩) ⟨q_blind, va_recv hK hP hc (q_w_get hs), fun U hU hW => ⟨rfl, by rw [hU], hM, by rw [hU]; exact hP, va_K.moved hW.alike hK, q_NW_alike hW hN⟩⟩ rfl hn hl.1 rfl (lv_room hW) d ⟨Nat.le_of_ble_eq_true rfl, Nat.le_of_ble_eq_true rfl⟩) hS (fun q _ h => l_X F0' hS.1 h) (fun q h => l_X F0' hS.1 h) (fun r u t H1 locs1 ht hvm hw hB hz1 hk1 hS1 => ?_)
  exact k r u hw hB.1 hM2 H1 locs1 ls (by rw [← ht]; exact hB.2) (l_kX F0' hP2 hk1) hS1 hl
theorem l_callZI (F : q_LF GX GZ E b0 Ln xs) (hg : GZ.1 = GX.1 ∧ GZ.2.1 = GX.2.1 ∧ GZ.2.2.1 = GX.2.2.1 ∧ GZ.2.2.2.1 = GX.2.2.2.1) {Cn : String} {T : u_T} {N ci : Nat} {kb : Nat} {fs : List (Option Nat)} {y : MethodName} {ws ws' : List Cond} {rmc : Room} {As rest : List Value} {bytes : ByteArray} {maxL index n : Nat} {ret : Option FieldType} {post : Int → q_M → Prop} (C : q_CI GZ y ws rmc (.ref (q_ad GZ kb) :: As) MZ post) (hw : ws = Cond.code y bytes maxL ret :: ws') (hc : vwCl[ci]? = some (Cn, T, N)) (hs : q_sh GZ kb = some (.inr (ci, fs))) (hG : GoodIn wsL_law (wsV RL index Cn y ws)) (hcn : y.cls = Cn) (hd : y.cls ≠ "java/lang/invoke/MethodHandle" ∧ y.cls ≠ "java/lang/invoke/VarHandle" ∧ (parseMethodDescriptor y.desc).map (fun d => d.parameters.length) = some n) (hn : As.length = n) (hrm : rmc.cells = 0 ∧ rmc.slots = 0 ∧ rmc.frames + 1 ≤ room_1.frames ∧ 8 + (maxL + 11) + rmc.locals ≤ room_1.locals) (hst : st = As.reverse ++ .ref (q_ad GZ kb) :: rest) (hW : (rest.map fun v => v.category).sum ≤ 8) (d : decode cL_law pc = .ok (.invokevirtual index, 3)) (k : ∀ (z : Int) (M' : q_M), (-2147483648 ≤ z ∧ z ≤ 2147483647) → post z M' → q_LY GX GZ E MX M' L (pc + 3) (.int (q_I z) :: rest)) : q_LY GX GZ E MX MZ L pc st := by
  obtain ⟨p, e, R, s, m, args, below, meth, c, Q⟩ := E
  have F0' := F
  obtain ⟨hx, hb, hml, hown, hts, hlk, hR, hK, hN, hI, -⟩ := F
  intro hM hM2 H locs ls hP hP2 hS hl
  subst hR; subst hst
  obtain ⟨l1, D1, cI1, cZ1, ad1, sh1⟩ := GZ
  obtain ⟨g1, g2, g3, g4⟩ := hg
  dsimp only at g1 g2 g3 g4
  subst g1; subst g2; subst g3; subst g4
  refine va_calli (va_runV (As := As) (rest := rest) ⟨hx, hb, hml, hown, hts⟩ (C H.size) (cwV n hts hG hw hrm.1 hrm.2.1 ⟨hcn, hd⟩ ⟨hrm.2.2.1, hrm.2.2.2⟩) ⟨q_blind, va_recv hK hP2 hc (q_w_get hs), fun U hU hW => ⟨rfl, by rw [hU], hM2, by rw [hU]; exact hP2, va_K.moved hW.alike hK, q_NW_alike hW hN⟩⟩ rfl hn hl.1 rfl (lv_room hW) d ⟨Nat.le_of_ble_eq_true rfl, Nat.le_of_ble_eq_true rfl⟩) hS (fun q _ h => l_Z F0' hS.1 h) (fun q h => l_Z F0' hS.1 h) (fun r u t H1 locs1 ht hvm hw hB hz1 hk1 hS1 => ?_)
  obtain ⟨z, rfl, hz, hp⟩ := hw
  exact k z u hz hp hM hB.1 H1 locs1 ls (l_kZ F0' hP hk1) (by rw [← ht]; exact hB.2) hS1 hl
theorem l_callZL (F : q_LF GX GZ E b0 Ln xs) (hg : GZ.1 = GX.1 ∧ GZ.2.1 = GX.2.1 ∧ GZ.2.2.1 = GX.2.2.1 ∧ GZ.2.2.2.1 = GX.2.2.2.1) {Cn : String} {T : u_T} {N ci : Nat} {kb : Nat} {fs : List (Option Nat)} {y : MethodName} {ws ws' : List Cond} {rmc : Room} {As rest : List Value} {bytes : ByteArray} {maxL index n : Nat} {ret : Option FieldType} {post : Int64 → q_M → Prop} (C : q_CL GZ y ws rmc (.ref (q_ad GZ kb) :: As) MZ post) (hw : ws = Cond.code y bytes maxL ret :: ws') (hc : vwCl[ci]? = some (Cn, T, N)) (hs : q_sh GZ kb = some (.inr (ci, fs))) (hG : GoodIn wsL_law (wsV RL index Cn y ws)) (hcn : y.cls = Cn) (hd : y.cls ≠ "java/lang/invoke/MethodHandle" ∧ y.cls ≠ "java/lang/invoke/VarHandle" ∧ (parseMethodDescriptor y.desc).map (fun d => d.parameters.length) = some n) (hn : As.length = n) (hrm : rmc.cells = 0 ∧ rmc.slots = 0 ∧ rmc.frames + 1 ≤ room_1.frames ∧ 8 + (maxL + 11) + rmc.locals ≤ room_1.locals) (hst : st = As.reverse ++ .ref (q_ad GZ kb) :: rest) (hW : (rest.map fun v => v.category).sum ≤ 8) (d : decode cL_law pc = .ok (.invokevirtual index, 3)) (k : ∀ (z : Int64) (M' : q_M), post z M' → q_LY GX GZ E MX M' L (pc + 3) (.long z :: rest)) : q_LY GX GZ E MX MZ L pc st := by
  obtain ⟨p, e, R, s, m, args, below, meth, c, Q⟩ := E
  have F0' := F
  obtain ⟨hx, hb, hml, hown, hts, hlk, hR, hK, hN, hI, -⟩ := F
  intro hM hM2 H locs ls hP hP2 hS hl
  subst hR; subst hst
  obtain ⟨l1, D1, cI1, cZ1, ad1, sh1⟩ := GZ
  obtain ⟨g1, g2, g3, g4⟩ := hg
  dsimp only at g1 g2 g3 g4
  subst g1; subst g2; subst g3; subst g4
  refine va_calll (va_runV (As := As) (rest := rest) ⟨hx, hb, hml, hown, hts⟩ (C H.size) (cwV n hts hG hw hrm.1 hrm.2.1 ⟨hcn, hd⟩ ⟨hrm.2.2.1, hrm.2.2.2⟩) ⟨q_blind, va_recv hK hP2 hc (q_w_get hs), fun U hU hW => ⟨rfl, by rw [hU], hM2, by rw [hU]; exact hP2, va_K.moved hW.alike hK, q_NW_alike hW hN⟩⟩ rfl hn hl.1 rfl (lv_room hW) d ⟨Nat.le_of_ble_eq_true rfl, Nat.le_of_ble_eq_true rfl⟩) hS (fun q _ h => l_Z F0' hS.1 h) (fun q h => l_Z F0' hS.1 h) (fun r u t H1 locs1 ht hvm hw hB hz1 hk1 hS1 => ?_)
  exact k r u hw hM hB.1 H1 locs1 ls (l_kZ F0' hP hk1) (by rw [← ht]; exact hB.2) hS1 hl
end LAWR
