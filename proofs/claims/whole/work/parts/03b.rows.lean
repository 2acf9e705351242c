/-! more rows: long constants, unsigned shift, longs; the count of bits -/
section QR
variable {G : q_G} {E : q_E} {own : String} {Ts : List Cond} {cc : ByteArray} {nL : Nat} {rm : Room} {M : q_M} {L : List (Nat × Value)} {pc : Nat} {st : List Value}

theorem q_ldc_w (F : q_F G E own Ts cc nL rm) {index : Nat} {n : Int} (d : decode cc pc = .ok (.ldc_w index, 3)) (hc : Cond.constant own index (q_I n) ∈ Ts) (k : q_Y G E nL M L (pc + 3) (.int (q_I n) :: st)) : q_Y G E nL M L pc st := by
  obtain ⟨p, e, R, s, m, args, below, meth, c, Q⟩ := E
  obtain ⟨hx, hb, hml, hown, hts, hlk, hR, hK, hN, hI⟩ := F
  intro hM H locs ls hP hS hl
  exact lv_ldcw hx hb hown (hts _ hc) d (k hM H locs ls hP hS hl)

def q_ushr (a b : Int) : Int := (((q_I a).toUInt32 >>> ((q_I b).toUInt32 &&& Int32.toUInt32 31)).toInt32).toInt
theorem q_iushr (F : q_F G E own Ts cc nL rm) {a b : Int} (d : decode cc pc = .ok (.iushr, 1)) (k : ∀ z : Int, z = q_ushr a b → (-2147483648 ≤ z ∧ z ≤ 2147483647) → q_Y G E nL M L (pc + 1) (.int (q_I z) :: st)) : q_Y G E nL M L pc (.int (q_I b) :: .int (q_I a) :: st) := by
  obtain ⟨p, e, R, s, m, args, below, meth, c, Q⟩ := E
  obtain ⟨hx, hb, hml, hown, hts, hlk, hR, hK, hN, hI⟩ := F
  intro hM H locs ls hP hS hl
  exact lv_iushr hx hb d (q_it _).symm (k _ rfl (q_rt _) hM H locs ls hP hS hl)

def q_J (z : Int) : Int64 := Int64.ofInt z
theorem q_tj {z : Int} (h : -9223372036854775808 ≤ z ∧ z ≤ 9223372036854775807) : (q_J z).toInt = z := Int64.toInt_ofInt_of_le (by omega) (by omega)
theorem q_jt (x : Int64) : q_J x.toInt = x := Int64.ofInt_toInt x
theorem q_Jadd (a b : Int) : q_J a + q_J b = q_J (a + b) := (Int64.ofInt_add a b).symm
theorem q_Jsub (a b : Int) : q_J a - q_J b = q_J (a - b) := (Int64.ofInt_sub a b).symm
theorem q_Jmul (a b : Int) : q_J a * q_J b = q_J (a * b) := (Int64.ofInt_mul a b).symm
theorem q_Jeq {a b : Int} (ha : -9223372036854775808 ≤ a ∧ a ≤ 9223372036854775807) (hb : -9223372036854775808 ≤ b ∧ b ≤ 9223372036854775807) : q_J a = q_J b ↔ a = b := by
  constructor
  · intro h
    rw [← q_tj ha, ← q_tj hb, h]
  · intro h
    rw [h]
theorem q_Jlt {a b : Int} (ha : -9223372036854775808 ≤ a ∧ a ≤ 9223372036854775807) (hb : -9223372036854775808 ≤ b ∧ b ≤ 9223372036854775807) : q_J a < q_J b ↔ a < b := by
  rw [Int64.lt_iff_toInt_lt, q_tj ha, q_tj hb]
theorem q_Jdiv {a b : Int} (ha : 0 ≤ a ∧ a ≤ 9223372036854775807) (hb : 0 < b ∧ b ≤ 9223372036854775807) : q_J a / q_J b = q_J (a / b) := by
  have h : q_J b ≠ -1 := by
    intro h
    have h2 : q_J b = q_J (-1) := h
    rw [q_Jeq (by omega) (by omega)] at h2
    omega
  rw [← q_jt (q_J a / q_J b), Int64.toInt_div_of_ne_right _ _ h, q_tj (by omega), q_tj (by omega), Int.tdiv_eq_ediv_of_nonneg ha.1]
theorem q_Jrem {a b : Int} (ha : 0 ≤ a ∧ a ≤ 9223372036854775807) (hb : 0 < b ∧ b ≤ 9223372036854775807) : q_J a - q_J a / q_J b * q_J b = q_J (a % b) := by
  rw [q_Jdiv ha hb, q_Jmul, q_Jsub, Int.emod_def, Int.mul_comm b]
theorem q_IJ {z : Int} (h : -2147483648 ≤ z ∧ z ≤ 2147483647) : (q_I z).toInt64 = q_J z := by
  rw [← q_jt ((q_I z).toInt64), Int32.toInt_toInt64, q_ti h]
theorem q_J0 : q_J 0 = 0 := rfl

theorem q_nmJ {z : Int} (k : ∀ v : Int, v = z → q_Y G E nL M L pc (.long (q_J v) :: st)) : q_Y G E nL M L pc (.long (q_J z) :: st) := k z rfl

theorem q_lconst (F : q_F G E own Ts cc nL rm) {n : Fin 2} {z : Int} (d : decode cc pc = .ok (.lconst n, 1)) (hz : z = ((n : Nat) : Int)) (k : q_Y G E nL M L (pc + 1) (.long (q_J z) :: st)) : q_Y G E nL M L pc st := by
  obtain ⟨p, e, R, s, m, args, below, meth, c, Q⟩ := E
  obtain ⟨hx, hb, hml, hown, hts, hlk, hR, hK, hN, hI⟩ := F
  intro hM H locs ls hP hS hl
  exact lv_lconst hx hb d (by rw [hz]; exact Int64.ofInt_eq_ofNat.symm) (k hM H locs ls hP hS hl)

theorem q_ldc2 (F : q_F G E own Ts cc nL rm) {index : Nat} {n : Int} (d : decode cc pc = .ok (.ldc2_w index, 3)) (hc : Cond.constantLong own index (q_J n) ∈ Ts) (k : q_Y G E nL M L (pc + 3) (.long (q_J n) :: st)) : q_Y G E nL M L pc st := by
  obtain ⟨p, e, R, s, m, args, below, meth, c, Q⟩ := E
  obtain ⟨hx, hb, hml, hown, hts, hlk, hR, hK, hN, hI⟩ := F
  intro hM H locs ls hP hS hl
  exact lv_ldc2 hx hb hown (hts _ hc) d (k hM H locs ls hP hS hl)

theorem q_lload (F : q_F G E own Ts cc nL rm) {i : Nat} {z : Int} (d : decode cc pc = .ok (.lload i, 2)) (j : Nat) (hj : L[j]? = some (i, .long (q_J z))) (k : q_Y G E nL M L (pc + 2) (.long (q_J z) :: st)) : q_Y G E nL M L pc st := by
  obtain ⟨p, e, R, s, m, args, below, meth, c, Q⟩ := E
  obtain ⟨hx, hb, hml, hown, hts, hlk, hR, hK, hN, hI⟩ := F
  intro hM H locs ls hP hS hl
  exact lv_lload hx hb d (lv_at hl j hj) (k hM H locs ls hP hS hl)

theorem q_lstore (F : q_F G E own Ts cc nL rm) {i : Nat} {z : Int} (d : decode cc pc = .ok (.lstore i, 2)) (L' : List (Nat × Value)) (hn : i + 1 < nL) (hL : (i, Value.long (q_J z)) :: L.filter (fun q => !(q.1 == i) && (!(q.1 == i + 1) && !(q.1 + 1 == i && q.2.category == 2))) = L') (k : q_Y G E nL M L' (pc + 2) st) : q_Y G E nL M L pc (.long (q_J z) :: st) := by
  obtain ⟨p, e, R, s, m, args, below, meth, c, Q⟩ := E
  obtain ⟨hx, hb, hml, hown, hts, hlk, hR, hK, hN, hI⟩ := F
  intro hM H locs ls hP hS hl
  exact lv_lstore hx hb d hl hn hL (fun ls hl => k hM H locs ls hP hS hl)

theorem q_i2l (F : q_F G E own Ts cc nL rm) {a : Int} (d : decode cc pc = .ok (.i2l, 1)) (ha : (-2147483648 ≤ a ∧ a ≤ 2147483647)) (k : q_Y G E nL M L (pc + 1) (.long (q_J a) :: st)) : q_Y G E nL M L pc (.int (q_I a) :: st) := by
  obtain ⟨p, e, R, s, m, args, below, meth, c, Q⟩ := E
  obtain ⟨hx, hb, hml, hown, hts, hlk, hR, hK, hN, hI⟩ := F
  intro hM H locs ls hP hS hl
  exact lv_i2l hx hb d (q_IJ ha) (k hM H locs ls hP hS hl)

theorem q_ladd (F : q_F G E own Ts cc nL rm) {a b : Int} (d : decode cc pc = .ok (.ladd, 1)) (k : q_Y G E nL M L (pc + 1) (.long (q_J (a + b)) :: st)) : q_Y G E nL M L pc (.long (q_J b) :: .long (q_J a) :: st) := by
  obtain ⟨p, e, R, s, m, args, below, meth, c, Q⟩ := E
  obtain ⟨hx, hb, hml, hown, hts, hlk, hR, hK, hN, hI⟩ := F
  intro hM H locs ls hP hS hl
  refine lv_ladd hx hb d ?_
  rw [q_Jadd]
  exact k hM H locs ls hP hS hl

theorem q_lmul (F : q_F G E own Ts cc nL rm) {a b : Int} (d : decode cc pc = .ok (.lmul, 1)) (k : q_Y G E nL M L (pc + 1) (.long (q_J (a * b)) :: st)) : q_Y G E nL M L pc (.long (q_J b) :: .long (q_J a) :: st) := by
  obtain ⟨p, e, R, s, m, args, below, meth, c, Q⟩ := E
  obtain ⟨hx, hb, hml, hown, hts, hlk, hR, hK, hN, hI⟩ := F
  intro hM H locs ls hP hS hl
  refine lv_lmul hx hb d ?_
  rw [q_Jmul]
  exact k hM H locs ls hP hS hl

theorem q_ldiv (F : q_F G E own Ts cc nL rm) {a b : Int} (d : decode cc pc = .ok (.ldiv, 1)) (hab : (0 ≤ a ∧ a ≤ 9223372036854775807) ∧ (0 < b ∧ b ≤ 9223372036854775807)) (k : q_Y G E nL M L (pc + 1) (.long (q_J (a / b)) :: st)) : q_Y G E nL M L pc (.long (q_J b) :: .long (q_J a) :: st) := by
  obtain ⟨p, e, R, s, m, args, below, meth, c, Q⟩ := E
  obtain ⟨hx, hb, hml, hown, hts, hlk, hR, hK, hN, hI⟩ := F
  intro hM H locs ls hP hS hl
  refine lv_ldiv hx hb d (fun h => ?_) ?_
  · rw [← q_J0, q_Jeq (by omega) (by omega)] at h
    omega
  · rw [q_Jdiv hab.1 hab.2]
    exact k hM H locs ls hP hS hl

theorem q_lrem (F : q_F G E own Ts cc nL rm) {a b : Int} (d : decode cc pc = .ok (.lrem, 1)) (hab : (0 ≤ a ∧ a ≤ 9223372036854775807) ∧ (0 < b ∧ b ≤ 9223372036854775807)) (k : q_Y G E nL M L (pc + 1) (.long (q_J (a % b)) :: st)) : q_Y G E nL M L pc (.long (q_J b) :: .long (q_J a) :: st) := by
  obtain ⟨p, e, R, s, m, args, below, meth, c, Q⟩ := E
  obtain ⟨hx, hb, hml, hown, hts, hlk, hR, hK, hN, hI⟩ := F
  intro hM H locs ls hP hS hl
  refine lv_lrem hx hb d (fun h => ?_) ?_
  · rw [← q_J0, q_Jeq (by omega) (by omega)] at h
    omega
  · rw [q_Jrem hab.1 hab.2]
    exact k hM H locs ls hP hS hl

theorem q_lcmp (F : q_F G E own Ts cc nL rm) {a b : Int} (d : decode cc pc = .ok (.lcmp, 1)) (hab : (-9223372036854775808 ≤ a ∧ a ≤ 9223372036854775807) ∧ (-9223372036854775808 ≤ b ∧ b ≤ 9223372036854775807)) (k : ∀ z : Int, (z = 0 ↔ a = b) → (-2147483648 ≤ z ∧ z ≤ 2147483647) → q_Y G E nL M L (pc + 1) (.int (q_I z) :: st)) : q_Y G E nL M L pc (.long (q_J b) :: .long (q_J a) :: st) := by
  obtain ⟨p, e, R, s, m, args, below, meth, c, Q⟩ := E
  obtain ⟨hx, hb, hml, hown, hts, hlk, hR, hK, hN, hI⟩ := F
  intro hM H locs ls hP hS hl
  refine W.lcmp hx hb d ?_
  have h := q_Jeq hab.1 hab.2
  have hl2 := q_Jlt hab.2 hab.1
  unfold lg_cmp
  by_cases h1 : a = b
  · have h3 : ¬ b < a := by omega
    rw [if_neg (by rw [gt_iff_lt, hl2]; exact h3), if_pos (h.mpr h1)]
    exact k 0 (by simp [h1]) (by omega) hM H locs ls hP hS hl
  · by_cases h2 : b < a
    · rw [if_pos (by rw [gt_iff_lt, hl2]; exact h2)]
      exact k 1 (by simp [h1]) (by omega) hM H locs ls hP hS hl
    · rw [if_neg (by rw [gt_iff_lt, hl2]; exact h2), if_neg (fun q => h1 (h.mp q))]
      exact k (-1) (by simp [h1]) (by omega) hM H locs ls hP hS hl
/-- the set's number of members, as the JDK counts -/
def q_pop0 (s : Int) : Int := s - q_and (q_ushr s 1) 1431655765
def q_pop1 (a : Int) : Int := q_and a 858993459 + q_and (q_ushr a 2) 858993459
def q_pop2 (b : Int) : Int := q_and (b + q_ushr b 4) 252645135
def q_pop3 (c : Int) : Int := c + q_ushr c 8
def q_pop4 (d : Int) : Int := q_and (d + q_ushr d 16) 63
theorem q_pop_eq {s : Int} (h0 : 0 ≤ s) (h1 : s ≤ 63) : q_pop4 (q_pop3 (q_pop2 (q_pop1 (q_pop0 s)))) = q_cnt (q_has s) := q_dec64 (p := fun s => q_pop4 (q_pop3 (q_pop2 (q_pop1 (q_pop0 s)))) = q_cnt (q_has s)) (by decide +kernel) h0 h1

end QR
