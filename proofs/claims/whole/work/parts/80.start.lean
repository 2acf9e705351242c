/-! the start -/
set_option maxHeartbeats 4000000 in
set_option maxRecDepth 100000 in
theorem q_nest_in : ∀ q ∈ q_nest, Cond.methodLinkNest q.1 q.2.1 q.2.2.1 q.2.2.2 ∈ lw_tbl := by decide +kernel
theorem q_arr_of {s : State} {args : Array Value} {ty : FieldType} (hp : ty = .int ∨ ty = .boolean) (h : (Cond.arrayClass ty).before args s = true) : ∃ cA : ClassId, ArrOfT s cA ty ∧ va_RA s cA ty := by
  obtain ⟨cA, kA, comp, h1, h2, h3⟩ := Cond.arrayClass_spec h
  rcases hp with rfl | rfl
  · exact ⟨cA, fun n z => ⟨fun k h => (by cases h), kA, h2, comp, h3⟩, h1⟩
  · exact ⟨cA, fun n z => ⟨fun k h => (by cases h), kA, h2, comp, h3⟩, h1⟩
theorem q_w_some {G : q_G} {M : q_M} {i : Nat} (h : i < q_n G) : ∃ e : Nat × va_E, (q_w G M)[i]? = some e ∧ e.1 = q_ad G i := by
  have h1 : q_sh G i = some (G.2.2.2.2.2[i]) := List.getElem?_eq_getElem h
  exact ⟨_, q_w_get h1, rfl⟩
theorem q_inj_of {G : q_G} {M : q_M} {A : Nat → Prop} (h : va_D A (q_w G M)) : q_inj G := by
  intro i j hi hj he
  obtain ⟨e1, a1, b1⟩ := q_w_some (M := M) hi
  obtain ⟨e2, a2, b2⟩ := q_w_some (M := M) hj
  exact h.1 i j e1 e2 a1 a2 (by rw [b1, b2, he])
theorem q_ge_of {G : q_G} {M : q_M} {A : Nat → Prop} (h : va_D A (q_w G M)) : ∀ i : Nat, i < q_n G → A (q_ad G i) := by
  intro i hi
  obtain ⟨e1, a1, b1⟩ := q_w_some (M := M) hi
  rw [← b1]
  exact h.2 i e1 a1
theorem q_apL {α : Type} {a b : List α} {k : Nat} {q : α} (h : a[k]? = some q) : (a ++ b)[k]? = some q := by
  rw [List.getElem?_append_left (List.getElem?_eq_some_iff.mp h).1]
  exact h
theorem q_apR {α : Type} {a b : List α} {k : Nat} {q : α} (h : b[k]? = some q) : (a ++ b)[a.length + k]? = some q := by
  rw [List.getElem?_append_right (Nat.le_add_right _ _), Nat.add_sub_cancel_left]
  exact h
theorem q_P_L {D : va_G} {cl : List vw_C} {a b : va_W} {H : Heap} (h : va_P D cl (a ++ b) H) : va_P D cl a H := fun k q hk => h k q (q_apL hk)
theorem q_P_R {D : va_G} {cl : List vw_C} {a b : va_W} {H : Heap} (h : va_P D cl (a ++ b) H) : va_P D cl b H := fun k q hk => h (a.length + k) q (q_apR hk)
theorem q_D_L {A : Nat → Prop} {a b : va_W} (h : va_D A (a ++ b)) : va_D A a := ⟨fun i j p q hi hj he => h.1 i j p q (q_apL hi) (q_apL hj) he, fun k q hk => h.2 k q (q_apL hk)⟩
theorem q_D_R {A : Nat → Prop} {a b : va_W} (h : va_D A (a ++ b)) : va_D A b := ⟨fun i j p q hi hj he => by
  have h9 := h.1 _ _ p q (q_apR hi) (q_apR hj) he
  omega, fun k q hk => h.2 _ q (q_apR hk)⟩
theorem q_D_ap {A : Nat → Prop} {GX GZ : q_G} {MX MZ : q_M} (h : va_D A (q_w GX MX ++ q_w GZ MZ)) : ∀ i j : Nat, i < q_n GX → j < q_n GZ → q_ad GX i ≠ q_ad GZ j := by
  intro i j hi hj he
  obtain ⟨e1, a1, b1⟩ := q_w_some (M := MX) hi
  obtain ⟨e2, a2, b2⟩ := q_w_some (M := MZ) hj
  have h9 := h.1 _ _ e1 e2 (q_apL a1) (q_apR a2) (by rw [b1, b2, he])
  have h8 := (List.getElem?_eq_some_iff.mp a1).1
  omega
theorem q_has_0 (x : Int) : q_has 0 x = false := by
  unfold q_has
  simp
theorem q_MR8 : q_MR m_X8 := by
  intro k i
  unfold m_X8
  split
  · split <;> omega
  · omega
theorem q_MR9 : q_MR m_X9 := by
  intro k i
  unfold m_X9
  split
  · split <;> omega
  · omega
theorem q_rel0 : q_rel m_X8 m_X9 := by
  have a : ∀ (k : Nat) (i : Int), ¬ (k = 2 ∨ k = 11 ∨ k = 20 ∨ k = 31 ∨ k = 40 ∨ k = 47) → m_X8 k i = 0 := fun k i h => if_neg h
  have z : ∀ (k : Nat) (i : Int), ¬ k = 0 → m_X9 k i = 0 := fun k i h => if_neg h
  have cv : ∀ c : Nat, (c = 2 ∨ c = 11 ∨ c = 20) → q_cv m_X8 c := by
    intro c hc
    refine ⟨?_, ?_, fun g _ _ => ?_, fun g _ _ => ?_, fun g _ _ => ?_⟩
    · rcases hc with rfl | rfl | rfl <;> decide
    · rcases hc with rfl | rfl | rfl <;> decide
    · rw [a (c + 1) g (by omega)]; omega
    · rw [a (c + 2) g (by omega)]; omega
    · rw [a (c + 3) g (by omega)]; omega
  have sv : ∀ b : Nat, (b = 1 ∨ b = 10 ∨ b = 19) → q_sv m_X8 b := by
    intro b hb
    refine ⟨?_, fun i _ _ => ⟨?_, ?_⟩⟩
    · rw [a b 4 (by omega)]; omega
    · rw [a (b + 7) i (by omega)]; omega
    · rw [a (b + 8) i (by omega)]; omega
  have fm : ∀ k : Nat, ¬ (k = 2 ∨ k = 11 ∨ k = 20 ∨ k = 31 ∨ k = 40 ∨ k = 47) → q_fm (m_X8 k) := fun k h x _ _ => by rw [a k x h]; omega
  have iv : ∀ b : Nat, (b = 10 ∨ b = 19) → q_iv m_X8 b := by
    intro b hb
    exact ⟨Or.inl (a b 5 (by omega)), cv (b + 1) (by omega), fm (b + 6) (by omega), sv b (by omega)⟩
  have ki : ∀ (b : Nat) (n : Int), (b = 10 ∨ b = 19) → q_ki m_X8 m_X9 b n := by
    intro b n hb
    have e : m_X8 b 5 = 0 := a b 5 (by omega)
    exact ⟨by rw [e, z 18 n (by decide)], fun h => absurd e h⟩
  refine ⟨⟨cv 2 (by omega), fm 7 (by omega), sv 1 (by omega), ⟨?_, fun i _ _ => ?_⟩, fun i _ _ => ?_, iv 10 (by omega), iv 19 (by omega)⟩, ⟨⟨by decide, by decide⟩, ⟨fun g _ _ => ?_, fun g _ _ => ?_, fun g _ _ => ?_⟩, fun g _ _ => ?_, ⟨by decide, fun i _ _ => ⟨?_, ?_⟩⟩, ⟨by decide, fun i _ _ => ?_⟩⟩, ?_, ⟨by decide, by decide⟩, fun x hx => ?_, fun x _ _ => ?_, ⟨by decide, fun i _ _ => ⟨?_, ?_⟩⟩, ⟨by decide, ?_⟩, ki 10 0 (by omega), ki 19 1 (by omega)⟩
  · decide
  · rw [a (28 + 1) i (by omega)]; omega
  · rw [a (56 + 1) i (by omega)]; omega
  · rw [z 1 g (by decide)]; omega
  · rw [z 2 g (by decide)]; omega
  · rw [z 3 g (by decide)]; omega
  · rw [z 4 g (by decide)]; omega
  · rw [z 5 _ (by decide)]; omega
  · rw [z 5 _ (by decide)]; omega
  · rw [z 6 i (by decide)]; omega
  · intro x y _ _ _ _
    rw [z 4 x (by decide), z 4 y (by decide), q_has_0, q_has_0]
  · rw [show m_X9 0 0 = 0 by decide, q_has_0] at hx
    exact absurd hx (by decide)
  · rw [a (1 + 6) x (by omega), z 4 x (by decide)]
  · rw [a (1 + 7) i (by omega), z 5 _ (by decide)]
  · rw [a (1 + 8) i (by omega), z 5 _ (by decide)]
  · funext i
    rw [a (28 + 1) i (by omega), z 6 i (by decide)]
/-- the law makes an object of a class -/
theorem lw_child {p : Program} {l : Launch} {e : Env} {R : Room} {s : State} {m : MethodId} {args : Array Value} {below : List Frame} {meth : Method} {c : Code} {Q : State → Prop} {cc : ByteArray} {nL : Nat} {own : String} {Ts : List Cond} (hx : p.tables.exec = Jvm.exec) (hb : c.code = cc) (hml : c.maxLocals = nL) (hown : s.vm.findClass own = some m.cls) (hts : ∀ w ∈ Ts, w.before args s = true) {D : va_G} {cI cZ : ClassId} (hK : va_K D vwCl [(cI, .int), (cZ, .boolean)] s) (hN : q_NW s) {ws : va_W} {H : Heap} {locs : List Loc} {ls : Array Slot} {pc cells slots : Nat} (hP : va_P D vwCl ws H) (hD : va_D (fun q : Nat => s.heap.size ≤ q) ws) (hS : va_S (fun q : Nat => s.heap.size ≤ q) s.heap H locs) (hlz : ls.size = nL)
    {y : MethodName} {wsy wsy' : List Cond} {rmc : Room} {cj : Nat} {fsj : List Value} {shj : List q_S} {Mj : q_M} {mcj msj : Nat} (K : q_CN l D cI cZ y wsy rmc (.inr (cj, fsj)) shj Mj mcj msj) {Cj : String} {Tj : u_T} {Nj : Nat} (huj : ∀ w ∈ u_ws Cj Tj Nj, w ∈ Ts) (tyj : Nat → FieldType) (htyj : ∀ k, k < Nj → parseFieldDescriptor (Tj k).2.2.1 = some (tyj k)) (hcj : vwCl[cj]? = some (Cj, Tj, Nj)) (hfsj : ∀ j, j < Nj → defaultValue (tyj j) = vp_V fsj j)
    {i1 i2 : Nat} (hcl : Cond.classLink own i1 Cj ∈ Ts) (hinst : Cond.instantiable Cj Nj ∈ Ts) (hini : Cond.initialized Cj ∈ Ts) {bytes : ByteArray} (hw : wsy = Cond.code y bytes 1 none :: wsy') (hG : GoodIn Ts wsy) (hlk : Cond.methodLink own i2 y ∈ Ts) (hy : y.name = "<init>" ∧ y.cls = Cj) (hinm : Cond.instanceMethod y ∈ Ts) (hd0 : y.cls ≠ "java/lang/invoke/MethodHandle" ∧ y.cls ≠ "java/lang/invoke/VarHandle" ∧ (parseMethodDescriptor y.desc).map (fun d => d.parameters.length) = some 0) (hrm : rmc.cells = mcj ∧ rmc.slots = msj ∧ rmc.frames + 1 ≤ R.frames ∧ 8 + (1 + 11) + rmc.locals ≤ R.locals)
    (hroom : cells + 1 + mcj ≤ R.cells ∧ slots + Nj + msj ≤ R.slots) (d1 : decode cc pc = .ok (.new i1, 3)) (d2 : decode cc (pc + 3) = .ok (.dup, 1)) (d3 : decode cc (pc + 4) = .ok (.invokespecial i2, 3))
    (k : ∀ (u : Nat → Nat) (H1 : Heap) (locs1 : List Loc), va_P D vwCl (ws ++ q_w (l, D, cI, cZ, u, shj) Mj) H1 → va_D (fun q : Nat => s.heap.size ≤ q) (ws ++ q_w (l, D, cI, cZ, u, shj) Mj) → va_S (fun q : Nat => s.heap.size ≤ q) s.heap H1 locs1 → W p l e R s m args below meth c H1 locs1 (cells + 1 + mcj) (slots + Nj + msj) Q (F0 m (pc + 7) ls [.ref (u 0)])) : W p l e R s m args below meth c H locs cells slots Q (F0 m pc ls []) := by
  have hA : ∀ q : Nat, s.heap.size ≤ q → (fun q : Nat => s.heap.size ≤ q) q := fun _ h => h
  refine va_new (ci := cj) (fs := fsj) hx hb hts huj tyj htyj hown (hts _ hcl) (hts _ hinst) (hts _ hini) hK hP hD hS hA hcj hfsj (by omega) (by omega) d1 (fun q H1 hP1 hD1 hS1 => ?_)
  refine lv_dup hx hb d2 rfl ?_
  have hlast : (ws ++ [(q, Sum.inr (cj, fsj))])[ws.length]? = some (q, Sum.inr (cj, fsj)) := by
    rw [List.getElem?_append_right (Nat.le_refl _), Nat.sub_self]
    rfl
  have hPc : va_P D vwCl [(q, .inr (cj, fsj))] H1 := by
    intro k x hx
    obtain ⟨-, rfl⟩ := q_one hx
    exact hP1 _ _ hlast
  have hq : s.heap.size ≤ q := hD1.2 _ _ hlast
  have hFc : ∀ x : Nat, va_A [(q, .inr (cj, fsj))] H1.size x → s.heap.size ≤ x := by
    intro x hx
    rcases hx with ⟨k, e', hk⟩ | hx
    · have h9 := (q_one hk).2
      cases h9
      exact hq
    · exact Nat.le_trans hS1.1 hx
  refine va_callv (va_runI (As := []) (rest := [.ref q]) ⟨hx, hb, hml, hown, hts⟩ (K q H1.size) (cwI 0 hts hG hw hrm.1 hrm.2.1 (by rw [hy.2]; exact hts _ hini) (hts _ hlk) (hts _ hinm) hy.1 hd0 ⟨hrm.2.2.1, hrm.2.2.2⟩) ⟨q_Nblind, fun U hU hW => ⟨rfl, by rw [hU], by rw [hU]; exact hPc, va_K.moved hW.alike hK, q_NW_alike hW hN⟩⟩ rfl rfl hlz rfl (lv_room (Nat.le_of_ble_eq_true rfl)) d3 hroom) hS1 (fun x _ h => hFc x h) (fun x h => hFc x h) (fun u t H2 locs2 ht hvm hw2 hB hz1 hk1 hS2 => ?_)
  obtain ⟨hPu, hDu⟩ := hB
  rw [ht] at hPu
  have hap : ∀ (k : Nat) (x : Nat × va_E), ws[k]? = some x → x.1 < H1.size ∧ ¬ va_A [(q, .inr (cj, fsj))] H1.size x.1 := by
    intro k x hk
    have hlt : k < ws.length := (List.getElem?_eq_some_iff.mp hk).1
    have hk' : (ws ++ [(q, Sum.inr (cj, fsj))])[k]? = some x := by rw [List.getElem?_append_left hlt]; exact hk
    have hsz := (hP1 _ _ hk').lt
    refine ⟨hsz, fun h => ?_⟩
    rcases h with ⟨k2, e', h2⟩ | h2
    · have h9 := (q_one h2).2
      have h8 := hD1.1 k ws.length x _ hk' hlast (Prod.mk.inj h9).1
      omega
    · omega
  have hPw : va_P D vwCl ws H2 := by
    intro k x hk
    have hlt : k < ws.length := (List.getElem?_eq_some_iff.mp hk).1
    have hk' : (ws ++ [(q, Sum.inr (cj, fsj))])[k]? = some x := by rw [List.getElem?_append_left hlt]; exact hk
    obtain ⟨a1, a2⟩ := hap k x hk
    exact (hP1 _ _ hk').kept (hk1 x.1 a1 a2)
  have hP2 := hPw.app hPu
  have hD2 := va_D.app hD (hDu.weaken (fun k x _ h => hFc x.1 h)) (fun i j x y hx hy hxy => (hap i x hx).2 (by rw [hxy]; exact hDu.2 j y hy))
  rw [← hw2]
  exact k u H2 locs2 hP2 hD2 hS2
