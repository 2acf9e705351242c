/-! NIGHTS: what acts do to hungers, feints, houses, portions, times found out; left over, acts, the first dish that nobody touches -/
abbrev q_T : Type := (Int → Int) × (Int → Int) × (Int → Int) × (Int → Int) × (Int → Int) × Int × Int × Int
def qt_h (s : q_T) : Int → Int := s.1
def qt_f (s : q_T) : Int → Int := s.2.1
def qt_a (s : q_T) : Int → Int := s.2.2.1
def qt_p (s : q_T) : Int → Int := s.2.2.2.1
def qt_c (s : q_T) : Int → Int := s.2.2.2.2.1
def qt_l (s : q_T) : Int := s.2.2.2.2.2.1
def qt_k (s : q_T) : Int := s.2.2.2.2.2.2.1
def qt_u (s : q_T) : Int := s.2.2.2.2.2.2.2
def q_row (f : Int → Int) (g v : Int) : Int → Int := fun x => if x = g then v else f x
theorem q_up_row {M : q_M} {k : Nat} {g v : Int} : q_up M k g v k = q_row (M k) g v := by
  funext x
  rw [q_up_at]
  rfl
def q_tv (M : q_M) (t : Nat) : q_T := (M (t + 1 + 1), M (t + 1 + 2), M (t + 1 + 3), M (t + 6), M (t + 7), M t 4, M t 5, M t 6)
def q_TK (th ke : Int) (s : q_T) (pl p : Int) : Int := q_set (q_tk (qt_h s) (qt_f s) (qt_a s) th ke pl p)
def q_FO (th ke : Int) (s : q_T) (pl : Int) : Int := q_set (fun x => q_fo (qt_h s) (qt_f s) ke x && q_has (q_set (q_hun (qt_h s) (qt_a s) th pl)) x)
def q_dish (th ke : Int) (s : q_T) (pl p : Int) : q_T :=
  (q_left (qt_h s) (q_TK th ke s pl p), qt_f s, qt_a s, fun x => qt_p s x + q_b (q_has (q_TK th ke s pl p) x), fun x => qt_c s x + q_b (q_has (q_FO th ke s pl) x),
   qt_l s + (p - q_cnt (q_has (q_TK th ke s pl p))), qt_k s, if q_TK th ke s pl p = 0 ∧ qt_u s = -6 then qt_k s else qt_u s)
def q_goT (s : q_T) (g a : Int) : q_T := (q_row (qt_h s) g (min 20 (qt_h s g + 1)), qt_f s, q_row (qt_a s) g a, qt_p s, qt_c s, qt_l s, qt_k s, qt_u s)
def q_goW (th : Int) (s : q_T) (g a : Int) : Int := if q_has th g = true then (if qt_a s g = a then 2 else 0) else 1
def q_feT (s : q_T) (g v : Int) : q_T := (qt_h s, q_row (qt_f s) g v, qt_a s, qt_p s, qt_c s, qt_l s, qt_k s, qt_u s)
def q_hoT (hr : (Int → Int) → Int → Int) (s : q_T) : q_T := (hr (qt_h s), qt_f s, qt_a s, qt_p s, qt_c s, qt_l s, qt_k s, qt_u s)
/-- an act: why it can't be (0: it can), what is then -/
def q_act (hr : (Int → Int) → Int → Int) (th ke : Int) (s : q_T) (sg nx pt : Int) : Int × q_T :=
  if sg = 46 then (0, q_hoT hr s)
  else if 97 ≤ sg ∧ sg < 100 then (if q_set (q_ins (qt_a s) th (sg - 97)) = 0 then (3, s) else (0, q_dish th ke s (sg - 97) (max 0 (nx - 48 - pt))))
  else if 97 ≤ nx ∧ nx < 100 then (if q_goW th s (sg - 65) (nx - 97) = 0 then (0, q_goT s (sg - 65) (nx - 97)) else (q_goW th s (sg - 65) (nx - 97), s))
  else if q_has th (sg - 65) = true then (0, q_feT s (sg - 65) (nx - 48)) else (1, s)
/-- one act more is done -/
def q_tick (s : q_T) : q_T := (qt_h s, qt_f s, qt_a s, qt_p s, qt_c s, qt_l s, qt_k s + 1, qt_u s)
/-- the night from the i-th sign on: the act that can't be (-6: none), why, what is then -/
def q_run (hr : (Int → Int) → Int → Int) (th ke : Int) (pad : Int → Int) (n pt : Int) : Nat → Int → q_T → Int × Int × q_T
  | 0, _, s => (-6, -6, s)
  | m + 1, i, s =>
    if n ≤ i then (-6, -6, s)
    else if (q_act hr th ke s (pad i) (pad (i + 1)) pt).1 = 0 then q_run hr th ke pad n pt m (if pad i = 46 then i + 1 else i + 2) (q_tick (q_act hr th ke s (pad i) (pad (i + 1)) pt).2)
    else (qt_k s, (q_act hr th ke s (pad i) (pad (i + 1)) pt).1, (q_act hr th ke s (pad i) (pad (i + 1)) pt).2)
/-- THE FAULT -/
def q_house (s : Int) : Bool := decide (97 ≤ s ∧ s < 100)
def q_guest (s : Int) : Bool := decide (65 ≤ s ∧ s < 71)
def q_foll (s x : Int) : Bool := if q_house s = true then decide (49 ≤ x ∧ x ≤ 57) else q_house x || decide (48 ≤ x ∧ x ≤ 57)
def q_flt (pad : Int → Int) (n : Int) : Nat → Int → Int
  | 0, _ => -6
  | m + 1, i =>
    if n ≤ i then -6
    else if pad i = 46 then q_flt pad n m (i + 1)
    else if q_house (pad i) = false ∧ q_guest (pad i) = false then i
    else if i + 1 < n ∧ q_foll (pad i) (pad (i + 1)) = true then q_flt pad n m (i + 2)
    else i + 1
