/-! A datagram's bytes, as a list and as a row that is written. -/
def p2F (f : Nat → Int32) (i : Nat) (v : Int32) : Nat → Int32 := upd (upd f i ((v >>> ((8 : Int32) &&& 31)) &&& 255)) (i + 1) (v &&& 255)
def p4F (f : Nat → Int32) (i : Nat) (v : Int32) : Nat → Int32 := p2F (p2F f i (v >>> ((16 : Int32) &&& 31))) (i + 2) v
def cpF (f : Nat → Int32) (p : Nat) (E : List Int32) (i : Nat) : Int32 := if p ≤ i ∧ i < p + E.length then E.getD (i - p) 0 else f i
def hdL (cmd v : Int32) : List Int32 := [cmd, v, 0, 0]
def pwL (y : List Int32) : List Int32 := [255, 255, 0, 2] ++ tl (fun i => y.getD i 0) 16
def szK (sha : Int32) : Int32 := if sha = 0 then 16 else 20
def szN (sha : Int32) : Nat := if sha = 0 then 16 else 20
def keL (n : Nat) (v : kV) (nn : Int32) : List Int32 := [255, 255, 0, 3, (nI n >>> ((8 : Int32) &&& 31)) &&& 255, nI n &&& 255, v.1, szK v.2.1, ((nn >>> ((16 : Int32) &&& 31)) >>> ((8 : Int32) &&& 31)) &&& 255, (nn >>> ((16 : Int32) &&& 31)) &&& 255, (nn >>> ((8 : Int32) &&& 31)) &&& 255, nn &&& 255, 0, 0, 0, 0, 0, 0, 0, 0]
/-- up to the sum -/
def krL (cmd : Int32) (v : kV) (nn : Int32) (E : List Int32) : List Int32 := (hdL cmd 2 ++ keL (24 + E.length) v nn) ++ (E ++ [255, 255, 0, 1])
noncomputable def seL (v : kV) (L : List Int32) : List Int32 := tl (sumP v.2.1 L (fun i => v.2.2.1.getD i 0)) (szN v.2.1) ++ (if v.2.1 = 0 then [] else List.replicate 16 0)
/-- the bytes of a datagram with these entries; none: there is no key -/
noncomputable def wrL (V : chV) (fa tm nn cmd : Int32) (E : List Int32) : Option (List Int32) := if fa = 0 then (if V.1 = 0 then some (hdL cmd 2 ++ E) else if V.1 = 1 then some (hdL cmd 2 ++ pwL V.2.1 ++ E) else (bkN tm V.2.2 V.2.2.length).map fun b => krL cmd (V.2.2.getD b k0V) nn E ++ seL (V.2.2.getD b k0V) (krL cmd (V.2.2.getD b k0V) nn E)) else some (hdL cmd 1 ++ E)
theorem cpF_l {f : Nat → Int32} {p : Nat} {E : List Int32} {i : Nat} (h : i < p) : cpF f p E i = f i := if_neg (by omega)
theorem cpF_m {f : Nat → Int32} {p : Nat} {E : List Int32} {i : Nat} (h : i < E.length) : cpF f p E (p + i) = E.getD i 0 := by
  unfold cpF
  rw [if_pos (by omega), Nat.add_sub_cancel_left]
theorem cpF_r {f : Nat → Int32} {p : Nat} {E : List Int32} {i : Nat} (h : p + E.length ≤ i) : cpF f p E i = f i := if_neg (by omega)
theorem upd_c {f g : Nat → Int32} {a i : Nat} {v : Int32} (h : f i = g i) : upd f a v i = upd g a v i := by
  by_cases c : i = a
  · rw [c, upd_s, upd_s]
  · rw [upd_n c, upd_n c]; exact h
theorem p2F_c {f g : Nat → Int32} {a i : Nat} {v : Int32} (h : f i = g i) : p2F f a v i = p2F g a v i := upd_c (upd_c h)
theorem p2F_n {f : Nat → Int32} {a i : Nat} {v : Int32} (h : i ≠ a ∧ i ≠ a + 1) : p2F f a v i = f i := by unfold p2F; rw [upd_n h.2, upd_n h.1]
theorem p4F_n {f : Nat → Int32} {a i : Nat} {v : Int32} (h : i < a ∨ a + 4 ≤ i) : p4F f a v i = f i := by unfold p4F; rw [p2F_n (by omega), p2F_n (by omega)]
def kF1 (cmd : Int32) : Nat → Int32 := p2F (p2F (upd (upd (fun _ => 0) 0 cmd) 1 2) 4 65535) 6 3
def kF2 (f : Nat → Int32) (v : kV) (nn : Int32) (n : Nat) : Nat → Int32 := p4F (upd (upd (p2F f 8 (nI n)) 10 v.1) 11 (szK v.2.1)) 12 nn
def kF3 (f : Nat → Int32) (n : Nat) : Nat → Int32 := p2F (p2F f n 65535) (n + 2) 1
theorem kF2_n {f : Nat → Int32} {v : kV} {nn : Int32} {n i : Nat} (h : 16 ≤ i) : kF2 f v nn n i = f i := by
  unfold kF2
  rw [p4F_n (by omega), upd_n (by omega), upd_n (by omega), p2F_n (by omega)]
theorem kF2_c {f g : Nat → Int32} {v : kV} {nn : Int32} {n i : Nat} (h : f i = g i) : kF2 f v nn n i = kF2 g v nn n i := p2F_c (p2F_c (upd_c (upd_c (p2F_c h))))
theorem kF3_n {f : Nat → Int32} {n i : Nat} (h : i < n ∨ n + 4 ≤ i) : kF3 f n i = f i := by
  unfold kF3
  rw [p2F_n (by omega), p2F_n (by omega)]
theorem krL_24 (cmd nn : Int32) (v : kV) (n : Nat) : tl (kF2 (kF1 cmd) v nn n) 24 = hdL cmd 2 ++ keL n v nn := rfl
theorem krL_4 (f : Nat → Int32) (n : Nat) : ∀ j, j < 4 → kF3 f n (n + j) = ([255, 255, 0, 1] : List Int32).getD j 0 := by
  intro j hj
  unfold kF3 p2F
  rcases (show j = 0 ∨ j = 1 ∨ j = 2 ∨ j = 3 by omega) with rfl | rfl | rfl | rfl
  · rw [upd_n (by omega), upd_n (by omega), upd_n (by omega)]; exact upd_s.trans (by decide)
  · rw [upd_n (by omega), upd_n (by omega)]; exact upd_s.trans (by decide)
  · rw [upd_n (by omega)]; exact upd_s.trans (by decide)
  · exact upd_s.trans (by decide)
/-- the row up to the sum -/
theorem krL_g {cmd nn : Int32} {v : kV} {E : List Int32} {i : Nat} (hi : i < 28 + E.length) : kF3 (kF2 (cpF (kF1 cmd) 24 E) v nn (24 + E.length)) (24 + E.length) i = (krL cmd v nn E).getD i 0 := by
  have l24 : (hdL cmd 2 ++ keL (24 + E.length) v nn).length = 24 := rfl
  unfold krL
  by_cases c1 : i < 24
  · rw [kF3_n (by omega), kF2_c (cpF_l c1), gd_l (by rw [l24]; exact c1), ← krL_24, tl_get c1]
  rw [gd_r (by rw [l24]; omega), l24]
  by_cases c2 : i < 24 + E.length
  · rw [kF3_n (by omega), kF2_n (by omega), gd_l (by omega)]
    have := cpF_m (f := kF1 cmd) (p := 24) (E := E) (i := i - 24) (by omega)
    rw [show 24 + (i - 24) = i by omega] at this
    exact this
  · rw [gd_r (by omega)]
    have := krL_4 (kF2 (cpF (kF1 cmd) 24 E) v nn (24 + E.length)) (24 + E.length) (i - 24 - E.length) (by omega)
    rw [show 24 + E.length + (i - 24 - E.length) = i by omega] at this
    exact this
theorem krL_l {cmd nn : Int32} {v : kV} {E : List Int32} : (krL cmd v nn E).length = 28 + E.length := by
  unfold krL
  rw [List.length_append, List.length_append (as := E)]
  show 24 + (E.length + 4) = _
  omega
