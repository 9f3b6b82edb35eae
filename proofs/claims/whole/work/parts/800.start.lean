/-! The start: constant texts, statics, the script: a picture of what is there before all. -/
def cAt : Cond → Nat → Nat → Cond
  | .and a b, n, i => if i < n / 2 then cAt a (n / 2) i else cAt b (n - n / 2) (i - n / 2)
  | c, _, _ => c
theorem cAt_ok {args : Array Value} {s : State} : ∀ (T : Cond) (n i : Nat), T.before args s = true → (cAt T n i).before args s = true := by
  intro T
  induction T with
  | and a b iha ihb =>
    intro n i h
    rw [Cond.before_and, Bool.and_eq_true] at h
    unfold cAt
    split
    · exact iha _ _ h.1
    · exact ihb _ _ h.2
  | _ =>
    intro n i h
    unfold cAt
    exact h
def nw (i : Nat) : Cond := cAt narrow_1 960 i
theorem nw_ok {args : Array Value} {s : State} (h : (Jvm.Cond.and given_1 narrow_1).before args s = true) (i : Nat) : (nw i).before args s = true := by
  rw [Cond.before_and, Bool.and_eq_true] at h
  exact cAt_ok _ _ _ h.2
theorem nw_at {args : Array Value} {s : State} (h : (Jvm.Cond.and given_1 narrow_1).before args s = true) (i : Nat) {c : Cond} (e : nw i = c) : c.before args s = true := e ▸ nw_ok h i
def sTm (q : String × Nat) : Term := .string q.1 q.2
def sVl (q : String × Nat) : Term := .field (sTm q) "java/lang/String" "value" "[B"
/-- constant texts by number: whose entry, what bytes, where their words begin -/
def txW : List ((String × Nat) × List Int32 × Nat) := [(("RoutingField$Reader", 74), [108, 105, 110, 107], 109), (("RoutingField$Reader", 244), [106, 105, 116, 116, 101, 114], 117), (("RoutingField$Reader", 246), [109, 116, 117], 127), (("RoutingField$Reader", 172), [], 134), (("RoutingField$Reader", 84), [114, 111, 117, 116, 101, 114], 143), (("RoutingField$Reader", 89), [106, 111, 105, 110], 159), (("RoutingField$Reader", 312), [99, 111, 115, 116], 167), (("RoutingField$Reader", 313), [115, 112, 108, 105, 116], 175), (("RoutingField$Reader", 314), [112, 97, 115, 115, 119, 111, 114, 100], 184), (("RoutingField$Reader", 316), [109, 100, 53], 196), (("RoutingField$Reader", 318), [115, 104, 97], 203), (("RoutingField$Reader", 320), [112, 97, 115, 115, 105, 118, 101], 210), (("RoutingField$Reader", 321), [111, 102, 102], 221), (("RoutingField$Reader", 323), [115, 105, 109, 112, 108, 101], 228), (("RoutingField$Reader", 325), [112, 111, 105, 115, 111, 110], 238), (("RoutingField$Reader", 94), [107, 101, 121], 248), (("RoutingField$Reader", 99), [110, 111, 107, 101, 121], 255), (("RoutingField$Reader", 104), [115, 116, 97, 116, 105, 99], 264), (("RoutingField$Reader", 242), [116, 97, 103], 274), (("RoutingField$Reader", 109), [110, 111, 115, 116, 97, 116, 105, 99], 281), (("RoutingField$Reader", 114), [102, 105, 108, 116, 101, 114], 293), (("RoutingField$Reader", 405), [105, 110], 303), (("RoutingField$Reader", 407), [111, 117, 116], 309), (("RoutingField$Reader", 409), [112, 101, 114, 109, 105, 116], 316), (("RoutingField$Reader", 411), [100, 101, 110, 121], 326), (("RoutingField$Reader", 119), [108, 105, 115, 116], 334), (("RoutingField$Reader", 424), [103, 101], 342), (("RoutingField$Reader", 426), [108, 101], 348), (("RoutingField$Reader", 124), [100, 105, 115, 116, 114, 105, 98, 117, 116, 101], 354), (("RoutingField$Reader", 437), [42], 368), (("RoutingField$Reader", 129), [111, 102, 102, 115, 101, 116], 373), (("RoutingField$Reader", 134), [115, 117, 109, 109, 97, 114, 121], 383), (("RoutingField$Reader", 139), [110, 101, 105, 103, 104, 98, 111, 114], 394), (("RoutingField$Reader", 144), [114, 101, 100, 105, 115, 116, 114, 105, 98, 117, 116, 101], 406), (("RoutingField$Reader", 471), [99, 111, 110, 110, 101, 99, 116, 101, 100], 422), (("RoutingField$Reader", 473), [111, 119, 110], 435), (("RoutingField$Reader", 149), [100, 101, 102, 97, 117, 108, 116], 442), (("RoutingField$Reader", 481), [111, 110, 108, 121], 453), (("RoutingField$Reader", 154), [116, 105, 109, 101, 114, 115], 461), (("RoutingField$Bytes", 82), [58, 58], 478), (("RoutingField", 375), [100, 105, 114, 101, 99, 116], 503), (("RoutingField", 377), [118, 105, 97], 513), (("RoutingField", 388), [45], 520), (("RoutingField", 401), [117, 112], 525), (("RoutingField", 402), [100, 111, 119, 110], 531), (("RoutingField$Chain", 54), [99, 104, 97, 105, 110], 591), (("RoutingField$Chain", 56), [111, 112, 101, 110], 600), (("RoutingField", 432), [99, 104, 97, 110, 103, 101, 100], 620), (("RoutingField", 249), [110, 111, 32, 115, 117, 99, 104, 32, 98, 121, 116, 101, 32, 111, 102, 32, 116, 104, 101, 32, 116, 101, 120, 116], 932)]
def txC (w : (String × Nat) × List Int32 × Nat) : Bool := decide (nw w.2.2 = .exactly (sTm w.1) "java/lang/String") && (decide (nw (w.2.2 + 1) = .eq (.field (sTm w.1) "java/lang/String" "coder" "B") (.int 0)) && (decide (nw (w.2.2 + 2) = .arrayOf (sVl w.1) .byte) && (decide (nw (w.2.2 + 3) = .eq (.length (sVl w.1)) (.int (Int32.ofNat w.2.1.length))) && ((List.range w.2.1.length).all (fun j => decide (nw (w.2.2 + 4 + j) = .eq (.elem (sVl w.1) (.int (Int32.ofNat j))) (.int (w.2.1.getD j 0)))) && decide (w.2.1.length < 100)))))
set_option maxRecDepth 100000 in
theorem txW_ok : ∀ w ∈ txW, txC w = true := by decide +kernel
def txE (k : Nat) : (String × Nat) × List Int32 × Nat := txW.getD k (("", 0), [], 0)
def txB (k : Nat) : List Int32 := (txE k).2.1
theorem txE_mem {k : Nat} (h : k < 49) : txE k ∈ txW := by
  unfold txE
  have hl : k < txW.length := h
  rw [List.getD_eq_getElem?_getD, List.getElem?_eq_getElem hl]
  exact List.getElem_mem hl
/-- the int in a place of a cell -/
def cellI (c : Cell) (j : Nat) : Int32 := match c.slots[j]? with
  | some (.int x) => x
  | _ => 0
theorem st_arr {D : va_G} {s : State} {ty : FieldType} {t N : Nat} {f : Nat → Int32} {A : Nat → Prop} (hN : N < 2 ^ 31) (h : va_T ty t N (fun j => .int (f j)) A s s.heap) : ∃ cell : Cell, s.heap[t]? = some cell ∧ s.isArrayOf cell ty ∧ cell.vm ≠ .unknown ∧ N ≤ cell.slots.size ∧ cell.slots.size.toInt32 = Int32.ofNat N ∧ cell.slots.size % 2 ^ 32 = N ∧ (∀ j, j < N → cellI cell j = f j) ∧ pm_ro D kcl s s.heap t (.inl (ty, N, .inl (cellI cell))) := by
  obtain ⟨cell, h1, h2, h3, h4, h5, h6, -⟩ := h
  have hc : ∀ j, j < N → cellI cell j = f j := fun j hj => by
    unfold cellI
    rw [h6 j hj]
  have hmod : cell.slots.size % 2 ^ 32 = N := by
    have h := congrArg (fun x : Int32 => x.toUInt32.toNat) h5
    simp only [Nat.toInt32] at h
    have h' : cell.slots.size % 2 ^ 32 = N % 2 ^ 32 := h
    rw [h', Nat.mod_eq_of_lt (by omega)]
  exact ⟨cell, h1, h2, h3, h4, h5, hmod, hc, cell, h1, h2, h3, h4, h5, fun j hj => by rw [hc j hj]; exact h6 j hj⟩
/-- a constant text, as it stands in the heap -/
theorem st_text {args : Array Value} {s : State} {D : va_G} {tys : List (ClassId × FieldType)} (hK : va_K D kcl tys s) {Ts : List Cond} (hts : ∀ w ∈ Ts, w.before args s = true) (hin : ∀ w ∈ u_ws kR_St kT_St 4, w ∈ Ts) {q : String × Nat} {bs : List Int32} (hb : bs.length < 100)
    (hex : (Cond.exactly (sTm q) "java/lang/String").before args s = true) (hco : (Cond.eq (.field (sTm q) "java/lang/String" "coder" "B") (.int 0)).before args s = true) (har : (Cond.arrayOf (sVl q) .byte).before args s = true) (hle : (Cond.eq (.length (sVl q)) (.int (Int32.ofNat bs.length))).before args s = true) (hel : ∀ j, j < bs.length → (Cond.eq (.elem (sVl q) (.int (Int32.ofNat j))) (.int (bs.getD j 0))).before args s = true) :
    ∃ (a v : Nat) (ca cv : Cell), (sTm q).eval args s none [] s = some (.ref a) ∧ s.heap[a]? = some ca ∧ s.vm.findClass "java/lang/String" = some ca.cls ∧ (∃ h z : Value, pm_or D kcl s.heap a (13, [.ref v, .int 0, h, z])) ∧ s.heap[v]? = some cv ∧ s.isArrayOf cv .byte ∧ cv.slots.size % 2 ^ 32 = bs.length ∧ (∀ j, j < bs.length → cellI cv j = bs.getD j 0) ∧ pm_ro D kcl s s.heap v (.inl (.byte, bs.length, .inl (cellI cv))) := by
  obtain ⟨a, c, cell, k, q1, q2, q3, q4, q5, q6, q7⟩ := Cond.exactly_spec (args := args) (first := s) (o := none) (s := s) (idx := []) (t := sTm q) (cls := "java/lang/String") hex
  obtain ⟨t, ht, hT⟩ := va_Tof (f := fun j => .int (bs.getD j 0)) (A := fun _ => False) (by omega) har (va_eqt hle) (fun j hj => va_eqt (hel j hj)) (fun _ _ h => h)
  obtain ⟨cf1, k1, i1, f1, cell1, g1, g2, g3, g4, g5, -⟩ := vk_OFof (A := fun _ => False) q1 (va_eqt hco) (fun _ _ h => h)
  obtain ⟨cf0, k0, i0, f0, cell0, e1, e2, e3, e4, e5, -⟩ := vk_OFof (A := fun _ => False) q1 ht (fun _ _ h => h)
  cases q3.symm.trans g3
  cases q3.symm.trans e3
  obtain ⟨cv, v1, v2, v3, v4, v5, v6, v7, v8⟩ := st_arr (D := D) (by omega) hT
  obtain ⟨hS, hfc, kC, hkC, hkind⟩ := hK.1 13 _ rfl
  have hcD : c = D.1 13 := Option.some.inj (q2.symm.trans hfc)
  subst hcD
  cases q4.symm.trans hkC
  have hsz := q7 hkind
  have slot : ∀ k, k < 4 → ∃ v, cell.slots[D.2 13 k]? = some v := by
    intro k hk
    obtain ⟨cf, kf, fi, fd, hi, hsl⟩ := hS k hk
    have hty := (u_facts hfc hkC (u_lays hts hin hk) hi).2.2
    have hlt := (Array.getElem?_eq_some_iff.mp hty).1
    rw [← hsl]
    exact ⟨_, Array.getElem?_eq_getElem (by rw [hsz]; exact hlt)⟩
  obtain ⟨h, hh⟩ := slot 2 (by decide)
  obtain ⟨z, hz⟩ := slot 3 (by decide)
  have s0 : cell.slots[D.2 13 0]? = some (.ref t) := by
    obtain ⟨cf, kf, fi, fd, hi, hsl⟩ := hS 0 (by decide)
    cases hi.symm.trans e1
    rw [← hsl]
    exact e5
  have s1 : cell.slots[D.2 13 1]? = some (.int 0) := by
    obtain ⟨cf, kf, fi, fd, hi, hsl⟩ := hS 1 (by decide)
    cases hi.symm.trans g1
    rw [← hsl]
    exact g5
  refine ⟨a, t, cell, cv, q1, q3, by rw [q6]; exact q2, ⟨h, z, _, cell, rfl, q3, q6, g4, q5, fun k hk => ?_⟩, v1, v2, v6, v7, v8⟩
  have hk : k < 4 := hk
  match k, hk with
  | 0, _ => exact s0
  | 1, _ => exact s1
  | 2, _ => exact hh
  | 3, _ => exact hz
theorem st_made : ∀ (c : Nat) (r : vw_C), kcl[c]? = some r → ∃ n, Cond.instantiable r.1 n ∈ pw_T := by
  intro c r h
  match c, h with
  | 0, h => cases h; exact ⟨2, pw_in 34 (by decide +kernel) rfl⟩
  | 1, h => cases h; exact ⟨12, pw_in 290 (by decide +kernel) rfl⟩
  | 2, h => cases h; exact ⟨12, pw_in 61 (by decide +kernel) rfl⟩
  | 3, h => cases h; exact ⟨8, pw_in 477 (by decide +kernel) rfl⟩
  | 4, h => cases h; exact ⟨19, pw_in 862 (by decide +kernel) rfl⟩
  | 5, h => cases h; exact ⟨4, pw_in 69 (by decide +kernel) rfl⟩
  | 6, h => cases h; exact ⟨6, pw_in 609 (by decide +kernel) rfl⟩
  | 7, h => cases h; exact ⟨12, pw_in 282 (by decide +kernel) rfl⟩
  | 8, h => cases h; exact ⟨11, pw_in 1033 (by decide +kernel) rfl⟩
  | 9, h => cases h; exact ⟨20, pw_in 597 (by decide +kernel) rfl⟩
  | 10, h => cases h; exact ⟨2, pw_in 166 (by decide +kernel) rfl⟩
  | 11, h => cases h; exact ⟨20, pw_in 26 (by decide +kernel) rfl⟩
  | 12, h => cases h; exact ⟨166, pw_in 1974 (by decide +kernel) rfl⟩
  | 13, h => cases h; exact ⟨4, pw_in 487 (by decide +kernel) rfl⟩
  | 14, h => cases h; exact ⟨6, pw_in 1909 (by decide +kernel) rfl⟩
  | n + 15, h => simp [kcl] at h
theorem st_known {args : Array Value} {s : State} (hts : ∀ w ∈ pw_T, w.before args s = true) : ∃ D : va_G, va_K D kcl [] s := by
  have h : ∀ c : Nat, ∃ q : ClassId × (Nat → Nat), ∀ r, kcl[c]? = some r → u_Kn s r.1 r.2.1 r.2.2 q.1 q.2 := by
    intro c
    cases hc : kcl[c]? with
    | none => exact ⟨(0, fun _ => 0), fun r hr => by cases hr⟩
    | some r =>
      obtain ⟨C, T, N⟩ := r
      obtain ⟨n, hn⟩ := st_made c _ hc
      obtain ⟨-, -, hin⟩ := kc_all _ _ _ _ hc
      obtain ⟨cC, iS, hk⟩ := u_known (T := T) (N := N) hts hin (hts _ hn)
      exact ⟨(cC, iS), fun r hr => by cases hr; exact hk⟩
  obtain ⟨f, hf⟩ := Classical.axiomOfChoice h
  refine ⟨(fun c => (f c).1, fun c => (f c).2), fun c q hq => hf c q hq, fun k q hk => by cases hk⟩
/-- entries of constant texts: (whose, number, text, the text's number), where their word stands, where it is said that they are one -/
def zrW : List ((String × Nat × String × Nat) × Nat × Nat) := [(("RoutingField$Reader", 74, "link", 0), 397, 0), (("RoutingField$Reader", 244, "jitter", 1), 458, 0), (("RoutingField$Reader", 246, "mtu", 2), 459, 0), (("RoutingField$Reader", 172, "", 3), 482, 0), (("java/lang/String", 7, "", 3), 495, 142), (("RoutingField$Reader", 84, "router", 4), 587, 0), (("RoutingField$Router", 85, "", 3), 610, 157), (("RoutingField$Reader", 89, "join", 5), 734, 0), (("RoutingField$Reader", 312, "cost", 6), 747, 0), (("RoutingField$Reader", 313, "split", 7), 748, 0), (("RoutingField$Reader", 314, "password", 8), 749, 0), (("RoutingField$Reader", 316, "md5", 9), 750, 0), (("RoutingField$Reader", 318, "sha", 10), 751, 0), (("RoutingField$Reader", 320, "passive", 11), 752, 0), (("RoutingField$Reader", 321, "off", 12), 757, 0), (("RoutingField$Reader", 323, "simple", 13), 758, 0), (("RoutingField$Reader", 325, "poison", 14), 759, 0), (("RoutingField$Reader", 94, "key", 15), 1231, 0), (("RoutingField$Reader", 99, "nokey", 16), 1244, 0), (("RoutingField$Reader", 104, "static", 17), 1249, 0), (("RoutingField$Reader", 242, "tag", 18), 1258, 0), (("RoutingField$Reader", 109, "nostatic", 19), 1263, 0), (("RoutingField$Reader", 114, "filter", 20), 1276, 0), (("RoutingField$Reader", 405, "in", 21), 1281, 0), (("RoutingField$Reader", 407, "out", 22), 1282, 0), (("RoutingField$Reader", 409, "permit", 23), 1283, 0), (("RoutingField$Reader", 411, "deny", 24), 1284, 0), (("RoutingField$Reader", 119, "list", 25), 1296, 0), (("RoutingField$Reader", 424, "ge", 26), 1301, 0), (("RoutingField$Reader", 426, "le", 27), 1302, 0), (("RoutingField$Reader", 124, "distribute", 28), 1310, 0), (("RoutingField$Reader", 437, "*", 29), 1319, 0), (("RoutingField$Reader", 129, "offset", 30), 1324, 0), (("RoutingField$Reader", 134, "summary", 31), 1329, 0), (("RoutingField$Reader", 139, "neighbor", 32), 1338, 0), (("RoutingField$Reader", 144, "redistribute", 33), 1347, 0), (("RoutingField$Reader", 471, "connected", 34), 1352, 0), (("RoutingField$Reader", 473, "own", 35), 1353, 0), (("RoutingField$Reader", 149, "default", 36), 1354, 0), (("RoutingField$Reader", 481, "only", 37), 1359, 0), (("RoutingField$Reader", 154, "timers", 38), 1360, 0), (("RoutingField", 350, "", 3), 1680, 475), (("RoutingField$Bytes", 82, "::", 39), 1708, 0), (("RoutingField$Bytes", 43, "", 3), 1722, 488), (("RoutingField", 373, "static", 17), 1724, 502), (("RoutingField", 375, "direct", 40), 1725, 0), (("RoutingField", 377, "via", 41), 1726, 0), (("RoutingField", 388, "-", 42), 1728, 0), (("RoutingField", 401, "up", 43), 1737, 0), (("RoutingField", 402, "down", 44), 1738, 0), (("RoutingField", 404, "cost", 6), 1739, 547), (("RoutingField", 433, "off", 12), 1743, 555), (("RoutingField", 435, "simple", 13), 1744, 566), (("RoutingField", 437, "poison", 14), 1745, 577), (("RoutingField$Chain", 53, "password", 8), 1750, 590), (("RoutingField$Chain", 54, "chain", 45), 1751, 0), (("RoutingField$Chain", 56, "open", 46), 1752, 0), (("RoutingField", 425, "passive", 11), 1753, 619), (("RoutingField", 432, "changed", 47), 1763, 0), (("RoutingField", 443, "link", 0), 1772, 639), (("RoutingField", 444, "jitter", 1), 1773, 650), (("RoutingField", 445, "mtu", 2), 1774, 658), (("RoutingField", 447, "list", 25), 1779, 667), (("RoutingField", 454, "permit", 23), 1780, 678), (("RoutingField", 456, "deny", 24), 1781, 687), (("RoutingField", 465, "ge", 26), 1782, 694), (("RoutingField", 470, "le", 27), 1783, 701), (("RoutingField", 472, "router", 4), 1788, 712), (("RoutingField", 475, "timers", 38), 1789, 723), (("RoutingField", 520, "join", 5), 1794, 732), (("RoutingField", 526, "split", 7), 1799, 742), (("RoutingField", 530, "password", 8), 1800, 755), (("RoutingField", 540, "key", 15), 1809, 764), (("RoutingField", 548, "md5", 9), 1810, 772), (("RoutingField", 550, "sha", 10), 1811, 780), (("RoutingField", 565, "tag", 18), 1816, 788), (("RoutingField", 572, "filter", 20), 1821, 799), (("RoutingField", 439, "in", 21), 1825, 806), (("RoutingField", 441, "out", 22), 1826, 814), (("RoutingField", 493, "distribute", 28), 1827, 829), (("RoutingField", 577, "*", 29), 1832, 835), (("RoutingField", 506, "offset", 30), 1833, 846), (("RoutingField", 582, "summary", 31), 1838, 858), (("RoutingField", 590, "neighbor", 32), 1839, 871), (("RoutingField", 598, "default", 36), 1840, 883), (("RoutingField", 603, "only", 37), 1841, 892), (("RoutingField", 611, "redistribute", 33), 1846, 909), (("RoutingField", 613, "connected", 34), 1847, 923), (("RoutingField", 615, "own", 35), 1848, 931), (("RoutingField", 249, "no such byte of the text", 48), 1947, 0)]
theorem zrW_1 : zrW.map (fun w => w.1) = kZ2 := rfl
def zrC (w : (String × Nat × String × Nat) × Nat × Nat) : Bool := decide (tables_1[w.2.1]? = some (.stringRef w.1.1 w.1.2.1 w.1.2.2.1)) && (decide (w.1.2.2.2 < 49) && (decide ((txE w.1.2.2.2).1 = (w.1.1, w.1.2.1)) || decide (nw w.2.2 = .eq (sTm (txE w.1.2.2.2).1) (.string w.1.1 w.1.2.1))))
set_option maxRecDepth 100000 in
theorem zrW_ok : ∀ w ∈ zrW, zrC w = true := by decide +kernel
set_option maxRecDepth 100000 in
theorem kZ3_in : ∀ q ∈ kZ3, Cond.fieldLinkNest q.1 q.2.1 q.2.2.1 q.2.2.2.1 q.2.2.2.2.1 q.2.2.2.2.2 ∈ tables_1 := List.forall_mem_cons.mpr ⟨List.mem_of_getElem? (i := 188) (by decide +kernel), List.forall_mem_cons.mpr ⟨List.mem_of_getElem? (i := 194) (by decide +kernel), List.forall_mem_cons.mpr ⟨List.mem_of_getElem? (i := 196) (by decide +kernel), List.forall_mem_cons.mpr ⟨List.mem_of_getElem? (i := 198) (by decide +kernel), List.forall_mem_cons.mpr ⟨List.mem_of_getElem? (i := 200) (by decide +kernel), List.forall_mem_cons.mpr ⟨List.mem_of_getElem? (i := 202) (by decide +kernel), List.forall_mem_cons.mpr ⟨List.mem_of_getElem? (i := 204) (by decide +kernel), List.forall_mem_cons.mpr ⟨List.mem_of_getElem? (i := 205) (by decide +kernel), List.forall_mem_cons.mpr ⟨List.mem_of_getElem? (i := 207) (by decide +kernel), List.forall_mem_cons.mpr ⟨List.mem_of_getElem? (i := 213) (by decide +kernel), List.forall_mem_cons.mpr ⟨List.mem_of_getElem? (i := 215) (by decide +kernel), List.forall_mem_cons.mpr ⟨List.mem_of_getElem? (i := 217) (by decide +kernel), List.forall_mem_cons.mpr ⟨List.mem_of_getElem? (i := 219) (by decide +kernel), fun _ h => absurd h List.not_mem_nil⟩⟩⟩⟩⟩⟩⟩⟩⟩⟩⟩⟩⟩
set_option maxRecDepth 100000 in
theorem kZ4_in : ∀ q ∈ kZ4, Cond.methodLinkNest q.1 q.2.1 q.2.2.1 q.2.2.2 ∈ tables_1 := List.forall_mem_cons.mpr ⟨List.mem_of_getElem? (i := 763) (by decide +kernel), List.forall_mem_cons.mpr ⟨List.mem_of_getElem? (i := 1219) (by decide +kernel), List.forall_mem_cons.mpr ⟨List.mem_of_getElem? (i := 1490) (by decide +kernel), fun _ h => absurd h List.not_mem_nil⟩⟩⟩
set_option maxRecDepth 100000 in
theorem kZ5_in : ∀ q ∈ kZ5, Cond.arrayOver (.object q) ∈ tables_1 := List.forall_mem_cons.mpr ⟨List.mem_of_getElem? (i := 54) (by decide +kernel), List.forall_mem_cons.mpr ⟨List.mem_of_getElem? (i := 56) (by decide +kernel), List.forall_mem_cons.mpr ⟨List.mem_of_getElem? (i := 58) (by decide +kernel), List.forall_mem_cons.mpr ⟨List.mem_of_getElem? (i := 60) (by decide +kernel), List.forall_mem_cons.mpr ⟨List.mem_of_getElem? (i := 172) (by decide +kernel), List.forall_mem_cons.mpr ⟨List.mem_of_getElem? (i := 603) (by decide +kernel), List.forall_mem_cons.mpr ⟨List.mem_of_getElem? (i := 617) (by decide +kernel), fun _ h => absurd h List.not_mem_nil⟩⟩⟩⟩⟩⟩⟩
set_option maxRecDepth 100000 in
theorem kZ6_in : ∀ q ∈ kZ6, Cond.arrayOver (.array q) ∈ tables_1 := List.forall_mem_cons.mpr ⟨List.mem_of_getElem? (i := 296) (by decide +kernel), List.forall_mem_cons.mpr ⟨List.mem_of_getElem? (i := 608) (by decide +kernel), fun _ h => absurd h List.not_mem_nil⟩⟩
def snL : List Int32 := [(-680876936), (-389564586), 606105819, (-1044525330), (-176418897), 1200080426, (-1473231341), (-45705983), 1770035416, (-1958414417), (-42063), (-1990404162), 1804603682, (-40341101), (-1502002290), 1236535329, (-165796510), (-1069501632), 643717713, (-373897302), (-701558691), 38016083, (-660478335), (-405537848), 568446438, (-1019803690), (-187363961), 1163531501, (-1444681467), (-51403784), 1735328473, (-1926607734), (-378558), (-2022574463), 1839030562, (-35309556), (-1530992060), 1272893353, (-155497632), (-1094730640), 681279174, (-358537222), (-722521979), 76029189, (-640364487), (-421815835), 530742520, (-995338651), (-198630844), 1126891415, (-1416354905), (-57434055), 1700485571, (-1894986606), (-1051523), (-2054922799), 1873313359, (-30611744), (-1560198380), 1309151649, (-145523070), (-1120210379), 718787259, (-343485551)]
def tnL : List Int32 := [7, 12, 17, 22, 5, 9, 14, 20, 4, 11, 16, 23, 6, 10, 15, 21]
def snT : Term := .static "RoutingField$Chain" "SINES" "[I"
set_option maxRecDepth 100000 in
theorem sn_el : (List.range 64).all (fun j => decide (nw (10 + j) = .eq (.elem snT (.int (Int32.ofNat j))) (.int (snL.getD j 0)))) = true := by decide +kernel
theorem sn_of {args : Array Value} {s : State} (h : (Jvm.Cond.and given_1 narrow_1).before args s = true) : ∃ t : Nat, snT.eval args s none [] s = some (.ref t) ∧ va_T .int t 64 (fun j => .int (snL.getD j 0)) (fun q => s.heap.size ≤ q) s s.heap := va_Tof (by decide) (nw_at h 8 (by decide +kernel)) (va_eqt (nw_at h 9 (c := .eq (.length snT) (.int (Int32.ofNat 64))) (by decide +kernel))) (fun j hj => va_eqt (nw_at h (10 + j) (of_decide_eq_true (List.all_eq_true.mp sn_el j (List.mem_range.mpr hj))))) (fun a h1 h2 => by omega)
def tnT : Term := .static "RoutingField$Chain" "TURNS" "[I"
set_option maxRecDepth 100000 in
theorem tn_el : (List.range 16).all (fun j => decide (nw (77 + j) = .eq (.elem tnT (.int (Int32.ofNat j))) (.int (tnL.getD j 0)))) = true := by decide +kernel
theorem tn_of {args : Array Value} {s : State} (h : (Jvm.Cond.and given_1 narrow_1).before args s = true) : ∃ t : Nat, tnT.eval args s none [] s = some (.ref t) ∧ va_T .int t 16 (fun j => .int (tnL.getD j 0)) (fun q => s.heap.size ≤ q) s s.heap := va_Tof (by decide) (nw_at h 75 (by decide +kernel)) (va_eqt (nw_at h 76 (c := .eq (.length tnT) (.int (Int32.ofNat 16))) (by decide +kernel))) (fun j hj => va_eqt (nw_at h (77 + j) (of_decide_eq_true (List.all_eq_true.mp tn_el j (List.mem_range.mpr hj))))) (fun a h1 h2 => by omega)
/-- the picture of what is there before all -/
noncomputable def st_M (s : State) (D : va_G) (ints strs bytes : Nat → Prop) : pmM := fun a => match s.heap[a]? with
  | none => none
  | some z => @ite (Option pmE) (ints a) (Classical.propDecidable _) (some (.inl (.int, z.slots.size % 2 ^ 32, .inl (cellI z)))) (@ite (Option pmE) (strs a) (Classical.propDecidable _) (some (.inr (13, (List.range 4).map fun k => z.slots.getD (D.2 13 k) .null))) (@ite (Option pmE) (bytes a) (Classical.propDecidable _) (some (.inl (.byte, z.slots.size % 2 ^ 32, .inl (cellI z)))) none))
set_option maxHeartbeats 4000000 in
theorem start_ok {s : State} {b L : Nat} {xs : Nat → Int32} (hL : L ≤ 3072) (hts : ∀ w ∈ lw_tbl, w.before #[Value.ref b] s = true) (hX : va_X b L xs s s.heap) (hgv : (Jvm.Cond.and given_1 narrow_1).before #[Value.ref b] s = true) :
    ∃ (D : va_G) (sa va : Nat → Nat) (M0 : pmM) (ys sn tn : Nat → Int32), pm_P D kcl s.heap.size M0 s s.heap ∧ pm_Z s.heap.size (kZ sa) s s.heap ∧ M0 b = some (.inl (.int, L, .inl ys)) ∧ (∀ k, k < 49 → vSt M0 (sa k) (va k) (txB k)) ∧ (M0 (sa 1000) = some (.inl (.int, 64, .inl sn)) ∧ ∀ j, j < 64 → sn j = snL.getD j 0) ∧ (M0 (sa 1001) = some (.inl (.int, 16, .inl tn)) ∧ ∀ j, j < 16 → tn j = tnL.getD j 0) ∧ ∀ a, M0 a ≠ none → a < s.heap.size := by
  have htb : ∀ w ∈ tables_1, w.before #[Value.ref b] s = true := fun w h => hts w (List.mem_append_right _ h)
  have htp : ∀ w ∈ pw_T, w.before #[Value.ref b] s = true := fun w h => hts w (List.mem_filter.mp h).1
  have hA : ∀ a : Nat, a < s.heap.size → ¬ s.heap.size ≤ a := fun a h1 h2 => by omega
  obtain ⟨D, hK⟩ := st_known htp
  obtain ⟨-, -, hin⟩ := kc_all 13 _ _ _ rfl
  have htx : ∀ k : Nat, ∃ q : Nat × Nat, k < 49 → ∃ ca cv : Cell, (sTm (txE k).1).eval #[Value.ref b] s none [] s = some (.ref q.1) ∧ s.heap[q.1]? = some ca ∧ s.vm.findClass "java/lang/String" = some ca.cls ∧ (∃ h z : Value, pm_or D kcl s.heap q.1 (13, [.ref q.2, .int 0, h, z])) ∧ s.heap[q.2]? = some cv ∧ s.isArrayOf cv .byte ∧ cv.slots.size % 2 ^ 32 = (txB k).length ∧ (∀ j, j < (txB k).length → cellI cv j = (txB k).getD j 0) ∧ pm_ro D kcl s s.heap q.2 (.inl (.byte, (txB k).length, .inl (cellI cv))) := by
    intro k
    by_cases hk : k < 49
    · have hc := txW_ok _ (txE_mem hk)
      unfold txC at hc
      simp only [Bool.and_eq_true, decide_eq_true_eq] at hc
      obtain ⟨c1, c2, c3, c4, c5, c6⟩ := hc
      obtain ⟨a, v, ca, cv, r⟩ := st_text (q := (txE k).1) (bs := txB k) hK htp hin c6 (nw_at hgv _ c1) (nw_at hgv _ c2) (nw_at hgv _ c3) (nw_at hgv _ c4) (fun j hj => nw_at hgv _ (of_decide_eq_true (List.all_eq_true.mp c5 j (List.mem_range.mpr hj))))
      exact ⟨(a, v), fun _ => ⟨ca, cv, r⟩⟩
    · exact ⟨(0, 0), fun h => absurd h hk⟩
  obtain ⟨ad, had⟩ := Classical.axiomOfChoice htx
  obtain ⟨aS, hS1, hS2⟩ := sn_of hgv
  obtain ⟨aT, hT1, hT2⟩ := tn_of hgv
  have hfm := va_Zqof (C := "jdk/internal/util/Preconditions") (n := "SIOOBE_FORMATTER") (d := "Ljava/util/function/BiFunction;") (A := fun q => s.heap.size ≤ q) (htb _ (List.mem_of_getElem? (i := 431) (by decide +kernel))) (htb (Cond.initialized "jdk/internal/util/Preconditions") (List.mem_of_getElem? (i := 11) (by decide +kernel))) (nw_at hgv 3 (by decide +kernel)) hA
  have hfm2 : ∃ g : Nat × Nat, va_Z "jdk/internal/util/Preconditions" "SIOOBE_FORMATTER" "Ljava/util/function/BiFunction;" (va_rf (if g.1 = 0 then none else some g.2)) (fun q => s.heap.size ≤ q) s s.heap := by
    rcases hfm with h | ⟨t, h⟩
    · exact ⟨(0, 0), h⟩
    · exact ⟨(1, t), h⟩
  obtain ⟨gg, hgg⟩ := hfm2
  obtain ⟨cs, hcs, hcs2, -, -, -, hcsm, hcsi, hcsro⟩ := st_arr (D := D) (by decide) hS2
  obtain ⟨ct, hct, hct2, -, -, -, hctm, hcti, hctro⟩ := st_arr (D := D) (by decide) hT2
  obtain ⟨scr, x1, x2, x3, x4, x5⟩ := hX
  have hscm : scr.slots.size % 2 ^ 32 = L := by rw [x4, Nat.mod_eq_of_lt (by omega)]
  have hsci : ∀ j, j < L → scr.slots[j]? = some (.int (cellI scr j)) := fun j hj => by
    unfold cellI
    rw [x5 j hj]
  have hscro : pm_ro D kcl s s.heap b (.inl (.int, L, .inl (cellI scr))) := ⟨scr, x1, x2, x3, by omega, by rw [x4], hsci⟩
  let sa : Nat → Nat := fun k => if k < 49 then (ad k).1 else if k = 1000 then aS else if k = 1001 then aT else if k = 1002 then gg.1 else gg.2
  let va : Nat → Nat := fun k => (ad k).2
  let ints : Nat → Prop := fun a => a = b ∨ a = aS ∨ a = aT
  let strs : Nat → Prop := fun a => ∃ k, k < 49 ∧ a = (ad k).1
  let byts : Nat → Prop := fun a => ∃ k, k < 49 ∧ a = (ad k).2
  have kint : ∀ a, ints a → ∃ cell, s.heap[a]? = some cell ∧ s.isArrayOf cell .int := by
    intro a h
    rcases h with h | h | h
    · subst h; exact ⟨scr, x1, x2⟩
    · subst h; exact ⟨cs, hcs, hcs2⟩
    · subst h; exact ⟨ct, hct, hct2⟩
  obtain ⟨-, hfcS, kCS, hkCS, hkindS⟩ := hK.1 13 _ rfl
  have nis : ∀ a, ints a → ¬ strs a := by
    intro a h ⟨k, hk, e⟩
    obtain ⟨cell, h1, -, k0, h2, comp, h3⟩ := kint a h
    obtain ⟨ca, cv, -, r1, r2, -⟩ := had k hk
    rw [e] at h1
    cases h1.symm.trans r1
    rw [show cell.cls = D.1 13 from Option.some.inj (r2.symm.trans hfcS)] at h2
    cases hkCS.symm.trans h2
    rw [hkindS] at h3
    cases h3
  have nib : ∀ a, ints a → ¬ byts a := by
    intro a h ⟨k, hk, e⟩
    obtain ⟨cell, h1, -, k0, h2, comp, h3⟩ := kint a h
    obtain ⟨ca, cv, -, -, -, -, r1, ⟨-, k1, r2, comp1, r3⟩, -⟩ := had k hk
    rw [e] at h1
    cases h1.symm.trans r1
    cases h2.symm.trans r2
    rw [h3] at r3
    cases r3
  have nsb : ∀ a, byts a → ¬ strs a := by
    intro a ⟨k, hk, e⟩ ⟨k', hk', e'⟩
    obtain ⟨ca, cv, -, -, -, -, r1, ⟨-, k1, r2, comp1, r3⟩, -⟩ := had k hk
    obtain ⟨ca', cv', -, w1, w2, -⟩ := had k' hk'
    rw [← e] at r1
    rw [← e'] at w1
    cases w1.symm.trans r1
    rw [show cv.cls = D.1 13 from Option.some.inj (w2.symm.trans hfcS)] at r2
    cases hkCS.symm.trans r2
    rw [hkindS] at r3
    cases r3
  have Mi : ∀ a cell, ints a → s.heap[a]? = some cell → st_M s D ints strs byts a = some (.inl (.int, cell.slots.size % 2 ^ 32, .inl (cellI cell))) := by
    intro a cell h1 h2
    unfold st_M
    rw [h2]
    exact if_pos h1
  have Ms : ∀ a cell, strs a → s.heap[a]? = some cell → st_M s D ints strs byts a = some (.inr (13, (List.range 4).map fun k => cell.slots.getD (D.2 13 k) .null)) := by
    intro a cell h1 h2
    unfold st_M
    rw [h2]
    exact (if_neg (fun h => nis a h h1)).trans (if_pos h1)
  have Mb : ∀ a cell, byts a → s.heap[a]? = some cell → st_M s D ints strs byts a = some (.inl (.byte, cell.slots.size % 2 ^ 32, .inl (cellI cell))) := by
    intro a cell h1 h2
    unfold st_M
    rw [h2]
    exact (if_neg (fun h => nib a h h1)).trans ((if_neg (nsb a h1)).trans (if_pos h1))
  have Mn : ∀ a, ¬ ints a → ¬ strs a → ¬ byts a → st_M s D ints strs byts a = none := by
    intro a h1 h2 h3
    unfold st_M
    split
    · rfl
    · exact (if_neg h1).trans ((if_neg h2).trans (if_neg h3))
  have hor : ∀ k, k < 49 → ∀ ca, s.heap[(ad k).1]? = some ca → ∃ h z : Value, ((List.range 4).map fun j => ca.slots.getD (D.2 13 j) .null) = [.ref (ad k).2, .int 0, h, z] := by
    intro k hk ca hca
    obtain ⟨ca', cv, -, r1, -, ⟨h, z, r, cell, o1, o2, o3, o4, o5, o6⟩, -⟩ := had k hk
    cases hca.symm.trans o2
    cases o1
    have g : ∀ j, j < 4 → ca.slots.getD (D.2 13 j) .null = vp_V [.ref (ad k).2, .int 0, h, z] j := fun j hj => by
      rw [Array.getD_eq_getD_getElem?, o6 j hj]
      rfl
    refine ⟨h, z, ?_⟩
    show [ca.slots.getD (D.2 13 0) .null, ca.slots.getD (D.2 13 1) .null, ca.slots.getD (D.2 13 2) .null, ca.slots.getD (D.2 13 3) .null] = _
    rw [g 0 (by decide), g 1 (by decide), g 2 (by decide), g 3 (by decide)]
    rfl
  refine ⟨D, sa, va, st_M s D ints strs byts, cellI scr, cellI cs, cellI ct, ⟨[], [], hK, fun k q h => (by cases h), ⟨fun i j p q h => (by cases h), fun k q h => (by cases h)⟩, fun a e he => Or.inr ?_⟩, ?_, ?_, ?_, ?_, ?_, ?_⟩
  · have lt : ∀ cell, s.heap[a]? = some cell → a < s.heap.size := fun cell h => (Array.getElem?_eq_some_iff.mp h).1
    by_cases h1 : ints a
    · obtain ⟨cell, g1, g2⟩ := kint a h1
      rw [Mi a cell h1 g1] at he
      cases he
      refine ⟨lt _ g1, ?_⟩
      rcases h1 with h | h | h
      · subst h
        cases g1.symm.trans x1
        rw [hscm]
        exact hscro
      · subst h
        cases g1.symm.trans hcs
        rw [hcsm]
        exact hcsro
      · subst h
        cases g1.symm.trans hct
        rw [hctm]
        exact hctro
    · by_cases h2 : strs a
      · obtain ⟨k, hk, e0⟩ := id h2
        subst e0
        obtain ⟨ca, cv, -, r1, -, ⟨h, z, hor0⟩, -⟩ := had k hk
        rw [Ms _ ca h2 r1] at he
        cases he
        refine ⟨lt _ r1, ?_⟩
        show pm_or D kcl s.heap _ _
        obtain ⟨r, cell, o1, o2, o3, o4, o5, o6⟩ := hor0
        cases r1.symm.trans o2
        cases o1
        refine ⟨_, ca, rfl, o2, o3, o4, o5, fun j hj => ?_⟩
        have hj : j < 4 := hj
        rw [o6 j hj]
        match j, hj with
        | 0, _ => show _ = some (ca.slots.getD (D.2 13 0) .null); rw [Array.getD_eq_getD_getElem?, o6 0 (by decide)]; rfl
        | 1, _ => show _ = some (ca.slots.getD (D.2 13 1) .null); rw [Array.getD_eq_getD_getElem?, o6 1 (by decide)]; rfl
        | 2, _ => show _ = some (ca.slots.getD (D.2 13 2) .null); rw [Array.getD_eq_getD_getElem?, o6 2 (by decide)]; rfl
        | 3, _ => show _ = some (ca.slots.getD (D.2 13 3) .null); rw [Array.getD_eq_getD_getElem?, o6 3 (by decide)]; rfl
      · by_cases h3 : byts a
        · obtain ⟨k, hk, e0⟩ := id h3
          subst e0
          obtain ⟨ca, cv, -, -, -, -, r1, r2, r3, r4, r5⟩ := had k hk
          rw [Mb _ cv h3 r1] at he
          cases he
          refine ⟨lt _ r1, ?_⟩
          rw [r3]
          exact r5
        · rw [Mn a h1 h2 h3] at he
          cases he
  · refine ⟨?_, ?_, fun q hq => va_Nw.of rfl (htb _ (kZ3_in q hq)), fun q hq => va_Nw.of rfl (htb _ (kZ4_in q hq)), fun q hq => va_AO.of (htb _ (kZ5_in q hq)), fun q hq => htb _ (kZ6_in q hq)⟩
    · refine List.forall_mem_cons.mpr ⟨?_, List.forall_mem_cons.mpr ⟨?_, List.forall_mem_cons.mpr ⟨?_, List.forall_mem_cons.mpr ⟨?_, fun _ h => absurd h List.not_mem_nil⟩⟩⟩⟩
      · exact va_Zof (htb _ (List.mem_of_getElem? (i := 415) (by decide +kernel))) (htb (Cond.initialized "java/lang/String") (List.mem_of_getElem? (i := 9) (by decide +kernel))) (va_eqi (nw_at hgv 2 (by decide +kernel))) hA
      · exact hgg
      · show va_Z "RoutingField$Chain" "SINES" "[I" (.ref aS) (fun q => s.heap.size ≤ q) s s.heap
        exact va_Zof (htb _ (List.mem_of_getElem? (i := 1192) (by decide +kernel))) (htb (Cond.initialized "RoutingField$Chain") (List.mem_of_getElem? (i := 8) (by decide +kernel))) hS1 hA
      · show va_Z "RoutingField$Chain" "TURNS" "[I" (.ref aT) (fun q => s.heap.size ≤ q) s s.heap
        exact va_Zof (htb _ (List.mem_of_getElem? (i := 1194) (by decide +kernel))) (htb (Cond.initialized "RoutingField$Chain") (List.mem_of_getElem? (i := 8) (by decide +kernel))) hT1 hA
    · intro q hq
      obtain ⟨w, hw, rfl⟩ := List.mem_map.mp hq
      have hw : w ∈ kZ2 := hw
      rw [← zrW_1] at hw
      obtain ⟨z, hz, rfl⟩ := List.mem_map.mp hw
      have hc := zrW_ok z hz
      unfold zrC at hc
      simp only [Bool.and_eq_true, Bool.or_eq_true, decide_eq_true_eq] at hc
      obtain ⟨c1, c2, c3⟩ := hc
      obtain ⟨ca, cv, r0, -⟩ := had _ c2
      have hsa : sa z.1.2.2.2 = (ad z.1.2.2.2).1 := if_pos c2
      have hev : (Term.string z.1.1 z.1.2.1).eval #[Value.ref b] s none [] s = some (.ref (ad z.1.2.2.2).1) := by
        rcases c3 with c3 | c3
        · have e2 : sTm (txE z.1.2.2.2).1 = Term.string z.1.1 z.1.2.1 := by rw [c3]; rfl
          rw [e2] at r0
          exact r0
        · exact va_eqR (nw_at hgv _ c3) r0
      show vk_R z.1.1 z.1.2.1 z.1.2.2.1 (sa z.1.2.2.2) s
      rw [hsa]
      exact vk_R.of (htb _ (List.mem_of_getElem? c1)) hev
  · have h := Mi b scr (Or.inl rfl) x1
    rw [hscm] at h
    exact h
  · intro k hk
    obtain ⟨ca, cv, r0, r1, -, -, r2, r3, r4, r5, -⟩ := had k hk
    have hsa : sa k = (ad k).1 := if_pos hk
    obtain ⟨h, z, e⟩ := hor k hk ca r1
    have h1 := Ms (ad k).1 ca ⟨k, hk, rfl⟩ r1
    rw [e] at h1
    have h2 := Mb (ad k).2 cv ⟨k, hk, rfl⟩ r2
    rw [r4] at h2
    have hc := txW_ok _ (txE_mem hk)
    unfold txC at hc
    simp only [Bool.and_eq_true, decide_eq_true_eq] at hc
    refine ⟨h, z, cellI cv, ?_, h2, ?_, r5⟩
    · rw [hsa]
      exact h1
    · have := hc.2.2.2.2.2
      show (txB k).length ≤ 1000000
      have h9 : (txB k).length < 100 := this
      omega
  · refine ⟨?_, hcsi⟩
    have h := Mi aS cs (Or.inr (Or.inl rfl)) hcs
    rw [hcsm] at h
    exact h
  · refine ⟨?_, hcti⟩
    have h := Mi aT ct (Or.inr (Or.inr rfl)) hct
    rw [hctm] at h
    exact h
  · intro a ha
    cases hc : s.heap[a]? with
    | none =>
      exfalso
      apply ha
      unfold st_M
      rw [hc]
    | some cell => exact (Array.getElem?_eq_some_iff.mp hc).1
