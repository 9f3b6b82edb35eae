/-! Rows of bytes and prefixes in the class's memory. -/
/-- the row of bytes b holds l, in the array d of cap places -/
def vBs (s : cS) (u b : Nat) (l : List Int32) (d cap : Nat) : Prop := (Nat.ble 1 u = true ∧ Nat.ble (u + 1) 100 = true ∧ cKn u = 0) ∧ isO s u b ∧ s.P 0 b = some d ∧ s.I 1 b = nI l.length ∧ isA s 101 cap d ∧ l.length ≤ cap ∧ 16 ≤ cap ∧ cap ≤ 1000000 ∧ (∀ i, i < l.length → s.E d i = l.getD i 0) ∧ ∀ x ∈ l, x.toInt8.toInt32 = x
section CBy
variable {R : pmM} {s : cS} {base : Nat}
theorem vBs.ne {u b d cap : Nat} {l : List Int32} (h : vBs s u b l d cap) : b ≠ d := by
  rintro rfl
  have h0 := Nat.le_of_ble_eq_true h.1.2.1
  have h1 : (s.K b).1 = u := h.2.1
  have h2 : s.K b = (101, cap) := h.2.2.2.2.1
  rw [h2] at h1
  have h1 : 101 = u := h1
  omega
theorem vBs.ob {u b d cap : Nat} {l : List Int32} (h : vBs s u b l d cap) : cM R s b = some (.inr (0, [.ref d, .int (nI l.length)])) := by
  rw [cM_o h.2.1 h.1.1 h.1.2.1 h.1.2.2]
  show some (Sum.inr (0, [va_rf (s.P 0 b), .int (s.I 1 b)])) = _
  rw [h.2.2.1, h.2.2.2.1]
  rfl
theorem vBs.by (hB : cB base s) {u b d cap : Nat} {l : List Int32} (h : vBs s u b l d cap) : vBy base (cM R s) b l d cap := by
  have hob := h.ob (R := R)
  have hne := h.ne
  obtain ⟨g0, g1, g2, g3, g4, g5, g6, g7, g8, g9⟩ := h
  exact ⟨s.E d, ⟨hob, cM_i g4 rfl rfl, g5, g6, g7⟩, g8, g9, g1.b hB g0.1, g4.b hB rfl, hne⟩
/-- the row b with another content, in the array d', which is d or new -/
def cSb (s : cS) (b d d' cap' n : Nat) (f : Nat → Int32) : cS := (fun a => if a = d' then (101, cap') else if a = d then (199, 0) else s.K a, fun g a => if g = 1 then (if a = b then nI n else s.I g a) else s.I g a, s.J, fun g a => if g = 0 then (if a = b then some d' else s.P g a) else s.P g a, fun a => if a = d' then f else s.E a, s.Q)
theorem cSb_k {b d d' cap' n a : Nat} {f : Nat → Int32} (h1 : a ≠ d') (h2 : a ≠ d) : (cSb s b d d' cap' n f).K a = s.K a := by
  show (if a = d' then _ else if a = d then _ else s.K a) = _
  rw [if_neg h1, if_neg h2]
theorem cSb_e {b d d' cap' n a : Nat} {f : Nat → Int32} (h1 : a ≠ d') : (cSb s b d d' cap' n f).E a = s.E a := if_neg h1
theorem cSb_i {b d d' cap' n a g : Nat} {f : Nat → Int32} (h : a ≠ b) : (cSb s b d d' cap' n f).I g a = s.I g a := by
  show (if g = 1 then (if a = b then _ else s.I g a) else s.I g a) = _
  rw [if_neg h, ite_self]
theorem cSb_p {b d d' cap' n a g : Nat} {f : Nat → Int32} (h : a ≠ b) : (cSb s b d d' cap' n f).P g a = s.P g a := by
  show (if g = 0 then (if a = b then _ else s.P g a) else s.P g a) = _
  rw [if_neg h, ite_self]
theorem cSb_ig {b d d' cap' n a g : Nat} {f : Nat → Int32} (h : g ≠ 1) : (cSb s b d d' cap' n f).I g a = s.I g a := if_neg h
theorem cSb_pg {b d d' cap' n a g : Nat} {f : Nat → Int32} (h : g ≠ 0) : (cSb s b d d' cap' n f).P g a = s.P g a := if_neg h
/-- what a call that lets a row grow leaves, as a state -/
theorem by_back (hB : cB base s) {u b d cap d' cap' kc ks kc' ks' : Nat} {l l' : List Int32} {M' : pmM} (h : vBs s u b l d cap) (hv : vBy base M' b l' d' cap') (hg : grw (cM R s) b d cap kc ks M' d' cap' kc' ks') :
    ∃ f, pm_le (cM R (cSb s b d d' cap' l'.length f)) M' ∧ vBs (cSb s b d d' cap' l'.length f) u b l' d' cap' ∧ cB base (cSb s b d d' cap' l'.length f) ∧ (d' = d ∨ cM R s d' = none) := by
  obtain ⟨f, ⟨r1, r2, r3, r4, r5⟩, hf, h8, q1, q2, q3⟩ := hv
  have hob := h.ob (R := R)
  have hne := h.ne
  have hdd : b ≠ d' := q3
  obtain ⟨g0, g1, g2, g3, g4, g5, g6, g7, g8, g9⟩ := h
  have hbk : (cSb s b d d' cap' l'.length f).K b = s.K b := cSb_k hdd hne
  have hOb : isO (cSb s b d d' cap' l'.length f) u b := by
    show ((cSb s b d d' cap' l'.length f).K b).1 = u
    rw [hbk]
    exact g1
  have eP : (cSb s b d d' cap' l'.length f).P 0 b = some d' := by
    show (if 0 = 0 then (if b = b then some d' else s.P 0 b) else s.P 0 b) = _
    rw [if_pos rfl, if_pos rfl]
  have eI : (cSb s b d d' cap' l'.length f).I 1 b = nI l'.length := by
    show (if 1 = 1 then (if b = b then nI l'.length else s.I 1 b) else s.I 1 b) = _
    rw [if_pos rfl, if_pos rfl]
  have eE : (cSb s b d d' cap' l'.length f).E d' = f := if_pos rfl
  have hA : isA (cSb s b d d' cap' l'.length f) 101 cap' d' := if_pos rfl
  refine ⟨f, fun a e he => ?_, ⟨g0, hOb, eP, eI, hA, r3, r4, r5, fun i hi => ?_, h8⟩, fun a ha => ?_, hg.2.2.1⟩
  · by_cases h1 : a = d'
    · subst h1
      rw [cM_i hA rfl rfl, eE] at he
      rw [r2]
      exact he
    · by_cases h2 : a = d
      · subst h2
        have hk : (cSb s b a d' cap' l'.length f).K a = (199, 0) := by
          show (if a = d' then _ else if a = a then _ else s.K a) = _
          rw [if_neg h1, if_pos rfl]
        unfold cM at he
        rw [hk] at he
        cases he
      · have hk := cSb_k (s := s) (b := b) (cap' := cap') (n := l'.length) (f := f) h1 h2
        by_cases h3 : a = b
        · subst h3
          rw [cM_o hOb g0.1 g0.2.1 g0.2.2] at he
          rw [r1, ← he]
          show some (Sum.inr (0, [Value.ref d', .int (nI l'.length)])) = some (Sum.inr (0, [va_rf ((cSb s a d d' cap' l'.length f).P 0 a), .int ((cSb s a d d' cap' l'.length f).I 1 a)]))
          rw [eP, eI]
          rfl
        · have e0 : cM R (cSb s b d d' cap' l'.length f) a = cM R s a := by
            unfold cM
            rw [hk]
            have e1 : (fun k => cV (cSb s b d d' cap' l'.length f) (20 * cKn (s.K a).1 + k) a) = fun k => cV s (20 * cKn (s.K a).1 + k) a := by
              funext k
              unfold cV
              rw [cSb_i h3, cSb_p h3]
              rfl
            unfold cEt
            rw [e1, cSb_e h1]
            rfl
          rw [e0] at he
          rw [hg.1 a h3 h2 (by rw [he]; simp)]
          exact he
  · rw [eE]
    exact hf i hi
  · by_cases h1 : a = d'
    · exact h1 ▸ q2
    · by_cases h2 : a = d
      · exact h2 ▸ g4.b hB rfl
      · rw [cSb_k h1 h2] at ha
        exact hB a ha
/-- other rows stay -/
theorem vBs.oth {b d d' cap' n u2 b2 d2 cap2 : Nat} {l2 : List Int32} {f : Nat → Int32} (h2 : vBs s u2 b2 l2 d2 cap2) (hb : b2 ≠ b) (hd : d2 ≠ d) (hd' : d2 ≠ d') (hbd : b2 ≠ d) (hbd' : b2 ≠ d') : vBs (cSb s b d d' cap' n f) u2 b2 l2 d2 cap2 := by
  obtain ⟨g0, g1, g2, g3, g4, g5, g6, g7, g8, g9⟩ := h2
  refine ⟨g0, ?_, (cSb_p hb).trans g2, (cSb_i hb).trans g3, (cSb_k hd' hd).trans g4, g5, g6, g7, ?_, g9⟩
  · show ((cSb s b d d' cap' n f).K b2).1 = u2
    rw [cSb_k hbd' hbd]
    exact g1
  · rw [cSb_e hd']
    exact g8
/-- a prefix, written whole -/
def cSpf (s : cS) (x : Nat) (a1 : Int32) (a2 a3 : Int64) (a4 : Int32) : cS := cSI (cSJ (cSJ (cSI s 100 x a1) 101 x a2) 102 x a3) 103 x a4
theorem cM_pf {u x : Nat} (h : isO s u x) (hu : Nat.ble 1 u = true) (hv : Nat.ble (u + 1) 100 = true) (hc : cKn u = 5) : cM R s x = some (pfx (s.I 100 x) (s.J 101 x) (s.J 102 x) (s.I 103 x)) := cM_o h hu hv hc
theorem cM_spf {u x : Nat} {a1 a4 : Int32} {a2 a3 : Int64} (h : isO s u x) (hu : Nat.ble 1 u = true) (hv : Nat.ble (u + 1) 100 = true) (hc : cKn u = 5) : pm_up (cM R s) x (pfx a1 a2 a3 a4) = cM R (cSpf s x a1 a2 a3 a4) := by
  have hu := Nat.le_of_ble_eq_true hu
  have hv := Nat.le_of_ble_eq_true hv
  have h1 : (s.K x).1 = u := h
  have e1 : (cSpf s x a1 a2 a3 a4).I 100 x = a1 := (cSI_g (by decide)).trans (show (cSI s 100 x a1).I 100 x = a1 from cSI_s)
  have e2 : (cSpf s x a1 a2 a3 a4).J 101 x = a2 := (show (cSJ (cSJ (cSI s 100 x a1) 101 x a2) 102 x a3).J 101 x = _ from cSJ_g (by decide)).trans cSJ_s
  have e3 : (cSpf s x a1 a2 a3 a4).J 102 x = a3 := (show (cSJ (cSJ (cSI s 100 x a1) 101 x a2) 102 x a3).J 102 x = a3 from cSJ_s)
  have e4 : (cSpf s x a1 a2 a3 a4).I 103 x = a4 := cSI_s
  refine cM_up rfl (by omega) ?_ (fun b hb => ?_)
  · unfold cEt
    rw [h1, if_pos (by omega), hc]
    show some (Sum.inr (5, [Value.int ((cSpf s x a1 a2 a3 a4).I 100 x), .long ((cSpf s x a1 a2 a3 a4).J 101 x), .long ((cSpf s x a1 a2 a3 a4).J 102 x), .int ((cSpf s x a1 a2 a3 a4).I 103 x)])) = _
    rw [e1, e2, e3, e4]
  · unfold cEt
    have e : (fun k => cV (cSpf s x a1 a2 a3 a4) (20 * cKn (s.K b).1 + k) b) = fun k => cV s (20 * cKn (s.K b).1 + k) b := by
      funext k
      unfold cV
      have z1 : ∀ (s : cS) (g g' : Nat) (v : Int32), (cSI s g' x v).I g b = s.I g b := fun s g g' v => by
        show (if g = g' then (if b = x then v else s.I g b) else s.I g b) = _
        rw [if_neg hb, ite_self]
      have z2 : ∀ (s : cS) (g g' : Nat) (v : Int64), (cSJ s g' x v).J g b = s.J g b := fun s g g' v => by
        show (if g = g' then (if b = x then v else s.J g b) else s.J g b) = _
        rw [if_neg hb, ite_self]
      have i1 : ∀ g, (cSpf s x a1 a2 a3 a4).I g b = s.I g b := fun g => (z1 _ g 103 a4).trans (z1 s g 100 a1)
      have j1 : ∀ g, (cSpf s x a1 a2 a3 a4).J g b = s.J g b := fun g => (z2 (cSJ (cSI s 100 x a1) 101 x a2) g 102 a3).trans (z2 (cSI s 100 x a1) g 101 a2)
      rw [i1, j1]
      rfl
    rw [e]
    rfl
end CBy
