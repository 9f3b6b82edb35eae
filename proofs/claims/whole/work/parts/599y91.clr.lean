/-! The tape is emptied before or after: the model's go does the same. -/
/-- no fault, the tape empty -/
def clT (t : moS) : moS := moSS (moSS t 0 0) 3 0
theorem cl_ly {t : moS} {n B : Nat} {u : Nat → Int32} : ∀ k, lyT (clT t) n B u k = clT (lyT t n B u k)
  | 0 => rfl
  | k + 1 => by
    show moSI (lyT (clT t) n B u k) n (B + k) (u k) = clT (moSI (lyT t n B u k) n (B + k) (u k))
    rw [cl_ly k]; rfl
theorem cl_se {t : moS} {l : Nat} {L : List Int32} : seT (clT t) l L = clT (seT t l L) := cl_ly (t := moSI (moSI t 23 l (t.I 23 l + 1)) 25 l (nI L.length)) L.length
theorem cl_ss {t : moS} {v : Int32} : moSS (clT t) 123 v = clT (moSS t 123 v) := by
  refine Prod.ext (funext fun j => ?_) rfl
  show (if j = 123 then v else if j = 3 then (0 : Int32) else if j = 0 then 0 else t.S j) = if j = 3 then (0 : Int32) else if j = 0 then 0 else if j = 123 then v else t.S j
  by_cases c : j = 123
  · rw [if_pos c, if_neg (by omega), if_neg (by omega), if_pos c]
  · rw [if_neg c, if_neg c]
section Gz
variable {t : moS} {p l : Nat} {fm ta f po ho : Int32} {th tl h lo : Int64} {L : List Int32} {du : Int32}
theorem cl_fl : flT (clT t) p l fm ta th tl f h lo po ho du L = clT (flT t p l fm ta th tl f h lo po ho du L) := by
  have e : moSS (moSI (moSI (clT t) 125 p 1) 124 (cF (clT t)) (nI p)) 123 ((clT t).S 123 + 1) = clT (moSS (moSI (moSI t 125 p 1) 124 (cF t) (nI p)) 123 (t.S 123 + 1)) := cl_ss (t := moSI (moSI t 125 p 1) 124 (cF t) (nI p)) (v := t.S 123 + 1)
  unfold flT
  rw [e]
  exact cl_ly (t := moSI (moSI (moSI (moSI (moSJ (moSJ (moSI (moSJ (moSJ (moSI (moSI (moSI (moSS (moSI (moSI t 125 p 1) 124 (cF t) (nI p)) 123 (t.S 123 + 1)) 126 p (nI l)) 127 p fm) 128 p ta) 129 p th) 130 p tl) 131 p f) 132 p h) 133 p lo) 134 p po) 135 p ho) 136 p du) 137 p (nI L.length)) L.length
/-- what nobody sends -/
theorem m_go0 (hM : MV t) (hl : l < cL t) (hO : OU t L) (hta : bit ta) : (cF t = 256 → M_go t (nI l) fm ta th tl f h lo po ho 0 = some (seT t l L)) ∧ (cF t < 256 → ∀ p, p < 256 → t.I 125 p = 0 → (∀ i, i < p → t.I 125 i ≠ 0) → M_go t (nI l) fm ta th tl f h lo po ho 0 = some (flT (seT t l L) p l fm ta th tl f h lo po ho (dueT t l (t.I 23 l)) L)) := by
  have h10 := hM.nL
  have hN := hM.n
  have e : M_go t (nI l) fm ta th tl f h lo po ho 0 = M_go_b31 (moSI (moSI t 23 l (t.I 23 l + 1)) 25 l (nI L.length)) (nI l) fm ta th tl f h lo po ho 0 (t.I 23 l) 0 := by
    unfold M_go
    refine (sr_I (n := 10) (hN.n 23 10) (by omega) (by decide)).trans ?_
    refine (sr_I (n := 10) (hN.n 23 10) (by omega) (by decide)).trans ?_
    refine (sw_I (n := 10) (hN.n 23 10) (by omega) (by decide)).trans ?_
    refine (sw_I (n := 10) (by exact hN.n 25 10) (by omega) (by decide)).trans ?_
    rw [show (moSI t 23 l (t.I 23 l + 1)).S 148 = nI L.length from hO.1]
  have m1 : mfr [23, 25] t (moSI (moSI t 23 l (t.I 23 l + 1)) 25 l (nI L.length)) := (mfr.si (by decide)).tr (mfr.si (by decide))
  have g := m_seen (l := l) (fm := fm) (ta := ta) (th := th) (tl := tl) (f := f) (h := h) (lo := lo) (po := po) (ho := ho) (tld := 0) (x1 := t.I 23 l) (hN.fr m1 rfl) (by omega) (hO.mf m1 rfl)
  rw [← e] at g
  have ms : mfr [23, 25, 26] t (seT t l L) := seT_m
  have hN1 := hN.fr ms rfl
  have hF := hM.2.2.2.2.1.1
  have eF : (seT t l L).S 123 = t.S 123 := ms.S 123 (by decide)
  have ecF : cF (seT t l L) = cF t := by unfold cF; rw [eF]
  refine ⟨fun c => ?_, fun c2 p p1 p2 p3 => ?_⟩
  · refine g.trans (if_pos ?_)
    show (seT t l L).S 123 = 256
    rw [eF, hF.n.1]; show nI (cF t) = _; rw [c]; rfl
  · refine g.trans ((if_neg ?_).trans ((if_pos rfl).trans ?_))
    · show ¬ (seT t l L).S 123 = 256
      rw [eF, hF.n.1]
      intro z
      have := congrArg Int32.toNatClampNeg z
      rw [nI_clamp (show cF t < 2 ^ 31 by omega)] at this
      exact absurd (show cF t = 256 from this) (by omega)
    · have gp := m_place (t := seT t l L) (p := p) (l := l) (fm := fm) (ta := ta) (th := th) (tl := tl) (f := f) (h := h) (lo := lo) (po := po) (ho := ho) (L := L) (x1 := t.I 23 l) hN1 p1 (by rw [ms.I 125 (by decide)]; exact p2) (fun i hi => by rw [ms.I 125 (by decide)]; exact p3 i hi) (by rw [eF, ecF]; exact hF.n.1) (by rw [ecF]; exact c2) (by omega) (by rw [ms.I 20 (by decide)]; exact jit_nz hM hl) hta (hO.mf ms rfl)
      have ed : dueT (seT t l L) l (t.I 23 l) = dueT t l (t.I 23 l) := by unfold dueT; rw [ms.S 1 (by decide), ms.I 19 (by decide), ms.I 20 (by decide)]
      rw [ed] at gp
      exact gp
theorem m_goC (hM : MV t) (hMc : MV (clT t)) (hl : l < cL t) (hO : OU t L) (hta : bit ta) : ∃ t', M_go t (nI l) fm ta th tl f h lo po ho 0 = some t' ∧ M_go (clT t) (nI l) fm ta th tl f h lo po ho 0 = some (clT t') := by
  obtain ⟨a1, a2⟩ := m_go0 (fm := fm) (th := th) (tl := tl) (f := f) (h := h) (lo := lo) (po := po) (ho := ho) hM hl hO hta
  obtain ⟨b1, b2⟩ := m_go0 (fm := fm) (th := th) (tl := tl) (f := f) (h := h) (lo := lo) (po := po) (ho := ho) (L := L) (l := l) (ta := ta) hMc hl ⟨hO.1, hO.2.1, hO.2.2⟩ hta
  have hF := hM.2.2.2.2.1.1
  by_cases c : cF t = 256
  · refine ⟨_, a1 c, ?_⟩
    rw [← cl_se]; exact b1 c
  · have c2 : cF t < 256 := by have := hF.n.2.2; change cF t ≤ 256 at this; omega
    obtain ⟨p, p1, p2, p3⟩ := free_p hM.2.2.2.2.1 c2
    refine ⟨_, a2 c2 p p1 p2 p3, ?_⟩
    rw [← cl_fl, ← cl_se]
    exact b2 c2 p p1 p2 p3
end Gz
