/-! A datagram goes in the model: what it comes to, and what holds behind it. -/
/-- the fields of a datagram's place -/
abbrev Wfl : List Nat := [123, 124, 125, 126, 127, 128, 129, 130, 131, 132, 133, 134, 135, 136, 137, 138]
section Mg
variable {t : moS} {L : List Int32} {l p : Nat} {fm ta f po ho du tld : Int32} {th tl h lo : Int64}
theorem flT_m : mfr Wfl t (flT t p l fm ta th tl f h lo po ho du L) := by
  refine mfr.tr ?_ ((lyT_m _).wk (by decide))
  exact ((((((((((((((mfr.si (by decide)).tr (mfr.si (by decide))).tr (mfr.ss (by decide))).tr (mfr.si (by decide))).tr (mfr.si (by decide))).tr (mfr.si (by decide))).tr (mfr.sj (by decide))).tr (mfr.sj (by decide))).tr (mfr.si (by decide))).tr (mfr.sj (by decide))).tr (mfr.sj (by decide))).tr (mfr.si (by decide))).tr (mfr.si (by decide))).tr (mfr.si (by decide))).tr (mfr.si (by decide))
theorem flT_S : (flT t p l fm ta th tl f h lo po ho du L).S 123 = t.S 123 + 1 := ((lyT_m _).S 123 (by decide)).trans rfl
theorem flT_I : (flT t p l fm ta th tl f h lo po ho du L).I 124 = upd (t.I 124) (cF t) (nI p) ∧ (flT t p l fm ta th tl f h lo po ho du L).I 125 = upd (t.I 125) p 1 ∧ (flT t p l fm ta th tl f h lo po ho du L).I 126 = upd (t.I 126) p (nI l) ∧ (flT t p l fm ta th tl f h lo po ho du L).I 127 = upd (t.I 127) p fm ∧ (flT t p l fm ta th tl f h lo po ho du L).I 128 = upd (t.I 128) p ta ∧ (flT t p l fm ta th tl f h lo po ho du L).I 131 = upd (t.I 131) p f ∧ (flT t p l fm ta th tl f h lo po ho du L).I 134 = upd (t.I 134) p po ∧ (flT t p l fm ta th tl f h lo po ho du L).I 135 = upd (t.I 135) p ho ∧ (flT t p l fm ta th tl f h lo po ho du L).I 136 = upd (t.I 136) p du ∧ (flT t p l fm ta th tl f h lo po ho du L).I 137 = upd (t.I 137) p (nI L.length) :=
  ⟨((lyT_m _).I 124 (by decide)).trans rfl, ((lyT_m _).I 125 (by decide)).trans rfl, ((lyT_m _).I 126 (by decide)).trans rfl, ((lyT_m _).I 127 (by decide)).trans rfl, ((lyT_m _).I 128 (by decide)).trans rfl, ((lyT_m _).I 131 (by decide)).trans rfl, ((lyT_m _).I 134 (by decide)).trans rfl, ((lyT_m _).I 135 (by decide)).trans rfl, ((lyT_m _).I 136 (by decide)).trans rfl, ((lyT_m _).I 137 (by decide)).trans rfl⟩
theorem flT_J (j : Nat) : (flT t p l fm ta th tl f h lo po ho du L).J 129 j = (if j = p then th else t.J 129 j) ∧ (flT t p l fm ta th tl f h lo po ho du L).J 130 j = (if j = p then tl else t.J 130 j) ∧ (flT t p l fm ta th tl f h lo po ho du L).J 132 j = (if j = p then h else t.J 132 j) ∧ (flT t p l fm ta th tl f h lo po ho du L).J 133 j = (if j = p then lo else t.J 133 j) :=
  ⟨(congrFun ((lyT_m (n := 138) (B := 700 * p) (u := fun i => L.getD i 0) L.length).J 129 (by decide)) j).trans rfl, (congrFun ((lyT_m (n := 138) (B := 700 * p) (u := fun i => L.getD i 0) L.length).J 130 (by decide)) j).trans rfl, (congrFun ((lyT_m (n := 138) (B := 700 * p) (u := fun i => L.getD i 0) L.length).J 132 (by decide)) j).trans rfl, (congrFun ((lyT_m (n := 138) (B := 700 * p) (u := fun i => L.getD i 0) L.length).J 133 (by decide)) j).trans rfl⟩
theorem flT_138 (i : Nat) : (flT t p l fm ta th tl f h lo po ho du L).I 138 i = if 700 * p ≤ i ∧ i < 700 * p + L.length then L.getD (i - 700 * p) 0 else t.I 138 i := (lyT_e _ _).trans rfl
theorem upd_s {g : Nat → Int32} {i : Nat} {v : Int32} : upd g i v i = v := if_pos rfl
theorem upd_n {g : Nat → Int32} {i j : Nat} {v : Int32} (h : j ≠ i) : upd g i v j = g j := if_neg h
theorem cF_up (hF : rng (t.S 123) 0 256) (h2 : cF t < 256) : t.S 123 + 1 = nI (cF t + 1) ∧ (t.S 123 + 1).toNatClampNeg = cF t + 1 := by
  have e := hF.n.1
  have : t.S 123 + 1 = nI (cF t + 1) := by rw [← nI_1]; exact congrArg (· + 1) e
  exact ⟨this, by rw [this, nI_clamp (by omega)]⟩
/-- a free place, where not all fly -/
theorem free_p (hf : mVf t) (h2 : cF t < 256) : ∃ p, p < 256 ∧ t.I 125 p = 0 ∧ ∀ i, i < p → t.I 125 i ≠ 0 := by
  obtain ⟨f1, f2, f3, f4, f5, -⟩ := hf
  have ex : ∃ p, p < 256 ∧ t.I 125 p = 0 := by
    apply Classical.byContradiction
    intro hn
    have al : ∀ p, p < 256 → ∃ i, i < cF t ∧ t.I 124 i = nI p := fun p hp => by
      rcases f2 p hp with z | z
      · exact absurd ⟨p, hp, z⟩ hn
      · exact f5 p hp z
    have pk : ∀ p, ∃ i, p < 256 → i < cF t ∧ t.I 124 i = nI p := fun p => by
      by_cases c : p < 256
      · obtain ⟨i, hi⟩ := al p c
        exact ⟨i, fun _ => hi⟩
      · exact ⟨0, fun z => absurd z c⟩
    obtain ⟨g, hg⟩ := Classical.axiomOfChoice pk
    obtain ⟨i, hi, e⟩ := pig_s (n := 256) (f := g) (fun i hi => by have := (hg i hi).1; omega) (fun i j hi hj e => by
      have a := (hg i hi).2
      have b := (hg j hj).2
      rw [e, b] at a
      have := congrArg Int32.toNatClampNeg a
      rw [nI_clamp (by omega), nI_clamp (by omega)] at this
      exact this.symm) (y := 255) (by decide)
    have := (hg i hi).1
    omega
  have key : ∀ n, ∀ p, p ≤ n → p < 256 → t.I 125 p = 0 → ∃ p, p < 256 ∧ t.I 125 p = 0 ∧ ∀ i, i < p → t.I 125 i ≠ 0 := by
    intro n
    induction n with
    | zero => exact fun p hp h1 h2 => ⟨p, h1, h2, fun i hi => by omega⟩
    | succ n ih =>
      intro p hp h1 h2
      by_cases c : ∃ i, i < p ∧ t.I 125 i = 0
      · obtain ⟨i, hi, e⟩ := c
        exact ih i (by omega) (by omega) e
      · exact ⟨p, h1, h2, fun i hi e => c ⟨i, hi, e⟩⟩
  obtain ⟨p, h1, h2⟩ := ex
  exact key p p (Nat.le_refl _) h1 h2
theorem jit_nz (hM : MV t) (hl : l < cL t) : Int32.toInt64 (t.I 20 l + 1) ≠ 0 := by
  obtain ⟨n, e, -, h4⟩ := (hM.2.1 l hl).2.1
  rw [e]
  have : n = 0 ∨ n = 1 ∨ n = 2 ∨ n = 3 ∨ n = 4 := by omega
  rcases this with rfl | rfl | rfl | rfl | rfl <;> decide
theorem m_go (hM : MV t) (hl : l < cL t) (hO : OU t L) (hta : bit ta) : (cF t = 256 ∧ M_go t (nI l) fm ta th tl f h lo po ho tld = some (seT t l L)) ∨ (cF t < 256 ∧ tld ≠ 0 ∧ 0 < t.I 24 l ∧ M_go t (nI l) fm ta th tl f h lo po ho tld = some (moSI (seT t l L) 24 l (t.I 24 l - 1))) ∨ (cF t < 256 ∧ (tld = 0 ∨ ¬ 0 < t.I 24 l) ∧ ∃ p, p < 256 ∧ t.I 125 p = 0 ∧ M_go t (nI l) fm ta th tl f h lo po ho tld = some (flT (seT t l L) p l fm ta th tl f h lo po ho (dueT t l (t.I 23 l)) L)) := by
  have h10 := hM.nL
  have hN := hM.n
  have e : M_go t (nI l) fm ta th tl f h lo po ho tld = M_go_b31 (moSI (moSI t 23 l (t.I 23 l + 1)) 25 l (nI L.length)) (nI l) fm ta th tl f h lo po ho tld (t.I 23 l) 0 := by
    unfold M_go
    refine (sr_I (n := 10) (hN.n 23 10) (by omega) (by decide)).trans ?_
    refine (sr_I (n := 10) (hN.n 23 10) (by omega) (by decide)).trans ?_
    refine (sw_I (n := 10) (hN.n 23 10) (by omega) (by decide)).trans ?_
    refine (sw_I (n := 10) (by exact hN.n 25 10) (by omega) (by decide)).trans ?_
    rw [show (moSI t 23 l (t.I 23 l + 1)).S 148 = nI L.length from hO.1]
  have m1 : mfr [23, 25] t (moSI (moSI t 23 l (t.I 23 l + 1)) 25 l (nI L.length)) := (mfr.si (by decide)).tr (mfr.si (by decide))
  have g := m_seen (l := l) (fm := fm) (ta := ta) (th := th) (tl := tl) (f := f) (h := h) (lo := lo) (po := po) (ho := ho) (tld := tld) (x1 := t.I 23 l) (hN.fr m1 rfl) (by omega) (hO.mf m1 rfl)
  rw [← e] at g
  change _ = (if (seT t l L).S 123 = 256 then some (seT t l L) else if tld = 0 then M_go_b102 (seT t l L) (nI l) fm ta th tl f h lo po ho (t.I 23 l) else Option.bind (rdI (seT t l L) 24 (nI l)) (fun x1' => if 0 < x1' then Option.bind (rdI (seT t l L) 24 (nI l)) (fun x2 => Option.bind (wrI (seT t l L) 24 (nI l) (x2 - 1)) (fun s3 => some s3)) else M_go_b102 (seT t l L) (nI l) fm ta th tl f h lo po ho (t.I 23 l))) at g
  have ms : mfr [23, 25, 26] t (seT t l L) := seT_m
  have hN1 := hN.fr ms rfl
  have e24 : (seT t l L).I 24 l = t.I 24 l := by rw [ms.I 24 (by decide)]
  have hF := hM.2.2.2.2.1.1
  have eF : (seT t l L).S 123 = t.S 123 := ms.S 123 (by decide)
  have ecF : cF (seT t l L) = cF t := by unfold cF; rw [eF]
  by_cases c : cF t = 256
  · rw [if_pos (by rw [eF, hF.n.1]; show nI (cF t) = _; rw [c]; rfl)] at g
    exact Or.inl ⟨c, g⟩
  have c2 : cF t < 256 := by have := hF.n.2.2; change cF t ≤ 256 at this; omega
  rw [if_neg (by
    rw [eF, hF.n.1]
    intro z
    have := congrArg Int32.toNatClampNeg z
    rw [nI_clamp (show cF t < 2 ^ 31 by omega)] at this
    exact c this)] at g
  obtain ⟨p, p1, p2, p3⟩ := free_p hM.2.2.2.2.1 c2
  have gp := m_place (t := seT t l L) (p := p) (l := l) (fm := fm) (ta := ta) (th := th) (tl := tl) (f := f) (h := h) (lo := lo) (po := po) (ho := ho) (L := L) (x1 := t.I 23 l) hN1 p1 (by rw [ms.I 125 (by decide)]; exact p2) (fun i hi => by rw [ms.I 125 (by decide)]; exact p3 i hi) (by rw [eF, ecF]; exact hF.n.1) (by rw [ecF]; exact c2) (by omega) (by rw [ms.I 20 (by decide)]; exact jit_nz hM hl) hta (hO.mf ms rfl)
  have ed : dueT (seT t l L) l (t.I 23 l) = dueT t l (t.I 23 l) := by unfold dueT; rw [ms.S 1 (by decide), ms.I 19 (by decide), ms.I 20 (by decide)]
  rw [ed] at gp
  by_cases c3 : tld = 0
  · rw [if_pos c3, gp] at g
    exact Or.inr (Or.inr ⟨c2, Or.inl c3, p, p1, p2, g⟩)
  rw [if_neg c3, rdI_n (n := 10) (hN1.n 24 10) (by omega) (by decide), e24] at g
  simp only [Option.bind_some] at g
  by_cases c4 : 0 < t.I 24 l
  · rw [if_pos c4, wrI_n (n := 10) (hN1.n 24 10) (by omega) (by decide)] at g
    exact Or.inr (Or.inl ⟨c2, c3, c4, g⟩)
  · rw [if_neg c4, gp] at g
    exact Or.inr (Or.inr ⟨c2, Or.inr c4, p, p1, p2, g⟩)
theorem mv_se (hM : MV t) (hl : l < cL t) (hL : L.length ≤ 600) (hs : ¬ t.I 23 l + 1 < 0) : MV (seT t l L) := by
  have h10 := hM.nL
  have m := seT_m (t := t) (l := l) (L := L)
  refine hM.lk (m.wk (by decide)) (fun i hi => ?_) (fun i hi h => ?_)
  · obtain ⟨q1, q2, q3, q4, q5, q6, q7, q8⟩ := hM.2.1 i hi
    unfold mVl
    rw [m.I 19 (by decide), m.I 20 (by decide), m.I 21 (by decide), m.I 22 (by decide), m.I 24 (by decide), m.J 18 (by decide), seT_23, seT_25]
    by_cases e : i = l
    · subst e
      rw [upd_s, upd_s]
      exact ⟨q1, q2, q3, q4, hs, q6, ⟨_, rfl, by omega, hL⟩, q8⟩
    · rw [upd_n e, upd_n e]
      exact ⟨q1, q2, q3, q4, q5, q6, q7, q8⟩
  · obtain ⟨q1, q2, q3⟩ := hM.2.2.2.2.2.1 i hi h
    rw [m.I 24 (by decide), seT_23, seT_25, upd_n (by omega), upd_n (by omega)]
    exact ⟨q1, q2, q3⟩
theorem mv_lo (hM : MV t) (hl : l < cL t) (h0 : 0 < t.I 24 l) : MV (moSI t 24 l (t.I 24 l - 1)) := by
  have m : mfr [24] t (moSI t 24 l (t.I 24 l - 1)) := mfr.si (by decide)
  refine hM.lk (m.wk (by decide)) (fun i hi => ?_) (fun i hi h => ?_)
  · obtain ⟨q1, q2, q3, q4, q5, q6, q7, q8⟩ := hM.2.1 i hi
    unfold mVl
    rw [m.I 19 (by decide), m.I 20 (by decide), m.I 21 (by decide), m.I 22 (by decide), m.I 23 (by decide), m.I 25 (by decide), m.J 18 (by decide), moSI_s]
    refine ⟨q1, q2, q3, q4, q5, ?_, q7, q8⟩
    by_cases e : i = l
    · subst e
      rw [upd_s]
      obtain ⟨n, hn, e⟩ := nI_of q6
      rw [e] at h0 ⊢
      have : n ≠ 0 := fun z => by subst z; exact absurd h0 (by decide)
      rw [show nI n - 1 = nI (n - 1) by rw [show nI n = nI (n - 1) + 1 by rw [nI_1]; congr 1; omega, Int32.add_sub_cancel]]
      exact nI_pos (by omega)
    · rw [upd_n e]; exact q6
  · obtain ⟨q1, q2, q3⟩ := hM.2.2.2.2.2.1 i hi h
    rw [m.I 23 (by decide), m.I 25 (by decide), moSI_s, upd_n (by omega)]
    exact ⟨q1, q2, q3⟩
theorem mv_fl (hM : MV t) (hl : l < cL t) (h2 : cF t < 256) (hp : p < 256) (h0 : t.I 125 p = 0) (hta : bit ta) (hf : bit f) (hL : L.length ≤ 600) (hfm : fm = -1 ∨ ∃ r p, r < cR t ∧ p < cI t r ∧ fm = nI (4 * r + p) ∧ t.I 71 (4 * r + p) = nI l) : MV (flT t p l fm ta th tl f h lo po ho du L) := by
  have m := flT_m (t := t) (p := p) (l := l) (fm := fm) (ta := ta) (th := th) (tl := tl) (f := f) (h := h) (lo := lo) (po := po) (ho := ho) (du := du) (L := L)
  obtain ⟨h0', h1, h2', h3, ⟨f1, f2, f3, f4, f5, f6⟩, h5⟩ := hM
  have e1 : cL (flT t p l fm ta th tl f h lo po ho du L) = cL t := by unfold cL; rw [m.S 17 (by decide)]
  have e2 : cS' (flT t p l fm ta th tl f h lo po ho du L) = cS' t := by unfold cS'; rw [m.S 27 (by decide)]
  have e3 : cR (flT t p l fm ta th tl f h lo po ho du L) = cR t := by unfold cR; rw [m.S 37 (by decide)]
  obtain ⟨u1, u2⟩ := cF_up f1 h2
  have eF : cF (flT t p l fm ta th tl f h lo po ho du L) = cF t + 1 := by unfold cF; rw [flT_S]; exact u2
  refine ⟨h0'.fr m rfl, by rw [e1]; exact fun i hi => (h1 i hi).fr m rfl, by rw [e2]; exact fun i hi => (h2' i hi).fr m rfl, by rw [e3]; exact fun i hi => (h3 i hi).fr m rfl, ?_, h5.fr m rfl⟩
  have nt : ∀ i, i < cF t → (t.I 124 i).toNatClampNeg ≠ p := fun i hi e => by
    have := (f3 i hi).2
    rw [e, h0] at this
    exact absurd this (by decide)
  obtain ⟨i1, i2, i3, i4, i5, i6, i7, i8, i9, i10⟩ := flT_I (t := t) (p := p) (l := l) (fm := fm) (ta := ta) (th := th) (tl := tl) (f := f) (h := h) (lo := lo) (po := po) (ho := ho) (du := du) (L := L)
  have ei : ∀ r, cI (flT t p l fm ta th tl f h lo po ho du L) r = cI t r := fun r => by unfold cI; rw [m.I 70 (by decide)]
  unfold mVf
  simp only [ei, e1, e3, eF, i1, i2, i3, i4, i5, i6, i10, m.I 71 (by decide), flT_S]
  have pc : (nI p).toNatClampNeg = p := nI_clamp (by omega)
  refine ⟨⟨cF t + 1, u1, by omega, by omega⟩, fun q hq => ?_, fun i hi => ?_, fun i j hi hj e => ?_, fun q hq e => ?_, fun i hi => ?_⟩
  · by_cases e : q = p
    · rw [e, upd_s]; exact Or.inr rfl
    · rw [upd_n e]; exact f2 q hq
  · by_cases e : i = cF t
    · rw [e, upd_s, pc, upd_s]
      exact ⟨⟨p, rfl, by omega, by omega⟩, rfl⟩
    · rw [upd_n e, upd_n (nt i (by omega))]
      exact f3 i (by omega)
  · by_cases ci : i = cF t <;> by_cases cj : j = cF t
    · omega
    · rw [ci, upd_s, upd_n cj] at e
      exact absurd (by rw [← e, pc]) (nt j (by omega))
    · rw [cj, upd_s, upd_n ci] at e
      exact absurd (by rw [e, pc]) (nt i (by omega))
    · rw [upd_n ci, upd_n cj] at e
      exact f4 i j (by omega) (by omega) e
  · by_cases c : q = p
    · subst c
      exact ⟨cF t, by omega, upd_s⟩
    · rw [upd_n c] at e
      obtain ⟨i, hi, e2⟩ := f5 q hq e
      exact ⟨i, by omega, by rw [upd_n (by omega)]; exact e2⟩
  · by_cases e : i = cF t
    · rw [e, upd_s, pc, upd_s, upd_s, upd_s, upd_s, upd_s]
      exact ⟨⟨l, rfl, hl⟩, hta, hf, ⟨_, rfl, by omega, hL⟩, hfm⟩
    · have n := nt i (by omega)
      rw [upd_n e, upd_n n, upd_n n, upd_n n, upd_n n, upd_n n]
      exact f6 i (by omega)
end Mg
