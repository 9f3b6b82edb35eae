/-! A join where the interface is there, both sides. -/
section Jo
variable {G H : Nat → Nat → Nat} {sa : Nat → Nat} {x r p f lk rd : Nat} {s0 : cS} {t : moS} {l : List Int32} {ws : List (Nat × Nat)} {P : List (Nat × Nat)} {hh ll : Int64} {nn : Int32} {Os : Nat → List Pf}
theorem jn_rf (hp : p < cI t r) : jnT r p t t := ⟨mfr.rf, fun _ _ => rfl, hp, Or.inl rfl, fun _ _ => ⟨rfl, rfl⟩, fun _ => rfl, fun _ _ _ => ⟨rfl, rfl, rfl, rfl⟩, fun _ _ _ _ => ⟨rfl, rfl, rfl, rfl⟩⟩
theorem jfz (hP : jP (wC l ws) ws.length ws.length 4 0 = some P) : (∀ e, e ∈ P → 1 ≤ e.1 ∧ e.1 ≤ 6) ∧ kND P := ⟨fun e he => by
  have := (jP_k _ _ _ _ (by decide) hP).2.2 e he
  exact ⟨this.2.2.2.1, this.2.2.2.2.1⟩, jP_nd _ _ _ _ (by decide) hP⟩
/-- what both sides come to -/
def JU (G H : Nat → Nat → Nat) (sa : Nat → Nat) (x rd : Nat) (t : moS) (l : List Int32) (ws : List (Nat × Nat)) (f : Nat) (hh ll : Int64) (nn : Int32) (Os : Nat → List Pf) (W : List Nat) (o : Option (Int32 × moS)) (C : cS → Nat → Nat → (Int32 → cS → Nat → Nat → Prop) → Prop) : Prop := ∃ c t' Os', o = some (c, t') ∧ MV t' ∧ EX Os' t' ∧ (∀ r, (Os' r).length ≤ (Os r).length + 1) ∧ mfr W t t' ∧ (∀ i, t'.I 23 i = t.I 23 i ∨ t'.I 23 i = t.I 23 i + 1) ∧ ∀ s kc ks, LX G H sa x rd s t l ws → PF s (H 146 rd) (fam (nI f)) hh ll nn → PoC s G H t + 64 ≤ kc → PoS s G H t + 1200 ≤ ks → ∀ Q : Int32 → cS → Nat → Nat → Prop, (∀ G' H' s' kc' ks', RR G' H' sa x s' t' → kp x s s' → kc + PoC s' G' H' t' ≤ kc' + PoC s G H t + 64 → ks + PoS s' G' H' t' ≤ ks' + PoS s G H t + 1200 → Q c s' kc' ks') → C s kc ks Q
theorem i23 {g : Nat → Int32} {t' : moS} (h : t'.I 23 = g ∨ t'.I 23 = upd g lk (g lk + 1)) (i : Nat) : t'.I 23 i = g i ∨ t'.I 23 i = g i + 1 := by
  rcases h with e | e
  · exact Or.inl (by rw [e])
  · by_cases c : i = lk
    · subst c
      exact Or.inr (by rw [e, upd_s])
    · exact Or.inl (by rw [e, upd_n c])
theorem exl {O : Pf} (r' : Nat) : (if r' = r then O :: Os r else Os r').length ≤ (Os r').length + 1 := by
  by_cases c : r' = r
  · rw [if_pos c, c, List.length_cons]
    exact Nat.le_refl _
  · rw [if_neg c]; omega
theorem j_old (h : LX G H sa x rd s0 t l ws) (hE : EX Os t) (hO : ∀ r, (Os r).length < 760) (hr : r < cR t) (hp : p < cI t r) (hl : lk < cL t) (h71 : t.I 71 (4 * r + p) = nI lk) (hf : f = 0 ∨ f = 1) (h75 : t.I 75 (2 * (4 * r + p) + f) = 0) (h12 : t.S 12 = nI f) (h13 : t.Z 13 = hh) (h14 : t.Z 14 = ll) (h15 : t.S 15 = nn) (hn : rng nn 0 (if f = 0 then 32 else 128)) (hP : jP (wC l ws) ws.length ws.length 4 0 = some P) (ok : jOk (wC l ws) P) (hs : ¬ t.I 23 lk + 1 < 0) : JU G H sa x rd t l ws f hh ll nn Os Wjm (M_lineJoin_b206 t (nI (jW 1 P)) (nI (jW 2 P)) (nI (jW 3 P)) (nI (jW 4 P)) (nI (jW 5 P)) (nI r) (nI lk) (nI (4 * r + p))) (C_Re_joinLine_b83 sa rd (some (G 1 r)) (some (G 0 lk)) (some (G 2 (4 * r + p)))) := by
  have hM := h.mv
  have h6 := hM.nR
  have h4 := hM.nIf hr
  obtain ⟨jz1, jz2⟩ := jfz hP
  have hX0 := px_of h.1 hM hr hp
  obtain ⟨-, -, ⟨-, -, -, hV, -, hC⟩, -⟩ := hX0
  generalize hV0 : mcV t (4 * r + p) = V0 at hV hC
  obtain ⟨o1, o2, o3⟩ := jf_o (l := l) (ws := ws) P (-1, -1, 0, V0, 0) jz2
  have q1 : ¬ nI (4 * r + p) = -1 := oI_n1 (4 * r + p) (by omega)
  -- the class up to the options
  have cls : ∀ s kc ks, LX G H sa x rd s t l ws → PF s (H 146 rd) (fam (nI f)) hh ll nn → PoC s G H t + 64 ≤ kc → PoS s G H t + 1200 ≤ ks → ∀ Q : Int32 → cS → Nat → Nat → Prop, (∀ s1, LX G H sa x rd s1 t l ws → PF s1 (H 146 rd) (fam (nI f)) hh ll nn → CC H s1 (H 151 rd) (P.foldl (jS l ws) (-1, -1, 0, V0, 0)).2.2.2.1 → (s1.I 148 rd = (P.foldl (jS l ws) (-1, -1, 0, V0, 0)).1 ∧ s1.I 149 rd = (P.foldl (jS l ws) (-1, -1, 0, V0, 0)).2.1 ∧ s1.I 150 rd = (P.foldl (jS l ws) (-1, -1, 0, V0, 0)).2.2.1) → kp x s s1 → PoC s1 G H t ≤ PoC s G H t → PoS s1 G H t ≤ PoS s G H t → if (P.foldl (jS l ws) (-1, -1, 0, V0, 0)).2.2.2.2 = 0 then C_Re_joinLine_b129 sa rd (some (G 1 r)) (some (G 0 lk)) (some (G 2 (4 * r + p))) s1 kc ks Q else Q (P.foldl (jS l ws) (-1, -1, 0, V0, 0)).2.2.2.2 s1 kc ks) → C_Re_joinLine_b83 sa rd (some (G 1 r)) (some (G 0 lk)) (some (G 2 (4 * r + p))) s kc ks Q := by
    intro s kc ks hL hPF hkc hks Q k
    obtain ⟨-, ⟨y1, y2, -⟩, ⟨z1, z2, z3, z4, z5, z6⟩, -⟩ := px_of hL.1 hM hr hp
    have k4 := (hL.q.ty.p y2 86 4).2
    rw [hV0] at z4 z5
    unfold C_Re_joinLine_b83
    refine ⟨hL.or, w_takeJ hL hP ok (Or.inr ⟨_, _, rfl, y1, z1, k4, z4, z5⟩) fun s1 z' ez hJ => ?_⟩
    obtain ⟨L1, c1, -, i1, f1, ek, eP⟩ := hJ
    rw [ez] at c1 i1
    have k19 := hL.px.2.1
    obtain ⟨a1, a2⟩ := pot_fr (G' := G) (H' := H) (t' := t) hL.1 hM f1 rfl gA.rf hA.rf (Nat.le_refl _) (Nat.le_refl _) (fun _ _ => Nat.le_refl _) rfl
    have q2 := k s1 L1 (hPF.fr f1 k19 (by decide)) c1 i1 (f1.kp hL.q.1.1 rfl) a1 a2
    rw [ez]
    by_cases e0 : (P.foldl (jS l ws) (-1, -1, 0, V0, 0)).2.2.2.2 = 0
    · rw [if_pos e0] at q2
      refine ifT e0 (ifF (by simp) ?_)
      unfold C_Re_joinLine_b111
      exact ifT e0 (ifF (by simp) q2)
    · rw [if_neg e0] at q2
      refine ifF e0 ?_
      unfold C_Re_joinLine_b111
      exact ifF e0 q2
  have no : ∀ c : Int32, c ≠ 0 → (P.foldl (jS l ws) (-1, -1, 0, V0, 0)).2.2.2.2 = c → M_lineJoin_b206 t (nI (jW 1 P)) (nI (jW 2 P)) (nI (jW 3 P)) (nI (jW 4 P)) (nI (jW 5 P)) (nI r) (nI lk) (nI (4 * r + p)) = some (c, t) → JU G H sa x rd t l ws f hh ll nn Os Wjm (M_lineJoin_b206 t (nI (jW 1 P)) (nI (jW 2 P)) (nI (jW 3 P)) (nI (jW 4 P)) (nI (jW 5 P)) (nI r) (nI lk) (nI (4 * r + p))) (C_Re_joinLine_b83 sa rd (some (G 1 r)) (some (G 0 lk)) (some (G 2 (4 * r + p)))) := fun c hc ec em => by
    refine ⟨c, t, Os, em, hM, hE, fun _ => Nat.le_succ _, mfr.rf, fun _ => Or.inl rfl, fun s kc ks hL hPF hkc hks Q k => cls s kc ks hL hPF hkc hks Q fun s1 L1 _ _ _ eP a1 a2 => ?_⟩
    rw [ec, if_neg hc]
    exact k G H s1 kc ks L1.1 eP (by omega) (by omega)
  by_cases hg : ∀ e, e ∈ P → gdE l ws e
  rotate_left
  · obtain ⟨e, he⟩ := Classical.not_forall.mp hg
    obtain ⟨he1, he2⟩ := Classical.not_imp.mp he
    refine no 4 (by decide) ((jf_4 P _ jz1).mpr (Or.inr ⟨e, he1, he2⟩)) ?_
    rw [(m_good h hP).2 hg]
    unfold M_lineJoin_b256
    rw [if_pos rfl]
  have em1 : M_lineJoin_b206 t (nI (jW 1 P)) (nI (jW 2 P)) (nI (jW 3 P)) (nI (jW 4 P)) (nI (jW 5 P)) (nI r) (nI lk) (nI (4 * r + p)) = M_lineJoin_b282 t (nI (jW 1 P)) (nI (jW 2 P)) (nI (jW 3 P)) (nI (jW 4 P)) (nI (jW 5 P)) (nI r) (nI lk) (nI (4 * r + p)) := by
    rw [(m_good h hP).1 hg]
    unfold M_lineJoin_b256
    rw [if_neg (show ¬ (1 : Int32) = 0 by decide), if_neg q1]
  obtain ⟨b, hb, eb⟩ := m_room1 h (by omega) hV hC hP hg
  have j6 := (jf_6 (l := l) (ws := ws) P (-1, -1, 0, V0, 0) jz1 hg).2 rfl
  by_cases hrm : rmO l ws P V0
  rotate_left
  · refine no 6 (by decide) (j6.2 hrm) ?_
    rw [em1]
    unfold M_lineJoin_b282
    rw [eb, if_neg (fun z => hrm (hb.mp z))]
    simp only [Option.bind_some]
    rw [if_pos trivial]
  obtain ⟨e0, eV⟩ := j6.1 hrm
  obtain ⟨t', O, e1, e2, e3, e4, e5, e6⟩ := j_mid (sa := sa) (x := x) (rd := rd) (t0 := t) hM hE hr hM h.wx (jn_rf hp) mfr.rf hf (fun _ => h75) (hO r) hl h71 h12 h13 h14 h15 hn hP hg ok hrm hV hC hs
  refine ⟨0, t', _, ?_, e2, e3, exl, e4, i23 e5, fun s kc ks hL hPF hkc hks Q k => cls s kc ks hL hPF hkc hks Q fun s1 L1 hPF1 c1 i1 eP a1 a2 => ?_⟩
  · rw [em1]
    unfold M_lineJoin_b282
    rw [eb, if_pos (hb.mpr hrm)]
    simp only [Option.bind_some]
    rw [if_neg (by decide), if_neg q1]
    exact e1
  · rw [if_pos e0]
    rw [eV] at c1
    rw [o1, o2, o3] at i1
    refine e6 G H s1 kc ks L1.1 L1.2.2.1.2 hPF1 c1 i1 (by omega) (by omega) Q fun G' H' s' kc' ks' b1 b2 b3 b4 => k G' H' s' kc' ks' b1 (eP.tr b2) (by omega) (by omega)
end Jo
