/-! A chain is copied. -/
section Cy
variable {G H : Nat → Nat → Nat} {sa : Nat → Nat} {x kc ks ch cp : Nat} {s s1 : cS} {V : chV} {Q : cS → Nat → Nat → Prop}
/-- the first n keys are there -/
def CP (H : Nat → Nat → Nat) (s : cS) (ch : Nat) (V : chV) (n : Nat) : Prop := s.I 20 ch = (if V.1 = 1 then 1 else 0) ∧ s.I 22 ch = nI V.2.2.length ∧ (∀ (k : Nat) (v : kV), k < n → V.2.2[k]? = some v → s.E (H 23 ch) k = v.1 ∧ s.E (H 24 ch) k = (if v.2.1 = 0 then 16 else 20) ∧ s.E (H 25 ch) k = v.2.2.2.1 ∧ s.E (H 26 ch) k = v.2.2.2.2 ∧ ∀ w, s.Q (H 27 ch) k = some w → ∀ i, i < 16 → s.E w i = v.2.2.1.getD i 0) ∧ (V.1 = 1 → ∀ i, i < 16 → s.E (H 21 ch) i = V.2.1.getD i 0)
theorem w_cpL (hg : RGl G H sa x s) (hc : okO s 1 ch) (hp : okO s 1 cp) (hne : cp ≠ ch) (hV : VV V) (hC : CC H s cp V) {P33 : Int32 → cS → Nat → Nat → Prop} (hP : ∀ (a2 : Int32) (s : cS) (kc ks : Nat), C_Ch_copy_s33 sa ch (some cp) a2 s kc ks Q P33 → P33 a2 s kc ks) (k : ∀ s', fch H ch s s' → CC H s' ch V → (∀ i, i < 16 → s'.E (H 21 ch) i = s.E (H 21 cp) i) → Q s' kc ks) : ∀ m n s2, n + m = V.2.2.length → fch H ch s s2 → CP H s2 ch V n → (∀ i, i < 16 → s2.E (H 21 ch) i = s.E (H 21 cp) i) → P33 (nI n) s2 kc ks := by
  obtain ⟨⟨p1, q1⟩, ⟨p3, q3⟩, ⟨p4, q4⟩, ⟨p5, q5⟩, ⟨p6, q6⟩, ⟨p7, q7⟩, w7⟩ := chK hg hc
  obtain ⟨⟨P1, Q1⟩, ⟨P3, Q3⟩, ⟨P4, Q4⟩, ⟨P5, Q5⟩, ⟨P6, Q6⟩, ⟨P7, Q7⟩, W7⟩ := chK hg hp
  have h4 := hV.2.1
  intro m
  induction m with
  | zero =>
    intro n s2 hn f c e21
    have hn : n = V.2.2.length := by omega
    subst hn
    apply hP
    unfold C_Ch_copy_s33
    refine ⟨_, gd_to (f.o hc), ?_⟩
    rw [show s2.I (20 * 1 + 2) ch = nI V.2.2.length from c.2.1]
    refine ifF (nI_nlt (Nat.le_refl _) (by omega)) (k s2 f ⟨c.1, c.2.1, fun k v hk => c.2.2.1 k v (List.getElem?_eq_some_iff.mp hk).1 hk, c.2.2.2⟩ e21)
  | succ m ih =>
    intro n s2 hn f c e21
    have hnL : n < V.2.2.length := by omega
    have hn4 : n < 4 := by omega
    obtain ⟨v, hv⟩ := gk_some hnL
    have C2 : CC H s2 cp V := hC.fch f hg hc hp hne h4
    obtain ⟨d1, d2, d3, d4, d5⟩ := C2.2.2.1 n v hv
    obtain ⟨w, x1, x2⟩ := w7 n hn4
    obtain ⟨w', y1, y2⟩ := W7 n hn4
    have hs := (hV.2.2.2.2.1 n v hv).2.2.1
    have cl : (nI n).toNatClampNeg = n := nI_clamp (by omega)
    have okI : ∀ {st : cS} {a u : Nat}, st.K = s.K → s.K a = (u, 4) → 100 ≤ u ∧ u < 130 ∧ cAT u = .int → okA st .int a (nI n) := fun {st a u} hK ha hu => ⟨by rw [hK, ha]; exact hu.1, by rw [hK, ha]; exact hu.2.1, by rw [hK, ha]; exact hu.2.2, by rw [hK, ha]; exact show vp_in (nI n) 4 from vp_in_nI hn4 (by decide)⟩
    have okR : ∀ {st : cS} {a : Nat}, st.K = s.K → s.K a = (142, 4) → okQ st a (nI n) := fun {st a} hK ha => ⟨by rw [hK, ha]; decide, by rw [hK, ha]; decide, by rw [hK, ha]; exact show vp_in (nI n) 4 from vp_in_nI hn4 (by decide)⟩
    have ne : ∀ {a b u v n' m' : Nat}, s.K a = (u, n') → s.K b = (v, m') → u ≠ v → a ≠ b := fun h1 h2 h3 z => h3 (by rw [z, h2] at h1; exact (congrArg Prod.fst h1).symm)
    have oc := f.o hc
    have op := f.o hp
    have K2 : s2.K = s.K := f.1
    have P2 : s2.P = s.P := f.2.1
    have Qe : s2.Q = s.Q := f.2.2.2.1
    apply hP
    unfold C_Ch_copy_s33
    refine ⟨_, gd_to oc, ?_⟩
    rw [show s2.I (20 * 1 + 2) ch = nI V.2.2.length from c.2.1]
    refine ifT (nI_lt hnL (by omega)) ⟨_, gd_to oc, cp, rfl, _, gd_to op, H 23 cp, by show s2.P 23 cp = _; rw [P2]; exact P3, _, gd_to (okI K2 Q3 (by decide)), H 23 ch, by show s2.P 23 ch = _; rw [P2]; exact p3, _, gd_to (okI K2 q3 (by decide)), ?_⟩
    rw [cl, d1]
    refine ⟨_, gd_to oc, _, gd_to op, H 24 cp, by show s2.P 24 cp = _; rw [P2]; exact P4, _, gd_to (okI (by exact K2) Q4 (by decide)), H 24 ch, by show s2.P 24 ch = _; rw [P2]; exact p4, _, gd_to (okI (by exact K2) q4 (by decide)), ?_⟩
    rw [cl, cSE_a (ne Q4 q3 (by decide)), d2]
    refine ⟨_, gd_to oc, _, gd_to op, H 25 cp, by show s2.P 25 cp = _; rw [P2]; exact P5, _, gd_to (okI (by exact K2) Q5 (by decide)), H 25 ch, by show s2.P 25 ch = _; rw [P2]; exact p5, _, gd_to (okI (by exact K2) q5 (by decide)), ?_⟩
    rw [cl, cSE_a (ne Q5 q4 (by decide)), cSE_a (ne Q5 q3 (by decide)), d3]
    refine ⟨_, gd_to oc, _, gd_to op, H 26 cp, by show s2.P 26 cp = _; rw [P2]; exact P6, _, gd_to (okI (by exact K2) Q6 (by decide)), H 26 ch, by show s2.P 26 ch = _; rw [P2]; exact p6, _, gd_to (okI (by exact K2) q6 (by decide)), ?_⟩
    rw [cl, cSE_a (ne Q6 q5 (by decide)), cSE_a (ne Q6 q4 (by decide)), cSE_a (ne Q6 q3 (by decide)), d4]
    refine ⟨_, gd_to op, H 27 cp, by show s2.P 27 cp = _; rw [P2]; exact P7, _, gd_to (okR (by exact K2) Q7), _, gd_to oc, H 27 ch, by show s2.P 27 ch = _; rw [P2]; exact p7, _, gd_to (okR (by exact K2) q7), w', ?_, w, ?_, ?_⟩
    · rw [cl]; show s2.Q (H 27 cp) n = _; rw [Qe]; exact y1
    · rw [cl]; show s2.Q (H 27 ch) n = _; rw [Qe]; exact x1
    generalize hs3 : cSE (cSE (cSE (cSE s2 (H 23 ch) n v.1) (H 24 ch) n (if v.2.1 = 0 then 16 else 20)) (H 25 ch) n v.2.2.2.1) (H 26 ch) n v.2.2.2.2 = s3
    have f3 : fch H ch s2 s3 := by
      rw [← hs3]
      exact (fch.se (Or.inr (Or.inl rfl))).tr ((fch.se (Or.inr (Or.inr (Or.inl rfl)))).tr ((fch.se (Or.inr (Or.inr (Or.inr (Or.inl rfl))))).tr (fch.se (Or.inr (Or.inr (Or.inr (Or.inr (Or.inl rfl))))))))
    have K3 : s3.K = s.K := f3.1.trans K2
    have ew' : s3.E w' = s2.E w' := by rw [← hs3, cSE_a (ne y2 q6 (by decide)), cSE_a (ne y2 q5 (by decide)), cSE_a (ne y2 q4 (by decide)), cSE_a (ne y2 q3 (by decide))]
    have d5' := d5 w' (by rw [Qe]; exact y1)
    refine cp16 (u := 126) (v := 126) (by rw [K3]; exact y2) (by rw [K3]; exact x2) (by decide) (by decide) (fun i hi => by rw [ew', d5' i hi]; exact hs.fit i hi) fun s4 f4 e4 => ?_
    have cw : chA H s3 ch w := Or.inr (Or.inr (Or.inr (Or.inr (Or.inr ⟨n, hn4, by rw [f3.2.2.2.1, Qe]; exact x1⟩))))
    have f5 : fch H ch s2 s4 := f3.tr (fe_ch f4 cw)
    rw [nI_1]
    have o4 : ∀ {a u : Nat}, s.K a = (u, 4) → u ≠ 126 → s4.E a = s3.E a := fun {a u} ha hu => f4.2.2.2.2.2 a (ne ha x2 hu)
    refine ih (n + 1) s4 (by omega) (f.tr f5) ⟨?_, ?_, fun j v' hj hv' => ?_, fun h1 i hi => ?_⟩ fun i hi => ?_
    · rw [f4.2.2.2.2.1, ← hs3]; exact c.1
    · rw [f4.2.2.2.2.1, ← hs3]; exact c.2.1
    · rw [o4 q3 (by decide), o4 q4 (by decide), o4 q5 (by decide), o4 q6 (by decide)]
      have e3 : s3.E (H 23 ch) j = if j = n then v.1 else s2.E (H 23 ch) j := by
        rw [← hs3, cSE_a (ne q3 q6 (by decide)), cSE_a (ne q3 q5 (by decide)), cSE_a (ne q3 q4 (by decide))]
        by_cases cj : j = n
        · rw [if_pos cj, cj, cSE_v]
        · rw [if_neg cj, cSE_i cj]
      have e4' : s3.E (H 24 ch) j = if j = n then (if v.2.1 = 0 then 16 else 20) else s2.E (H 24 ch) j := by
        rw [← hs3, cSE_a (ne q4 q6 (by decide)), cSE_a (ne q4 q5 (by decide))]
        by_cases cj : j = n
        · rw [if_pos cj, cj, cSE_v]
        · rw [if_neg cj, cSE_i cj, cSE_a (ne q4 q3 (by decide))]
      have e5 : s3.E (H 25 ch) j = if j = n then v.2.2.2.1 else s2.E (H 25 ch) j := by
        rw [← hs3, cSE_a (ne q5 q6 (by decide))]
        by_cases cj : j = n
        · rw [if_pos cj, cj, cSE_v]
        · rw [if_neg cj, cSE_i cj, cSE_a (ne q5 q4 (by decide)), cSE_a (ne q5 q3 (by decide))]
      have e6 : s3.E (H 26 ch) j = if j = n then v.2.2.2.2 else s2.E (H 26 ch) j := by
        rw [← hs3]
        by_cases cj : j = n
        · rw [if_pos cj, cj, cSE_v]
        · rw [if_neg cj, cSE_i cj, cSE_a (ne q6 q5 (by decide)), cSE_a (ne q6 q4 (by decide)), cSE_a (ne q6 q3 (by decide))]
      rw [e3, e4', e5, e6]
      by_cases cj : j = n
      · subst cj
        rw [hv] at hv'
        cases hv'
        rw [if_pos rfl, if_pos rfl, if_pos rfl, if_pos rfl]
        refine ⟨rfl, rfl, rfl, rfl, fun w2 hw2 i hi => ?_⟩
        rw [f5.2.2.2.1, Qe, x1] at hw2
        cases hw2
        rw [e4 i hi, ew', d5' i hi]
      · rw [if_neg cj, if_neg cj, if_neg cj, if_neg cj]
        obtain ⟨g1, g2, g3, g4, g5⟩ := c.2.2.1 j v' (by omega) hv'
        refine ⟨g1, g2, g3, g4, fun w2 hw2 i hi => ?_⟩
        rw [f5.2.2.2.1] at hw2
        have hj4 : j < 4 := by omega
        have hw2s : s.Q (H 27 ch) j = some w2 := by rw [← Qe]; exact hw2
        obtain ⟨w3, r1, r2⟩ := w7 j hj4
        rw [hw2s] at r1
        cases r1
        have nw : w2 ≠ w := fun z => cj (hg.2.2.2.2.2.2.2.2.2.2.2.2.2.1 ch ch j n w hc hc hj4 hn4 (by rw [← z]; exact hw2s) x1).2
        rw [f4.2.2.2.2.2 w2 nw, ← hs3, cSE_a (ne r2 q6 (by decide)), cSE_a (ne r2 q5 (by decide)), cSE_a (ne r2 q4 (by decide)), cSE_a (ne r2 q3 (by decide))]
        exact g5 w2 hw2 i hi
    · rw [f4.2.2.2.2.2 _ (ne q1 x2 (by decide)), ← hs3, cSE_a (ne q1 q6 (by decide)), cSE_a (ne q1 q5 (by decide)), cSE_a (ne q1 q4 (by decide)), cSE_a (ne q1 q3 (by decide))]
      exact c.2.2.2 h1 i hi
    · rw [f4.2.2.2.2.2 _ (ne q1 x2 (by decide)), ← hs3, cSE_a (ne q1 q6 (by decide)), cSE_a (ne q1 q5 (by decide)), cSE_a (ne q1 q4 (by decide)), cSE_a (ne q1 q3 (by decide))]
      exact e21 i hi
end Cy
