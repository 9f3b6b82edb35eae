/-! What was gathered is sent: all of it, if anything can go. -/
section Ta
variable {G H : Nat → Nat → Nat} {sa : Nat → Nat} {x kc ks r p l f : Nat} {s : cS} {t : moS} {L : List En} {ta : Int32} {th tl : Int64} {p2 : Option Nat} {Q : cS → Nat → Nat → Prop}
theorem tt_all (hf : f = 0 ∨ f = 1) (hok : ∀ e, e ∈ L → eOk (nI f) e) (hLen : L.length ≤ 885) (hR : RR G H sa x s t) (hM : MV t) (hr : r < cR t) (hp : p < cI t r) (hlL : l < cL t) (h71 : t.I 71 (4 * r + p) = nI l) (h75 : t.I 75 (2 * (4 * r + p) + f) ≠ 0) (hT : TDc G H x s (nI f) L) (hE : EN t L) (hTG : TGh G H s t p2 ta th tl f) (hs : ∃ d, t.I 23 l = nI d ∧ d + L.length < 2 ^ 31) (hkc : PoC s G H t ≤ kc) (hks : PoS s G H t ≤ ks) (k : ∀ t', M_tellTo t (nI (4 * r + p)) (nI f) ta th tl = some t' → MV t' → mfr Wtt t t' → SB l L.length t t' → SD t t' → SnK sa x G H s t kc ks t' Q) : C_Rr_sendTold sa (G 1 r) (some (G 2 (4 * r + p))) (fam (nI f)) p2 s kc ks Q := by
  have hq := hR.q.1
  have h10 := hM.nL
  have hX := px_of hR hM hr hp
  rw [show (t.I 71 (4 * r + p)).toNatClampNeg = l by rw [h71, nI_clamp (by omega)]] at hX
  have hX0 := hX
  obtain ⟨⟨x1, x2, x3, x4, x5, x6, x7, x8, x9⟩, ⟨y1, y2, y3, y4, y5, y6, y7, y8⟩, ⟨z1, z2, z3, z4, z5, z6⟩, -⟩ := hX
  have hfa : bit (nI f) := by
    rcases hf with rfl | rfl
    · exact Or.inl rfl
    · exact Or.inr rfl
  obtain ⟨⟨n, hn, en⟩, hmo⟩ := m_most (nn := t.I 89 (4 * r + p)) (cmd := 2) hM hr hp hf hlL h71 z4 z6
  unfold C_Rr_sendTold
  -- nothing can go
  have vain : t.I 22 l = 0 ∨ opH (mcV t (4 * r + p)) (nI f) (t.S 1) (t.I 89 (4 * r + p)) 2 = none → C_Rr_sendTold_b3 sa (G 1 r) (some (G 2 (4 * r + p))) (fam (nI f)) p2 0 s kc ks Q := by
    intro hz
    obtain ⟨t', e1, m1⟩ := m_vain (ta := ta) (th := th) (tl := tl) (q := nI (4 * r + p)) (N := n) hE hM (by omega) hfa hok hn (fun t1 n1 m1 hn1 hE1 => by
      obtain ⟨E, hE1, hE2⟩ := hE1
      have hM1 : MV t1 := hM.fr m1 rfl (hM.1.fr m1 rfl)
      have hC1 : MC t1 (4 * r + p) (mcV t (4 * r + p)) := by
        unfold MC at z6 ⊢
        rw [m1.I 79 (by decide), m1.I 80 (by decide), m1.I 81 (by decide), m1.I 82 (by decide), m1.I 83 (by decide), m1.I 84 (by decide), m1.I 85 (by decide), m1.I 86 (by decide), m1.I 87 (by decide), m1.I 88 (by decide)]
        exact z6
      obtain ⟨g1, g2, -⟩ := m_send (cmd := 2) (ta := ta) (th := th) (tl := tl) (m := n1) (E := E) hM1 (by unfold cR; rw [m1.S 37 (by decide)]; exact hr) (by unfold cI; rw [m1.I 70 (by decide)]; exact hp) hf (by unfold cL; rw [m1.S 17 (by decide)]; exact hlL) (by rw [m1.I 71 (by decide)]; exact h71) z4 hC1 hE1 (by omega) hE2 (fun _ => by omega)
      rw [m1.I 22 (by decide)] at g1 g2
      rcases hz with hz | hz
      · exact ⟨t1, g1 hz, mfr.rf⟩
      · by_cases u : t.I 22 l = 0
        · exact ⟨t1, g1 u, mfr.rf⟩
        · exact g2 u (by rw [m1.S 1 (by decide), m1.I 89 (by decide)]; exact op_no hz))
    have eM : M_tellTo t (nI (4 * r + p)) (nI f) ta th tl = some t' := by
      unfold M_tellTo
      rw [en]
      exact e1
    have hM' : MV t' := hM.fr m1 rfl (hM.1.fr m1 rfl)
    have R' : RR G H sa x s t' := rr_fr hR hM hq.1 (fr.rf (Rv := []) (Gp := []) (Rq := [])) m1 rfl rfl rfl rfl rfl rfl rfl
    have ec := pot_t (G := G) (H := H) (s := s) m1 rfl
    have kq : Q s kc ks := k t' eM hM' (m1.wk (by decide)) (SB.fr m1 (by decide)) (SD.fr m1 rfl) G H s kc ks R' (fun _ _ _ => rfl) hA.rf fr.rf (HO.rf (by unfold cF; rw [m1.S 123 (by decide)])) (by rw [ec.1]; exact Nat.le_refl _) (by rw [ec.2]; exact Nat.le_refl _)
    intro P3 hc
    refine hc _ _ _ _ ?_
    have p237 := hq.ty.p hq.1.1 237 29
    unfold C_Rr_sendTold_s3
    refine ⟨_, gd_to x1, x, x2, _, gd_to x3, _, p237.1, _, gd_to (okr p237.2 10), ?_⟩
    by_cases c0 : (0 : Int32) < s.I (20 * 10 + 1) (H 237 x)
    · refine ifT c0 ⟨x1, c_open hR hM hr hp hX0 rfl hf (by decide) (fun _ => ifT rfl kq) fun ky hd s1 u1 _ ho _ _ _ _ _ _ => ?_⟩
      rcases hz with hz | hz
      · exact absurd hz u1
      · rw [hz] at ho
        cases ho
    · exact ifF c0 kq
  by_cases u0 : t.I 22 l = 0
  · exact vain (Or.inl u0)
  cases ho : opH (mcV t (4 * r + p)) (nI f) (t.S 1) (t.I 89 (4 * r + p)) 2 with
  | none => exact vain (Or.inr ho)
  | some kh =>
    obtain ⟨ky, hd⟩ := kh
    have eN := hmo ky hd ho
    refine tt_loop (N := roN (mcV t (4 * r + p)) f ky (t.I 21 l).toNatClampNeg) (ky := ky) hf hok hLen L.length 0 (by omega) G H s t kc ks hR hM hr hp hlL h71 u0 h75 ⟨hd, ho⟩ rfl hT hE hTG hs hkc hks Q fun t' q1 q2 q3 q4 q5 => k t' ?_ q2 q3 q4 q5
    unfold M_tellTo
    rw [eN]
    exact q1
end Ta
