/-! A router tells its table on all interfaces: both sides. -/
/-- the interfaces from p on are at link j -/
def atL (t : moS) (r p j : Nat) : Prop := ∃ p', p ≤ p' ∧ p' < cI t r ∧ t.I 71 (4 * r + p') = nI j
def SBp (r p : Nat) (t t' : moS) : Prop := (∀ j, j < 10 → ¬ atL t r p j → t'.I 23 j = t.I 23 j) ∧ ∀ j, j < 10 → ∃ d, d ≤ 8850 ∧ t'.I 23 j = t.I 23 j + nI d
section Ta
variable {G H : Nat → Nat → Nat} {sa : Nat → Nat} {x kc ks r : Nat} {s : cS} {t : moS} {how : Int32} {Q : cS → Nat → Nat → Prop}
theorem tl_all (hh : how = 0 ∨ how = 1 ∨ how = 2) : ∀ (m p : Nat) (G H : Nat → Nat → Nat) (s : cS) (t : moS) (kc ks : Nat), p + m = cI t r → RR G H sa x s t → MV t → r < cR t → (∀ j, j < 10 → atL t r p j → ∃ d, t.I 23 j = nI d ∧ d + 8850 < 2 ^ 31) → PoC s G H t + tdC G ≤ kc → PoS s G H t + tdS s G H x ≤ ks → (∀ t', M_tellAll_b4 t (nI r) how (nI (4 * r + p)) = some t' → MV t' → mfr Wtl t t' → SBp r p t t' → SD t t' → TlK sa x G H s t kc ks t' Q) → C_Rr_tell_b2 sa (G 1 r) how (nI p) s kc ks Q := by
  intro m
  induction m with
  | zero =>
    intro p G H s t kc ks hpm hR hM hr hs hkc hks k P2 hc
    refine hc _ _ _ _ ?_
    have h6 := hM.nR
    have h4 := hM.nIf hr
    have hq := hR.q.1
    have e70 : t.I 70 r = nI (cI t r) := (hM.r hr).2.2.2.2.2.2.2.2.2.1.n.1
    have hp : p = cI t r := by omega
    unfold C_Rr_tell_s2
    refine ⟨_, gd_to (okr (hq.rt hr).1.1 9), ?_⟩
    rw [show s.I (20 * 9 + 5) (G 1 r) = nI (cI t r) from (hq.rt hr).2.2.1.2.2.1.trans e70]
    refine ifF (nI_nlt (by omega) (by omega)) (k t ?_ hM mfr.rf ⟨fun _ _ _ => rfl, fun j _ => ⟨0, by omega, by rw [show nI 0 = 0 from rfl, Int32.add_zero]⟩⟩ SD.rf G H s kc ks hR (fun _ _ _ _ _ => rfl) hA.rf fr.rf (HO.rf rfl) (Nat.le_refl _) (Nat.le_refl _))
    unfold M_tellAll_b4
    refine lp_x ?_
    show M_tellAll_s4 t (nI r) how (nI (4 * r + p)) = _
    unfold M_tellAll_s4
    rw [rdI_n (n := 6) (hM.n.n 70 6) (by omega) (by decide), e70]
    simp only [Option.bind_some]
    rw [show (4 : Int32) * nI r + nI (cI t r) = nI (4 * r + cI t r) by rw [show (4 : Int32) = nI 4 from rfl, pk_mul, nI_add], if_neg (nI_nlt (by omega) (by omega))]
  | succ m ih =>
    intro p G H s t kc ks hpm hR hM hr hs hkc hks k P2 hc
    refine hc _ _ _ _ ?_
    have h6 := hM.nR
    have h4 := hM.nIf hr
    have h10 := hM.nL
    have hq := hR.q.1
    have e70 : t.I 70 r = nI (cI t r) := (hM.r hr).2.2.2.2.2.2.2.2.2.1.n.1
    have hp : p < cI t r := by omega
    have k26 := (hq.rt hr).1.1
    have p184 := hq.ty.r k26 184 139 4
    have hP := hq.po hr hp
    obtain ⟨l, e71, -, hl9⟩ := ((hM.r hr).i hp).1
    have hlL : l < cL t := by
      have := ((hM.r hr).i hp).2.1
      rw [e71, nI_clamp (by omega)] at this
      exact this
    have dist := (hM.r hr).2.2.2.2.2.2.2.2.2.2.2.1
    unfold C_Rr_tell_s2
    refine ⟨_, gd_to (okr k26 9), ?_⟩
    rw [show s.I (20 * 9 + 5) (G 1 r) = nI (cI t r) from (hq.rt hr).2.2.1.2.2.1.trans e70]
    refine ifT (nI_lt hp (by omega)) ⟨_, gd_to (okr k26 9), _, p184.1, _, rd_Q p184.2 (by decide) (show p < 4 by omega) (by decide) hP.1.2.1, ?_⟩
    refine tl_f hh 2 0 (by omega) G H s t kc ks hR hM hr hp hlL e71 ?_ hkc hks fun t1 w1 w2 w3 w4 w5 => ?_
    · obtain ⟨d, e, hd⟩ := hs l (by omega) ⟨p, Nat.le_refl _, hp, e71⟩
      exact ⟨d, e, by omega⟩
    intro G1 H1 s1 kc1 ks1 R1 g1 h1 f1 o1 c1 c2
    have st : M_tellAll_s4 t (nI r) how (nI (4 * r + p)) = some (.inl (nI (4 * r + (p + 1)), t1)) := by
      unfold M_tellAll_s4
      rw [rdI_n (n := 6) (hM.n.n 70 6) (by omega) (by decide), e70]
      simp only [Option.bind_some]
      rw [show (4 : Int32) * nI r + nI (cI t r) = nI (4 * r + cI t r) by rw [show (4 : Int32) = nI 4 from rfl, pk_mul, nI_add], if_pos (nI_lt (by omega) (by omega))]
      have : M_tell t (nI (4 * r + p)) how = some t1 := w1
      rw [this]
      simp only [Option.bind_some]
      rw [nI_1]
      rfl
    have em : M_tellAll_b4 t (nI r) how (nI (4 * r + p)) = M_tellAll_b4 t1 (nI r) how (nI (4 * r + (p + 1))) := by
      unfold M_tellAll_b4
      exact lp_l (f := fun x : Int32 × moS => M_tellAll_s4 x.2 (nI r) how x.1) st
    have e1 : G1 1 = G 1 := g1 1 (by decide) (by decide) (by decide) (by decide)
    have eI : cI t1 r = cI t r := by unfold cI; rw [w3.I 70 (by decide)]
    have eat : ∀ j, atL t1 r (p + 1) j ↔ atL t r (p + 1) j := fun j => by
      unfold atL
      rw [eI, w3.I 71 (by decide)]
    have nl : ¬ atL t r (p + 1) l := by
      rintro ⟨p', a1, a2, a3⟩
      exact dist p p' (by omega) a2 (e71.trans a3.symm)
    have hc' := hc
    rw [← e1] at hc'
    show P2 (nI p + 1) s1 kc1 ks1
    rw [nI_1]
    refine ih (p + 1) G1 H1 s1 t1 kc1 ks1 (by rw [eI]; omega) R1 w2 (by unfold cR; rw [w3.S 37 (by decide)]; exact hr) (fun j hj hat => ?_) (ar_7 c1 hkc) (ar_7 c2 hks) (fun t' q1 q2 q3 q4 q5 => ?_) P2 hc'
    · have hat := (eat j).mp hat
      have nj : j ≠ l := fun z => nl (z ▸ hat)
      rw [w4.1 j nj]
      obtain ⟨p', a1, a2, a3⟩ := hat
      exact hs j hj ⟨p', by omega, a2, a3⟩
    · have sb : SBp r p t t' := by
        obtain ⟨b1, b2⟩ := q4
        refine ⟨fun j hj na => ?_, fun j hj => ?_⟩
        · have nj : j ≠ l := fun z => na ⟨p, Nat.le_refl _, hp, by rw [z]; exact e71⟩
          rw [b1 j hj (fun z => na (by
            obtain ⟨p', a1, a2, a3⟩ := (eat j).mp z
            exact ⟨p', by omega, a2, a3⟩))]
          exact w4.1 j nj
        · by_cases nj : j = l
          · subst nj
            obtain ⟨-, d, hd, e⟩ := w4
            refine ⟨d, by omega, ?_⟩
            rw [b1 j hj (fun z => nl ((eat j).mp z))]
            exact e
          · obtain ⟨d, hd, e⟩ := b2 j hj
            exact ⟨d, hd, by rw [e, w4.1 j nj]⟩
      exact (k t' (em.trans q1) q2 (w3.tr q3) sb (w5.tr q5)).tr g1 h1 f1 o1 c1 c2
/-- tell, tellAll -/
theorem c_tell (hh : how = 0 ∨ how = 1 ∨ how = 2) (hR : RR G H sa x s t) (hM : MV t) (hr : r < cR t) (hs : ∀ j, j < 10 → atL t r 0 j → ∃ d, t.I 23 j = nI d ∧ d + 8850 < 2 ^ 31) (hkc : PoC s G H t + tdC G ≤ kc) (hks : PoS s G H t + tdS s G H x ≤ ks) (k : ∀ t', M_tellAll t (nI r) how = some t' → MV t' → mfr Wtl t t' → SBp r 0 t t' → SD t t' → TlK sa x G H s t kc ks t' Q) : C_Rr_tell sa (G 1 r) how s kc ks Q := by
  unfold C_Rr_tell
  refine tl_all hh (cI t r) 0 G H s t kc ks (by omega) hR hM hr hs hkc hks fun t' q1 => k t' ?_
  unfold M_tellAll
  rw [show (4 : Int32) * nI r = nI (4 * r + 0) by rw [show (4 : Int32) = nI 4 from rfl, pk_mul]; rfl]
  exact q1
end Ta
