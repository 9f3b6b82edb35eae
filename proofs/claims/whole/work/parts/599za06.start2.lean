/-! A router is started: the loops. -/
section Sb
variable {G H G1 H1 : Nat → Nat → Nat} {sa : Nat → Nat} {x r kc ks : Nat} {s s1 : cS} {t t1 : moS} {K : List Pf} {Q : cS → Nat → Nat → Prop}
theorem L2M_ap : ∀ (a b y : Nat), L2M t r (a + b) y = L2M t r a y ++ L2M t r b (y + a)
  | 0, b, y => by rw [Nat.zero_add]; rfl
  | a + 1, b, y => by
    rw [show a + 1 + b = (a + b) + 1 by omega]
    show (if t.I 75 (8 * r + y) = 0 then [] else [neP t r y]) ++ L2M t r (a + b) (y + 1) = ((if t.I 75 (8 * r + y) = 0 then [] else [neP t r y]) ++ L2M t r a (y + 1)) ++ L2M t r b (y + (a + 1))
    rw [L2M_ap a b (y + 1), List.append_assoc, show y + 1 + a = y + (a + 1) by omega]
/-- the static routes in the class's order -/
def L3C (G : Nat → Nat → Nat) (t : moS) (r : Nat) : Nat → List Pf
  | 0 => []
  | n + 1 => L3C G t r n ++ [stP t (32 * r + G 7 (32 * r + n))]
theorem L3C_m {P : Pf} : ∀ n, P ∈ L3C G t r n ↔ ∃ j, j < n ∧ P = stP t (32 * r + G 7 (32 * r + j))
  | 0 => ⟨fun z => absurd z (by simp [L3C]), fun ⟨j, h, _⟩ => absurd h (Nat.not_lt_zero j)⟩
  | n + 1 => by
    show P ∈ L3C G t r n ++ [_] ↔ _
    rw [List.mem_append, L3C_m n, List.mem_singleton]
    constructor
    · rintro (⟨j, h1, h2⟩ | h)
      · exact ⟨j, by omega, h2⟩
      · exact ⟨n, by omega, h⟩
    · rintro ⟨j, h1, h2⟩
      by_cases c : j = n
      · subst c; exact Or.inr h2
      · exact Or.inl ⟨j, by omega, h2⟩
theorem sp_ports (hR : RR G H sa x s t) (hM : MV t) (hr : r < cR t) (hrun : t.I 39 r ≠ 0) (hPK : ∀ y, y < 2 * cI t r → t.I 75 (8 * r + y) ≠ 0 → neP t r y ∈ K) (hkc : potC G r ≤ kc) (hks : potS s G H r ≤ ks) (kk : ∀ G2 H2 s2 t2 kc2 ks2, SPI G H sa x s t r K kc ks G2 H2 s2 t2 kc2 ks2 → SAs t r (L2M t r (2 * cI t r) 0) = some t2 → C_Rr_start_b51 sa (G 1 r) 0 s2 kc2 ks2 Q) : ∀ (m p : Nat), p + m = cI t r → ∀ G1 H1 s1 t1 kc1 ks1, SPI G H sa x s t r K kc ks G1 H1 s1 t1 kc1 ks1 → SAs t r (L2M t r (2 * p) 0) = some t1 → C_Rr_start_b25 sa (G 1 r) (nI p) s1 kc1 ks1 Q := by
  have h6 := hM.nR
  have h4 := hM.nIf hr
  have k26 := (hR.q.1.rt hr).1.1
  have e70 : t.I 70 r = nI (cI t r) := (hM.r hr).2.2.2.2.2.2.2.2.2.1.n.1
  intro m
  induction m with
  | zero =>
    intro p hp G1 H1 s1 t1 kc1 ks1 sp e P25 hc
    refine hc _ _ _ _ ?_
    obtain ⟨hR1, sq, g1, -⟩ := id sp
    have m1 := sq.2.1.1
    have hr1 := sq.cr hr
    have e1 : G1 1 = G 1 := g1 1 (by decide) (by decide)
    have i185 := (hR1.q.1.rt hr1).2.2.1.2.2.1
    have k26' := (hR1.q.1.rt hr1).1.1
    rw [e1] at i185 k26'
    rw [m1.I 70 (by decide)] at i185
    unfold C_Rr_start_s25
    refine ⟨_, gd_to (okr k26' 9), ?_⟩
    rw [show s1.I (20 * 9 + 5) (G 1 r) = nI (cI t r) from i185.trans e70]
    refine ifF (nI_nlt (by omega) (by omega)) (kk G1 H1 s1 t1 kc1 ks1 sp ?_)
    rw [← e, show p = cI t r by omega]
  | succ m ih =>
    intro p hp G1 H1 s1 t1 kc1 ks1 sp e P25 hc
    refine hc _ _ _ _ ?_
    obtain ⟨hR1, sq, g1, -⟩ := id sp
    have m1 := sq.2.1.1
    have hr1 := sq.cr hr
    have e1 : G1 1 = G 1 := g1 1 (by decide) (by decide)
    have e2 : G1 2 = G 2 := g1 2 (by decide) (by decide)
    have hp1 : p < cI t r := by omega
    have hpp : p < cI t1 r := by unfold cI; rw [m1.I 70 (by decide)]; exact hp1
    have i185 := (hR1.q.1.rt hr1).2.2.1.2.2.1
    have k26' := (hR1.q.1.rt hr1).1.1
    have p184 := hR1.q.1.ty.r k26' 184 139 4
    have hP := (hR1.q.1.po hr1 hpp).1.2.1
    rw [e1] at i185 k26' p184
    rw [e1, e2] at hP
    rw [m1.I 70 (by decide)] at i185
    unfold C_Rr_start_s25
    refine ⟨_, gd_to (okr k26' 9), ?_⟩
    rw [show s1.I (20 * 9 + 5) (G 1 r) = nI (cI t r) from i185.trans e70]
    refine ifT (nI_lt hp1 (by omega)) ⟨_, gd_to (okr k26' 9), _, p184.1, _, rd_Q p184.2 (by decide) (show p < 4 by omega) (by decide) hP, okr k26' 9, ?_⟩
    refine sp_port sp hM hr k26 hrun hp1 (fun f hf hz => hPK (2 * p + f) (by omega) hz) hkc hks fun G2 H2 s2 t2 kc2 ks2 sp2 e2' => ?_
    rw [nI_1]
    refine ih (p + 1) (by omega) G2 H2 s2 t2 kc2 ks2 sp2 ?_ P25 hc
    rw [show 2 * (p + 1) = 2 * p + 2 by omega, L2M_ap, SAs_ap, e, Nat.zero_add]
    exact e2'
theorem sp_stats (hR : RR G H sa x s t) (hM : MV t) (hr : r < cR t) (hrun : t.I 39 r ≠ 0) (hPK : ∀ k, k < cSt t r → stP t (32 * r + k) ∈ K) (hpx : ∀ k, k < cSt t r → isPx (t.J 48 (32 * r + k)) (t.J 49 (32 * r + k)) (t.I 50 (32 * r + k))) (hkc : potC G r ≤ kc) (hks : potS s G H r ≤ ks) {X : List Pf} (kk : ∀ G2 H2 s2 t2 kc2 ks2, SPI G H sa x s t r K kc ks G2 H2 s2 t2 kc2 ks2 → SAs t r (X ++ L3C G t r (cSt t r)) = some t2 → C_Rr_start_b86 sa (G 1 r) 0 s2 kc2 ks2 Q) : ∀ (m j : Nat), j + m = cSt t r → ∀ G1 H1 s1 t1 kc1 ks1, SPI G H sa x s t r K kc ks G1 H1 s1 t1 kc1 ks1 → SAs t r (X ++ L3C G t r j) = some t1 → C_Rr_start_b51 sa (G 1 r) (nI j) s1 kc1 ks1 Q := by
  have h6 := hM.nR
  obtain ⟨e46, h32⟩ := hM.st hr
  have k26 := (hR.q.1.rt hr).1.1
  intro m
  induction m with
  | zero =>
    intro j hj G1 H1 s1 t1 kc1 ks1 sp e P51 hc
    refine hc _ _ _ _ ?_
    obtain ⟨hR1, sq, g1, -⟩ := id sp
    have m1 := sq.2.1.1
    have hr1 := sq.cr hr
    have e1 : G1 1 = G 1 := g1 1 (by decide) (by decide)
    have k26' := (hR1.q.1.rt hr1).1.1
    have p187 := hR1.q.1.ty.p k26' 187 28
    have i201 := (hR1.q.1.st hr1).1.1
    rw [e1] at k26' p187 i201
    rw [m1.I 46 (by decide)] at i201
    unfold C_Rr_start_s51
    refine ⟨_, gd_to (okr k26' 9), _, p187.1, _, gd_to (okr p187.2 10), ?_⟩
    rw [show s1.I (20 * 10 + 1) (H1 187 (G 1 r)) = nI (cSt t r) from i201]
    refine ifF (nI_nlt (by omega) (by omega)) (kk G1 H1 s1 t1 kc1 ks1 sp ?_)
    rw [← e, show j = cSt t r by omega]
  | succ m ih =>
    intro j hj G1 H1 s1 t1 kc1 ks1 sp e P51 hc
    refine hc _ _ _ _ ?_
    obtain ⟨hR1, sq, g1, -⟩ := id sp
    have m1 := sq.2.1.1
    have hr1 := sq.cr hr
    have e1 : G1 1 = G 1 := g1 1 (by decide) (by decide)
    have k26' := (hR1.q.1.rt hr1).1.1
    have p187 := hR1.q.1.ty.p k26' 187 28
    have i201 := (hR1.q.1.st hr1).1.1
    rw [e1] at k26' p187 i201
    rw [m1.I 46 (by decide)] at i201
    unfold C_Rr_start_s51
    refine ⟨_, gd_to (okr k26' 9), _, p187.1, _, gd_to (okr p187.2 10), ?_⟩
    rw [show s1.I (20 * 10 + 1) (H1 187 (G 1 r)) = nI (cSt t r) from i201]
    refine ifT (nI_lt (by omega) (by omega)) ?_
    refine sp_stat (j := j) sp hM hr hR hrun (by omega) hPK hpx hkc hks (Q := fun sr11 cr11 dr11 => P51 (nI j + 1) sr11 cr11 dr11) fun G2 H2 s2 t2 kc2 ks2 sp2 e2' => ?_
    rw [nI_1]
    refine ih (j + 1) (by omega) G2 H2 s2 t2 kc2 ks2 sp2 ?_ P51 hc
    show SAs t r (X ++ (L3C G t r j ++ [stP t (32 * r + G 7 (32 * r + j))])) = some t2
    rw [← List.append_assoc, SAs_ap, e]
    exact e2'
end Sb
