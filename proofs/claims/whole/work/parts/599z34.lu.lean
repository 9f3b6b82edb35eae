/-! A line of any kind: what both sides come to. -/
abbrev Wlu : List Nat := Wg ++ (Wls ++ Wju)
def LU (G H : Nat → Nat → Nat) (sa : Nat → Nat) (x : Nat) (s : cS) (t : moS) (kc ks : Nat) (Os : Nat → List Pf) (B : Int32 → Prop) (o : Option (Int32 × moS)) (C : (Int32 → cS → Nat → Nat → Prop) → Prop) : Prop := ∃ c t' Os', o = some (c, t') ∧ MV t' ∧ EX Os' t' ∧ (Os' = Os ∨ B c ∧ ∀ r, (Os' r).length ≤ (Os r).length + 1) ∧ mfr Wlu t t' ∧ (∀ i, t'.I 23 i = t.I 23 i ∨ t'.I 23 i = t.I 23 i + 1) ∧ ∀ Q : Int32 → cS → Nat → Nat → Prop, (∀ G' H' s' kc' ks', RR G' H' sa x s' t' → kp x s s' → kc + PoC s' G' H' t' ≤ kc' + PoC s G H t + 64 → ks + PoS s' G' H' t' ≤ ks' + PoS s G H t + 1200 → Q c s' kc' ks') → C Q
section Lu
variable {G H : Nat → Nat → Nat} {sa : Nat → Nat} {rd x r p kc ks : Nat} {s s1 : cS} {t t1 : moS} {l : List Int32} {ws : List (Nat × Nat)} {Os : Nat → List Pf} {B : Int32 → Prop} {o : Option (Int32 × moS)} {C : (Int32 → cS → Nat → Nat → Prop) → Prop}
theorem pot_kp (hK : s1.K = s.K) (hP : s1.P = s.P) : PoC s1 G H t = PoC s G H t ∧ PoS s1 G H t = PoS s G H t := by
  unfold PoC PoS fB fL fW fS fT soC soS cpZ pB potS cpT cpO plC capOf wkC
  rw [hK, hP]
  exact ⟨rfl, rfl⟩
theorem pot_t {W : List Nat} (m : mfr W t t1) (d : dj [17, 37, 70, 123] W) : PoC s G H t1 = PoC s G H t ∧ PoS s G H t1 = PoS s G H t := by
  have z1 : cR t1 = cR t := by unfold cR; rw [m.S 37 (d.n 37)]
  have z2 : cL t1 = cL t := by unfold cL; rw [m.S 17 (d.n 17)]
  have z3 : ∀ r, cI t1 r = cI t r := fun r => by unfold cI; rw [m.I 70 (d.n 70)]
  have z4 : cF t1 = cF t := by unfold cF; rw [m.S 123 (d.n 123)]
  unfold PoC PoS fA fB fL fW fS fT dN
  rw [z1, z2, z4]
  refine ⟨?_, ?_⟩ <;> simp only [z3]
theorem EX.lo (hE : EX Os t) (hM : MV t) (hM1 : MV t1) (m : mfr [12, 13, 14, 15, 16] t t1) : EX Os t1 := hE.of hM hM1 (by unfold cR; rw [m.S 37 (by decide)]) (fun _ _ => sEq.m m rfl) (fun _ _ z => by rw [m.I 39 (by decide)] at z; exact z)
/-- a fault, before anything was done -/
theorem LU.no (h : LX G H sa x rd s t l ws) (hE : EX Os t) (m : mfr [12, 13, 14, 15, 16] t t1) (c : Int32) (e : o = some (c, t1)) (hC : ∀ Q : Int32 → cS → Nat → Nat → Prop, (∀ s1, fp (H 146 rd) s s1 → Q c s1 kc ks) → C Q) : LU G H sa x s t kc ks Os B o C := by
  have L := lx_fm h fp.rf m
  refine ⟨c, t1, Os, e, L.mv, hE.lo h.mv L.mv m, Or.inl rfl, m.wk (by decide), fun i => Or.inl (by rw [m.I 23 (by decide)]), fun Q k => hC Q fun s1 f1 => ?_⟩
  have z1 := pot_kp (G := G) (H := H) (t := t1) f1.1 f1.2.1
  have z2 := pot_t (G := G) (H := H) (s := s) m rfl
  exact k G H s1 kc ks (lx_fm h f1 m).1 (kp.e f1.1 f1.2.1 f1.2.2.2.1) (by rw [z1.1, z2.1]; omega) (by rw [z1.2, z2.2]; omega)
theorem w_adOf {f : Nat} {Q : Option Nat → cS → Nat → Nat → Prop} {q : Nat} (hf : f = 0 ∨ f = 1) (hq : okO s 4 q) (k : Q (s.P (81 + f) q) s kc ks) : C_Po_addressOf sa q (fam (nI f)) s kc ks Q := by
  unfold C_Po_addressOf
  rcases hf with rfl | rfl
  · exact ifT rfl ⟨_, gd_to hq, k⟩
  · exact ifF (by decide) ⟨_, gd_to hq, k⟩
theorem rad_n {f q : Nat} (h : RAd G s t q f) : (s.P (81 + f) (G 2 q) = none ↔ t.I 75 (2 * q + f) = 0) := by
  rcases h with ⟨a, b⟩ | ⟨a, p, b, -⟩
  · exact ⟨fun _ => a, fun _ => b⟩
  · rw [a, b]
    exact ⟨(fun z => by cases z), fun z => absurd z (by decide)⟩
end Lu
