/-! What stays, by the parts that things play. -/
/-- values but those of Rv, references but those of Gp (a field, a part), rows of references but those of Rq stay -/
def fr (Rv : List Nat) (Gp : List (Nat × Nat)) (Rq : List Nat) (s s' : cS) : Prop := ∀ a, (s.K a).1 ≠ 0 → s'.K a = s.K a ∧ ((s.K a).1 ∉ Rv → (∀ g, s'.I g a = s.I g a) ∧ (∀ g, s'.J g a = s.J g a) ∧ s'.E a = s.E a) ∧ (∀ g, (g, (s.K a).1) ∉ Gp → s'.P g a = s.P g a) ∧ ((s.K a).1 ∉ Rq → s'.Q a = s.Q a)
/-- no element of L is one of R -/
def dj (L R : List Nat) : Prop := (L.all fun u => !R.contains u) = true
def djp (L R : List (Nat × Nat)) : Prop := (L.all fun u => !R.contains u) = true
theorem dj.n {L R : List Nat} (h : dj L R) (u : Nat) (hu : u ∈ L := by decide) : u ∉ R := by
  have h1 := List.all_eq_true.mp h u hu
  intro hr
  have : R.contains u = true := List.contains_iff_mem.mpr hr
  rw [this] at h1
  cases h1
theorem djp.n {L R : List (Nat × Nat)} (h : djp L R) (u : Nat × Nat) (hu : u ∈ L := by decide) : u ∉ R := by
  have h1 := List.all_eq_true.mp h u hu
  intro hr
  have : R.contains u = true := List.contains_iff_mem.mpr hr
  rw [this] at h1
  cases h1
section Fr
variable {Rv Rq : List Nat} {Gp : List (Nat × Nat)} {s s1 s2 : cS}
theorem fr.rf : fr Rv Gp Rq s s := fun _ _ => ⟨rfl, fun _ => ⟨fun _ => rfl, fun _ => rfl, rfl⟩, fun _ _ => rfl, fun _ => rfl⟩
theorem fr.tr (h : fr Rv Gp Rq s s1) (g : fr Rv Gp Rq s1 s2) : fr Rv Gp Rq s s2 := by
  intro a ha
  obtain ⟨h1, h2, h3, h4⟩ := h a ha
  obtain ⟨g1, g2, g3, g4⟩ := g a (by rw [h1]; exact ha)
  rw [h1] at g2 g3 g4
  refine ⟨g1.trans h1, fun hv => ?_, fun k hk => (g3 k hk).trans (h3 k hk), fun hq => (g4 hq).trans (h4 hq)⟩
  obtain ⟨a1, a2, a3⟩ := h2 hv
  obtain ⟨b1, b2, b3⟩ := g2 hv
  exact ⟨fun k => (b1 k).trans (a1 k), fun k => (b2 k).trans (a2 k), b3.trans a3⟩
theorem fr.wk {Rv' Rq' : List Nat} {Gp' : List (Nat × Nat)} (h : fr Rv Gp Rq s s1) (h1 : (Rv.all fun u => Rv'.contains u) = true := by decide) (h2 : (Gp.all fun u => Gp'.contains u) = true := by decide) (h3 : (Rq.all fun u => Rq'.contains u) = true := by decide) : fr Rv' Gp' Rq' s s1 := by
  intro a ha
  obtain ⟨g1, g2, g3, g4⟩ := h a ha
  exact ⟨g1, fun hv => g2 fun z => hv (List.contains_iff_mem.mp (List.all_eq_true.mp h1 _ z)), fun k hk => g3 k fun z => hk (List.contains_iff_mem.mp (List.all_eq_true.mp h2 _ z)), fun hq => g4 fun z => hq (List.contains_iff_mem.mp (List.all_eq_true.mp h3 _ z))⟩
theorem fr.si {g a : Nat} {v : Int32} (h : (s.K a).1 ∈ Rv) : fr Rv Gp Rq s (cSI s g a v) := fun b _ => ⟨rfl, fun hb => ⟨fun g' => by
  have hn : b ≠ a := fun e => hb (e ▸ h)
  by_cases hg : g' = g
  · subst hg; exact cSI_a hn
  · exact cSI_g hg, fun _ => rfl, rfl⟩, fun _ _ => rfl, fun _ => rfl⟩
theorem fr.sj {g a : Nat} {v : Int64} (h : (s.K a).1 ∈ Rv) : fr Rv Gp Rq s (cSJ s g a v) := fun b _ => ⟨rfl, fun hb => ⟨fun _ => rfl, fun g' => by
  have hn : b ≠ a := fun e => hb (e ▸ h)
  by_cases hg : g' = g
  · subst hg; exact cSJ_a hn
  · exact cSJ_g hg, rfl⟩, fun _ _ => rfl, fun _ => rfl⟩
theorem fr.se {a i : Nat} {v : Int32} (h : (s.K a).1 ∈ Rv) : fr Rv Gp Rq s (cSE s a i v) := fun b _ => ⟨rfl, fun hb => ⟨fun _ => rfl, fun _ => rfl, cSE_a (fun e => hb (e ▸ h))⟩, fun _ _ => rfl, fun _ => rfl⟩
theorem fr.sp {g a : Nat} {v : Option Nat} (h : (g, (s.K a).1) ∈ Gp) : fr Rv Gp Rq s (cSP s g a v) := fun b _ => ⟨rfl, fun _ => ⟨fun _ => rfl, fun _ => rfl, rfl⟩, fun g' hg' => by
  by_cases hg : g' = g
  · subst hg
    exact cSP_a (fun e => hg' (e ▸ h))
  · exact cSP_g hg, fun _ => rfl⟩
theorem fr.sq {a i : Nat} {v : Option Nat} (h : (s.K a).1 ∈ Rq) : fr Rv Gp Rq s (cSQ s a i v) := fun b _ => ⟨rfl, fun _ => ⟨fun _ => rfl, fun _ => rfl, rfl⟩, fun _ _ => rfl, fun hb => cSQ_a (fun e => hb (e ▸ h))⟩
theorem fr.nw {q : Nat} {t : Nat × Nat} (hq : (s.K q).1 = 0) : fr Rv Gp Rq s (cNw s q t) := fun b hb => by
  have hn : b ≠ q := fun e => hb (e ▸ hq)
  exact ⟨cNw_kn hn, fun _ => ⟨fun _ => cNw_in hn, fun _ => cNw_jn hn, cNw_en hn⟩, fun _ _ => cNw_pn hn, fun _ => cNw_qn hn⟩
theorem fr.r (h : fr Rv Gp Rq s s1) {a u : Nat} (ha : (s.K a).1 = u) (hu : u ≠ 0 := by decide) : (s1.K a).1 = u := by rw [(h a (by rw [ha]; exact hu)).1]; exact ha
theorem fr.k (h : fr Rv Gp Rq s s1) {a u n : Nat} (ha : s.K a = (u, n)) (hu : u ≠ 0 := by decide) : s1.K a = (u, n) := by rw [(h a (by rw [ha]; exact hu)).1]; exact ha
theorem fr.v (h : fr Rv Gp Rq s s1) {a u : Nat} (ha : (s.K a).1 = u) (hu : u ∉ Rv) (h0 : u ≠ 0 := by decide) : (∀ g, s1.I g a = s.I g a) ∧ (∀ g, s1.J g a = s.J g a) ∧ s1.E a = s.E a := (h a (by rw [ha]; exact h0)).2.1 (by rw [ha]; exact hu)
theorem fr.p (h : fr Rv Gp Rq s s1) {a u g : Nat} (ha : (s.K a).1 = u) (hu : (g, u) ∉ Gp) (h0 : u ≠ 0 := by decide) : s1.P g a = s.P g a := (h a (by rw [ha]; exact h0)).2.2.1 g (by rw [ha]; exact hu)
theorem fr.q (h : fr Rv Gp Rq s s1) {a u : Nat} (ha : (s.K a).1 = u) (hu : u ∉ Rq) (h0 : u ≠ 0 := by decide) : s1.Q a = s.Q a := (h a (by rw [ha]; exact h0)).2.2.2 (by rw [ha]; exact hu)
/-- a row of bytes is as it was -/
theorem BL.fr {b w cap u : Nat} {l : List Int32} (h : BL s b w l cap) (f : fr Rv Gp Rq s s1) (hb : (s.K b).1 = u) (h1 : u ∉ Rv) (h2 : w ∉ Rv) (h3 : (0, u) ∉ Gp) : BL s1 b w l cap := by
  obtain ⟨a1, a2, d, a3, a4, a5, a6, a7, a8, a9⟩ := h
  have hu : u ≠ 0 := by rw [← hb]; exact a1.n0
  have hk := (f b a1.n0).1
  refine ⟨by unfold okO at a1 ⊢; rw [hk]; exact a1, a2, d, ?_, ?_, ?_, a6, a7, a8, ?_⟩
  · rw [f.p hb h3 hu]; exact a3
  · exact f.k a4 (by omega)
  · rw [(f.v hb h1 hu).1]; exact a5
  · intro i hi
    rw [(f.v (a := d) (u := w) (by rw [a4]) h2 (by omega)).2.2]
    exact a9 i hi
theorem isTx.fr {sa : Nat → Nat} {a : Nat} {l : List Int32} (h : isTx sa s a l) (f : fr Rv Gp Rq s s1) (h1 : 31 ∉ Rv) (h2 : 118 ∉ Rv) (h3 : (260, 31) ∉ Gp) (ht : TK sa s1) : isTx sa s1 a l := by
  rcases h with ⟨e1, e2, v, e3, e4, e5, e6⟩ | ⟨e1, k, e2, e3, e4⟩
  · exact Or.inl ⟨f.r e1, by rw [(f.v e1 h1).1]; exact e2, v, by rw [f.p e1 h3]; exact e3, f.k e4, e5, fun i hi => by rw [(f.v (a := v) (u := 118) (by rw [e4]) h2).2.2]; exact e6 i hi⟩
  · exact Or.inr ⟨by rw [← e3]; exact ht k e2, k, e2, e3, e4⟩
theorem PF.fr {p u : Nat} {a d : Int32} {b c : Int64} (h : PF s p a b c d) (f : fr Rv Gp Rq s s1) (hp : (s.K p).1 = u) (h1 : u ∉ Rv) (h0 : u ≠ 0 := by decide) : PF s1 p a b c d := by
  obtain ⟨e1, e2, e3, e4⟩ := h
  obtain ⟨g1, g2, -⟩ := f.v hp h1 h0
  exact ⟨by rw [g1]; exact e1, by rw [g2]; exact e2, by rw [g2]; exact e3, by rw [g1]; exact e4⟩
/-- what a writing of bytes leaves -/
theorem AP.fr {sa : Nat → Nat} {b w F L k0 m0 kc ks u : Nat} {s0 : cS} {l : List Int32} (h : AP sa b w F L s0 k0 m0 l s kc ks) (hb : (s0.K b).1 = u) : fr [u, w] [(0, u)] [] s0 s := by
  intro a ha
  obtain ⟨cap, d, ⟨-, hw, -⟩, -, -, -, -, -, -, hx, -, ⟨h0, d0, e1, e2⟩, hg⟩ := h
  obtain ⟨g1, g2⟩ := hx a ha
  obtain ⟨q1, q2⟩ := hg.1 a ha
  by_cases c1 : a = b
  · subst c1
    exact ⟨g1, fun z => absurd (by rw [hb]; exact List.mem_cons_self) z, fun g hg' => q2 g (fun e => hg' (by rw [e.1, hb]; exact List.mem_cons_self)), fun _ => q1⟩
  · by_cases c2 : s0.P 0 b = some a
    · rw [e1] at c2
      cases c2
      exact ⟨g1, fun z => absurd (by rw [e2]; exact List.mem_cons_of_mem _ List.mem_cons_self) z, fun g _ => q2 g (fun e => c1 e.2), fun _ => q1⟩
    · obtain ⟨b1, b2, b3, b4, b5⟩ := g2 (fun z => z.elim c1 c2)
      exact ⟨g1, fun _ => ⟨b1, b2, b4⟩, fun g _ => b3 g, fun _ => b5⟩
end Fr
