/-! A datagram is on its way: the relation. -/
/-- what stands in the datagram that is written -/
def DRf (H : Nat → Nat → Nat) (s : cS) (D : Nat) (L : List Int32) (ta : Int32) (th tl : Int64) (f : Int32) (h lo : Int64) (po ho : Int32) (sn : Option Nat) : Prop := BL s (H 40 D) 129 L 600 ∧ PF s (H 41 D) (fam f) h lo (if f = 0 then 32 else 128) ∧ (s.I 43 D = ta ∧ s.I 44 D = fam f ∧ s.I 45 D = po ∧ s.I 46 D = ho) ∧ (ta = 0 → s.I 100 (H 42 D) = fam f ∧ s.J 101 (H 42 D) = th ∧ s.J 102 (H 42 D) = tl) ∧ s.P 47 D = sn
/-- the books behind it -/
def flG (G : Nat → Nat → Nat) (c n D : Nat) : Nat → Nat → Nat := fun k i => if k = 11 then (if i = c then G 11 999 else if i = 999 then D else G 11 i) else if k = 12 then (if i = 999 then n else G 12 i) else G k i
/-- a datagram A stays as it is -/
def hdF (H : Nat → Nat → Nat) (A : Nat) (s s' : cS) : Prop := (∀ g, s'.I g A = s.I g A) ∧ (∀ g, s'.P g A = s.P g A) ∧ ((∀ g, s'.I g (H 41 A) = s.I g (H 41 A)) ∧ ∀ g, s'.J g (H 41 A) = s.J g (H 41 A)) ∧ ((∀ g, s'.I g (H 42 A) = s.I g (H 42 A)) ∧ ∀ g, s'.J g (H 42 A) = s.J g (H 42 A)) ∧ ∀ l, BL s (H 40 A) 129 l 600 → BL s' (H 40 A) 129 l 600
/-- a datagram that is neither on its way, nor spare, nor written -/
def hFr (G : Nat → Nat → Nat) (t : moS) (A : Nat) : Prop := A ≠ G 11 999 ∧ (∀ i, i < cF t → G 11 i ≠ A) ∧ (∀ i, i < G 12 999 → G 12 i ≠ A) ∧ cF t + G 12 999 ≤ 256
def HO (G H : Nat → Nat → Nat) (s : cS) (t : moS) (G' : Nat → Nat → Nat) (s' : cS) (t' : moS) : Prop := ∀ A, (s.K A).1 = 6 → hFr G t A → hdF H A s s' ∧ hFr G' t' A
theorem hdF.rf {H : Nat → Nat → Nat} {A : Nat} {s : cS} : hdF H A s s := ⟨fun _ => rfl, fun _ => rfl, ⟨fun _ => rfl, fun _ => rfl⟩, ⟨fun _ => rfl, fun _ => rfl⟩, fun _ h => h⟩
theorem hdF.tr {H : Nat → Nat → Nat} {A : Nat} {s s1 s2 : cS} (f : hdF H A s s1) (g : hdF H A s1 s2) : hdF H A s s2 := by
  obtain ⟨a1, a2, ⟨a3, a4⟩, ⟨a5, a6⟩, a7⟩ := f
  obtain ⟨b1, b2, ⟨b3, b4⟩, ⟨b5, b6⟩, b7⟩ := g
  exact ⟨fun g => (b1 g).trans (a1 g), fun g => (b2 g).trans (a2 g), ⟨fun g => (b3 g).trans (a3 g), fun g => (b4 g).trans (a4 g)⟩, ⟨fun g => (b5 g).trans (a5 g), fun g => (b6 g).trans (a6 g)⟩, fun l h => b7 l (a7 l h)⟩
theorem hdF.fr {H : Nat → Nat → Nat} {A : Nat} {s s' : cS} {Rv Rq : List Nat} {Gp : List (Nat × Nat)} (f : fr Rv Gp Rq s s') (hT : TY cNo H s) (kA : (s.K A).1 = 6) (d1 : dj [3, 6, 12, 13, 129] Rv) (d2 : ∀ g, (g, 6) ∉ Gp) (d3 : (0, 3) ∉ Gp) : hdF H A s s' := by
  have k3 := (hT.p kA 40 3).2
  have k12 := (hT.p kA 41 12).2
  have k13 := (hT.p kA 42 13).2
  have v6 := f.v kA (d1.n 6)
  have v12 := f.v k12 (d1.n 12)
  have v13 := f.v k13 (d1.n 13)
  exact ⟨v6.1, fun g => f.p kA (d2 g), ⟨v12.1, v12.2.1⟩, ⟨v13.1, v13.2.1⟩, fun l h => h.fr f k3 (d1.n 3) (d1.n 129) d3⟩
theorem hdF.pt {H : Nat → Nat → Nat} {A D x : Nat} {s s' : cS} (hT : TY cNo H s) (kA : (s.K A).1 = 6) (kD : (s.K D).1 = 6) (hx : (s.K x).1 = 30) (nD : A ≠ D) (h : ∀ a, (s.K a).1 ≠ 0 → a ≠ D → a ≠ x → ((∀ g, s'.I g a = s.I g a) ∧ ∀ g, s'.J g a = s.J g a) ∧ (s'.E a = s.E a ∧ s'.K a = s.K a) ∧ ∀ g, s'.P g a = s.P g a) : hdF H A s s' := by
  have k3 := (hT.p kA 40 3).2
  have k12 := (hT.p kA 41 12).2
  have k13 := (hT.p kA 42 13).2
  have ne : ∀ {a u : Nat}, (s.K a).1 = u → u ≠ 6 → u ≠ 30 → u ≠ 0 → ((∀ g, s'.I g a = s.I g a) ∧ ∀ g, s'.J g a = s.J g a) ∧ (s'.E a = s.E a ∧ s'.K a = s.K a) ∧ ∀ g, s'.P g a = s.P g a := fun {a u} h1 h2 h3 h4 => h a (by rw [h1]; exact h4) (fun z => h2 (by rw [← h1, z, kD])) (fun z => h3 (by rw [← h1, z, hx]))
  have vA := h A (by rw [kA]; decide) nD (fun z => by rw [z, hx] at kA; exact absurd kA (by decide))
  have v3 := ne k3 (by decide) (by decide) (by decide)
  have v12 := ne k12 (by decide) (by decide) (by decide)
  have v13 := ne k13 (by decide) (by decide) (by decide)
  refine ⟨vA.1.1, vA.2.2, v12.1, v13.1, fun l hl => ?_⟩
  obtain ⟨q1, q2, d, q3, q4, q5, q6⟩ := hl
  have vd := ne (a := d) (u := 129) (by rw [q4]) (by decide) (by decide) (by decide)
  refine ⟨by unfold okO at q1 ⊢; rw [v3.2.1.2]; exact q1, q2, d, by rw [v3.2.2]; exact q3, by rw [vd.2.1.2]; exact q4, by rw [v3.1.1]; exact q5, ?_⟩
  rw [vd.2.1.1]
  exact q6
theorem HO.rf {G H : Nat → Nat → Nat} {s : cS} {t t' : moS} (e : cF t' = cF t) : HO G H s t G s t' := fun A _ h => ⟨hdF.rf, by unfold hFr; rw [e]; exact h⟩
theorem HO.pre {G H G' : Nat → Nat → Nat} {s s1 s' : cS} {t t1 t' : moS} (h1 : ∀ A, (s.K A).1 = 6 → A ≠ G 11 999 → hdF H A s s1) (e : cF t1 = cF t) (hk : ∀ A, (s.K A).1 = 6 → (s1.K A).1 = 6) (h2 : HO G H s1 t1 G' s' t') : HO G H s t G' s' t' := fun A kA hA => by
  obtain ⟨a, b⟩ := h2 A (hk A kA) (by unfold hFr; rw [e]; exact hA)
  exact ⟨(h1 A kA hA.1).tr a, b⟩
section Fy
variable {G H : Nat → Nat → Nat} {sa : Nat → Nat} {x p l n D kc ks : Nat} {s s' : cS} {t : moS} {L : List Int32} {fm ta f po ho du : Int32} {th tl h lo : Int64} {sn : Option Nat}
theorem BL.lb {b w cap : Nat} {l : List Int32} (h : BL s b w l cap) : ∀ i, i < l.length → l.getD i 0 &&& 255 = l.getD i 0 := by
  obtain ⟨-, -, d, -, -, -, -, -, -, h9⟩ := h
  exact fun i hi => (h9 i hi).2
theorem fly_rr (hR : RR G H sa x s t) (hM : MV t) (h2 : cF t < 256) (hl : l < cL t) (hp : p < 256) (h0 : t.I 125 p = 0) (hD : DRf H s (G 11 999) L ta th tl f h lo po ho sn) (hsn : sn = if fm = -1 then none else some (G 1 (fm.toNatClampNeg / 4)))
    (hK : s'.K = s.K) (hP : ∀ g a, ¬ (g = 48 ∧ a = G 11 999) → ¬ (g = 236 ∧ a = x) → s'.P g a = s.P g a) (hP1 : s'.P 48 (G 11 999) = some (G 0 l)) (hP2 : s'.P 236 x = some D) (hI : ∀ g a, ¬ (g = 49 ∧ a = G 11 999) → ¬ (a = x ∧ (g = 233 ∨ g = 235)) → s'.I g a = s.I g a) (hI1 : s'.I 49 (G 11 999) = du) (hI2 : s'.I 233 x = nI (cF t + 1)) (hI3 : s'.I 235 x = nI n) (hJ : s'.J = s.J) (hE : s'.E = s.E) (hQ : ∀ a, a ≠ H 232 x → s'.Q a = s.Q a) (hQ1 : ∀ i, s'.Q (H 232 x) i = if i = cF t then some (G 11 999) else s.Q (H 232 x) i)
    (kD : (s.K D).1 = 6) (hn : n ≤ G 12 999) (h258 : cF t + 1 + n + 1 ≤ 258) (n1 : D ≠ G 11 999) (n2 : ∀ i, i < cF t → G 11 i ≠ D) (n3 : ∀ i, i < n → G 12 i ≠ D) : RR (flG G (cF t) n D) H sa x s' (flT t p l fm ta th tl f h lo po ho du L) ∧ fr Rfl Pfl Qfl s s' := by
  have hq := hR.q.1
  have hT := hq.ty
  have hx := hq.1.1
  obtain ⟨⟨a1, a2, a3⟩, b, c, ⟨d1, d2⟩, e1, e2, e3, e4, e5⟩ := hq.2.2.2.2.2.2
  have k133 := (hT.r hx 232 133 256).2
  have k134 := (hT.r hx 234 134 258).2
  have dx : G 11 999 ≠ x := ne_ro d2 hx
  have fl : fr Rfl Pfl Qfl s s' := fun a ha => by
    refine ⟨by rw [hK], fun hv => ?_, fun g hg => ?_, fun hv => ?_⟩
    · rw [hJ, hE]
      refine ⟨fun g => hI g a (fun z => hv ?_) (fun z => hv ?_), fun _ => rfl, rfl⟩
      · rw [z.2, d2]; decide
      · rw [z.1, hx]; decide
    · refine hP g a (fun z => hg ?_) (fun z => hg ?_)
      · rw [z.1, z.2, d2]; decide
      · rw [z.1, z.2, hx]; decide
    · exact hQ a (fun z => hv (by rw [z, k133]; decide))
  have eG : ∀ b, b ≠ 11 → b ≠ 12 → flG G (cF t) n D b = G b := fun b h1 h2 => by
    funext i
    unfold flG
    rw [if_neg h1, if_neg h2]
  have m := flT_m (t := t) (p := p) (l := l) (fm := fm) (ta := ta) (th := th) (tl := tl) (f := f) (h := h) (lo := lo) (po := po) (ho := ho) (du := du) (L := L)
  have blk : ∀ {a l}, (s.K a).1 = 6 → BL s (H 40 a) 129 l 600 → BL s' (H 40 a) 129 l 600 := fun {a l} ha hb => by
    have k3 := (hT.p ha 40 3).2
    obtain ⟨q1, q2, d, q3, q4, q5, q6⟩ := hb
    have n1 : H 40 a ≠ G 11 999 := ne_ro k3 d2
    have n2 : H 40 a ≠ x := ne_ro k3 hx
    refine ⟨by unfold okO at q1 ⊢; rw [hK]; exact q1, q2, d, by rw [hP 0 _ (by omega) (by omega)]; exact q3, by rw [hK]; exact q4, by rw [hI 1 _ (by omega) (fun z => n2 z.1)]; exact q5, by rw [hE]; exact q6⟩
  have hg : RGl (flG G (cF t) n D) H sa x s' := hq.1.v5 hK (fun g a h1 h2 h3 => hP g a (fun z => h2 z.1) (fun z => h3 z.1)) fl rfl rfl rfl (fun a ha => by
    obtain ⟨l, hl⟩ := hq.1.2.2.2.1 a ha
    exact ⟨l, blk ha hl⟩) (eG 15 (by decide) (by decide)) (eG 16 (by decide) (by decide))
  have g0 : flG G (cF t) n D 12 999 = n := by unfold flG; rw [if_neg (by decide), if_pos rfl, if_pos rfl]
  have gD : flG G (cF t) n D 11 999 = D := by unfold flG; rw [if_pos rfl, if_neg (by omega), if_pos rfl]
  have gc : flG G (cF t) n D 11 (cF t) = G 11 999 := by unfold flG; rw [if_pos rfl, if_pos rfl]
  have gi : ∀ i, i < cF t → flG G (cF t) n D 11 i = G 11 i := fun i hi => by unfold flG; rw [if_pos rfl, if_neg (by omega), if_neg (by omega)]
  have gs : ∀ i, i < n → flG G (cF t) n D 12 i = G 12 i := fun i hi => by unfold flG; rw [if_neg (by decide), if_pos rfl, if_neg (by omega)]
  obtain ⟨f1, f2, f3, f4, f5, f6⟩ := hM.2.2.2.2.1
  obtain ⟨u1, u2⟩ := cF_up f1 h2
  have eF : cF (flT t p l fm ta th tl f h lo po ho du L) = cF t + 1 := by unfold cF; rw [flT_S]; exact u2
  have nt : ∀ i, i < cF t → (t.I 124 i).toNatClampNeg ≠ p := fun i hi e => by
    have := (f3 i hi).2
    rw [e, h0] at this
    exact absurd this (by decide)
  have pc : (nI p).toNatClampNeg = p := nI_clamp (by omega)
  have lc : (nI l).toNatClampNeg = l := nI_clamp (by have := hM.nL; omega)
  obtain ⟨i1, i2, i3, i4, i5, i6, i7, i8, i9, i10⟩ := flT_I (t := t) (p := p) (l := l) (fm := fm) (ta := ta) (th := th) (tl := tl) (f := f) (h := h) (lo := lo) (po := po) (ho := ho) (du := du) (L := L)
  have J := flT_J (t := t) (p := p) (l := l) (fm := fm) (ta := ta) (th := th) (tl := tl) (f := f) (h := h) (lo := lo) (po := po) (ho := ho) (du := du) (L := L)
  have I8 := flT_138 (t := t) (p := p) (l := l) (fm := fm) (ta := ta) (th := th) (tl := tl) (f := f) (h := h) (lo := lo) (po := po) (ho := ho) (du := du) (L := L)
  refine ⟨rr_fl hR hM eG hg fl m (fun g h1 h2 => hI g x (fun z => dx z.2.symm) (fun z => by omega)) ⟨⟨?_, ?_, ?_⟩, fun i hi => ?_, fun i hi => ?_, ⟨by rw [gD]; exact hP2, by rw [gD, hK]; exact kD⟩, fun i j hi hj e => ?_, fun i j hi hj e => ?_, fun i j hi hj => ?_, fun i hi => ?_, fun i hi => ?_⟩, fl⟩
  · rw [flT_S, u1]; exact hI2
  · rw [g0]; exact hI3
  · rw [eF, g0]; exact h258
  · rw [eF] at hi
    by_cases c1 : i = cF t
    · subst c1
      rw [gc, hQ1, if_pos rfl, hK, i1, upd_s, pc]
      refine ⟨rfl, d2, ?_⟩
      obtain ⟨q1, q2, ⟨q3, q4, q5, q6⟩, q7, q8⟩ := hD
      have k12 := (hT.p d2 41 12).2
      have k13 := (hT.p d2 42 13).2
      have eI : ∀ g a u, (s.K a).1 = u → u = 12 ∨ u = 13 → s'.I g a = s.I g a := fun g a u ha hu => hI g a (fun z => by rw [z.2, d2] at ha; omega) (fun z => by rw [z.1, hx] at ha; omega)
      have eI6 : ∀ g, g ≠ 49 → s'.I g (G 11 999) = s.I g (G 11 999) := fun g hg => hI g _ (fun z => hg z.1) (fun z => dx z.1)
      unfold RDg
      rw [i3, i4, i5, i6, i7, i8, i9, i10, (J p).1, (J p).2.1, (J p).2.2.1, (J p).2.2.2, if_pos rfl, if_pos rfl, if_pos rfl, if_pos rfl]
      simp only [upd_s]
      refine ⟨?_, ?_, ⟨?_, ?_, ?_, ?_, hI1⟩, fun z => ?_, ?_, ?_⟩
      · have hlen := q1
        obtain ⟨-, -, d, -, -, -, h600, -⟩ := hlen
        rw [nI_clamp (show L.length < 2 ^ 31 by omega)]
        rw [← tl_of (l := L) (n := L.length) rfl (fun j hj => by rw [I8, if_pos (by omega)]; congr 1; omega)]
        exact blk d2 q1
      · obtain ⟨p1, p2, p3, p4⟩ := q2
        exact ⟨(eI 100 _ 12 k12 (Or.inl rfl)).trans p1, by rw [hJ]; exact p2, by rw [hJ]; exact p3, (eI 103 _ 12 k12 (Or.inl rfl)).trans p4⟩
      · exact (eI6 43 (by decide)).trans q3
      · exact (eI6 44 (by decide)).trans q4
      · exact (eI6 45 (by decide)).trans q5
      · exact (eI6 46 (by decide)).trans q6
      · obtain ⟨p1, p2, p3⟩ := q7 z
        exact ⟨(eI 100 _ 13 k13 (Or.inr rfl)).trans p1, by rw [hJ]; exact p2, by rw [hJ]; exact p3⟩
      · rw [hP 47 _ (by omega) (by omega), eG 1 (by decide) (by decide), q8, hsn]
      · rw [eG 0 (by decide) (by decide), lc]; exact hP1
    · have hi' : i < cF t := by omega
      obtain ⟨b1, b2, b3⟩ := b i hi'
      have nn := nt i hi'
      rw [gi i hi', hQ1, if_neg c1, hK, i1, upd_n c1]
      refine ⟨b1, b2, ?_⟩
      generalize (t.I 124 i).toNatClampNeg = q at nn b3 ⊢
      obtain ⟨q1, q2, ⟨q3, q4, q5, q6, q6'⟩, q7, q8, q9⟩ := b3
      have nD : G 11 i ≠ G 11 999 := e4 i hi'
      have nx : G 11 i ≠ x := ne_ro b2 hx
      have k12 := (hT.p b2 41 12).2
      have k13 := (hT.p b2 42 13).2
      have eI : ∀ g a u, (s.K a).1 = u → u = 12 ∨ u = 13 → s'.I g a = s.I g a := fun g a u ha hu => hI g a (fun z => by rw [z.2, d2] at ha; omega) (fun z => by rw [z.1, hx] at ha; omega)
      have eI6 : ∀ g, s'.I g (G 11 i) = s.I g (G 11 i) := fun g => hI g _ (fun z => nD z.2) (fun z => nx z.1)
      unfold RDg
      rw [i3, i4, i5, i6, i7, i8, i9, i10, (J q).1, (J q).2.1, (J q).2.2.1, (J q).2.2.2, if_neg nn, if_neg nn, if_neg nn, if_neg nn]
      simp only [upd_n nn]
      refine ⟨?_, ?_, ⟨?_, ?_, ?_, ?_, ?_⟩, fun z => ?_, ?_, ?_⟩
      · have hlen := q1
        obtain ⟨-, -, d, -, -, -, h600, -⟩ := hlen
        rw [tl_len] at h600
        rw [tl_eq (g := fun j => t.I 138 (700 * q + j)) (fun j hj => by
          rw [I8, if_neg]
          have hL := hD.1
          obtain ⟨-, -, d, -, -, -, hL6, -⟩ := hL
          omega)]
        exact blk b2 q1
      · obtain ⟨p1, p2, p3, p4⟩ := q2
        exact ⟨(eI 100 _ 12 k12 (Or.inl rfl)).trans p1, by rw [hJ]; exact p2, by rw [hJ]; exact p3, (eI 103 _ 12 k12 (Or.inl rfl)).trans p4⟩
      · exact (eI6 43).trans q3
      · exact (eI6 44).trans q4
      · exact (eI6 45).trans q5
      · exact (eI6 46).trans q6
      · exact (eI6 49).trans q6'
      · obtain ⟨p1, p2, p3⟩ := q7 z
        exact ⟨(eI 100 _ 13 k13 (Or.inr rfl)).trans p1, by rw [hJ]; exact p2, by rw [hJ]; exact p3⟩
      · rw [hP 47 _ (by omega) (by omega), eG 1 (by decide) (by decide)]; exact q8
      · rw [hP 48 _ (fun z => nD z.2) (by omega), eG 0 (by decide) (by decide)]; exact q9
  · rw [g0] at hi
    obtain ⟨c1, c2⟩ := c i (by omega)
    rw [gs i hi, hQ _ (ne_ro (u := 134) (v := 133) (by rw [k134]) (by rw [k133])), hK]
    exact ⟨c1, c2⟩
  · rw [eF] at hi hj
    by_cases ci : i = cF t <;> by_cases cj : j = cF t
    · omega
    · rw [ci, gc, gi j (by omega)] at e
      exact absurd e.symm (e4 j (by omega))
    · rw [cj, gc, gi i (by omega)] at e
      exact absurd e (e4 i (by omega))
    · rw [gi i (by omega), gi j (by omega)] at e
      exact e1 i j (by omega) (by omega) e
  · rw [g0] at hi hj
    rw [gs i hi, gs j hj] at e
    exact e2 i j (by omega) (by omega) e
  · rw [eF] at hi
    rw [g0] at hj
    rw [gs j hj]
    by_cases ci : i = cF t
    · rw [ci, gc]
      exact fun z => e5 j (by omega) z.symm
    · rw [gi i (by omega)]
      exact e3 i j (by omega) (by omega)
  · rw [eF] at hi
    rw [gD]
    by_cases ci : i = cF t
    · rw [ci, gc]; exact n1.symm
    · rw [gi i (by omega)]; exact n2 i (by omega)
  · rw [g0] at hi
    rw [gD, gs i hi]
    exact n3 i hi
end Fy
