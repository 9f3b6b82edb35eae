/-! A prefix that is new; a prefix read on both sides. -/
/-- all but q is as it was -/
def exq (q : Nat) (s s' : cS) : Prop := ∀ a, a ≠ q → s'.K a = s.K a ∧ (∀ g, s'.I g a = s.I g a) ∧ (∀ g, s'.J g a = s.J g a) ∧ (∀ g, s'.P g a = s.P g a) ∧ s'.E a = s.E a ∧ s'.Q a = s.Q a
section Np
variable {G H : Nat → Nat → Nat} {sa : Nat → Nat} {rd x kc ks : Nat} {s s1 s2 : cS} {t t' : moS} {l : List Int32} {ws : List (Nat × Nat)}
theorem exq.tr {q : Nat} (h : exq q s s1) (g : exq q s1 s2) : exq q s s2 := fun a ha => by
  obtain ⟨x1, x2, x3, x4, x5, x6⟩ := h a ha
  obtain ⟨y1, y2, y3, y4, y5, y6⟩ := g a ha
  exact ⟨y1.trans x1, fun g => (y2 g).trans (x2 g), fun g => (y3 g).trans (x3 g), fun g => (y4 g).trans (x4 g), y5.trans x5, y6.trans x6⟩
theorem exq.nw {q : Nat} {u : Nat × Nat} : exq q s (cNw s q u) := fun a ha => ⟨cNw_kn ha, fun _ => cNw_in ha, fun _ => cNw_jn ha, fun _ => cNw_pn ha, cNw_en ha, cNw_qn ha⟩
theorem exq.si {q g : Nat} {v : Int32} : exq q s (cSI s g q v) := fun a ha => ⟨rfl, fun _ => cSI_o ha, fun _ => rfl, fun _ => rfl, rfl, rfl⟩
theorem cSJ_o {g k a b : Nat} {v : Int64} (h : b ≠ a) : (cSJ s g a v).J k b = s.J k b := by
  by_cases c : k = g
  · subst c; exact cSJ_a h
  · exact cSJ_g c
theorem exq.sj {q g : Nat} {v : Int64} : exq q s (cSJ s g q v) := fun a ha => ⟨rfl, fun _ => rfl, fun _ => cSJ_o ha, fun _ => rfl, rfl, rfl⟩
theorem exq.fr {q : Nat} (h : exq q s s1) (hq : (s.K q).1 = 0) : fr [] [] [] s s1 := fun a ha => by
  have hne : a ≠ q := fun e => ha (by rw [e]; exact hq)
  obtain ⟨x1, x2, x3, x4, x5, x6⟩ := h a hne
  exact ⟨x1, fun _ => ⟨x2, x3, x5⟩, fun g _ => x4 g, fun _ => x6⟩
theorem w_newP {F : Nat → cS → Nat → Nat → Prop} (u : Nat) (hk : 1 ≤ kc) (hs : 4 ≤ ks) (hu : 1 ≤ u ∧ u < 100 ∧ cKn u = 5) (k : ∀ q s1, cFr sa s q → s1.K q = (u, 0) → exq q s s1 → okO s1 5 q → F q s1 (kc - 1) (ks - 4)) : nwO sa s kc ks 5 4 (fun q sq cq dq => okO sq 5 q ∧ C_Pr_init sa q sq cq dq (fun sr cr dr => F q sr cr dr)) := by
  refine ⟨hk, hs, u, hu, fun q hq => ?_⟩
  have hK : (cNw s q (u, 0)).K q = (u, 0) := cNw_ks
  have ho : okO (cNw s q (u, 0)) 5 q := by unfold okO; rw [hK]; exact hu
  refine ⟨ho, ?_⟩
  unfold C_Pr_init
  exact ⟨_, gd_to ho, _, gd_to ho, _, gd_to ho, _, gd_to ho, k q _ hq hK (exq.nw.tr (exq.si.tr (exq.sj.tr (exq.sj.tr exq.si)))) ho⟩
/-- one more object that leads nowhere -/
theorem rr_newP (h : RR G H sa x s t) (hM : MV t) {q u : Nat} (hq : cFr sa s q) (hK : s1.K q = (u, 0)) (e : exq q s s1) (hu : u = 14 ∨ u = 15 ∨ u = 16 ∨ u = 17) : RR G H sa x s1 t ∧ fr [] [] [] s s1 := by
  have f := e.fr hq.1
  have only : ∀ a, nwd s s1 a → a = q := fun a ha => by
    by_cases c : a = q
    · exact c
    · exact absurd ((e a c).1 ▸ ha.2) (fun z => z ha.1)
  have hno : ∀ g, tyF u g = none := by
    intro g
    unfold tyF
    rcases hu with rfl | rfl | rfl | rfl <;> rfl
  have hk5 : cKn u = 5 := by rcases hu with rfl | rfl | rfl | rfl <;> rfl
  have nk : ∀ c a, nwd s s1 a → okO s1 c a → c = 5 := fun c a ha ho => by
    have := only a ha
    subst this
    have z := ho.2.2
    rw [hK] at z
    exact z.symm.trans hk5
  have nu : ∀ a, nwd s s1 a → (s1.K a).1 = u := fun a ha => by
    have := only a ha
    subst this
    rw [hK]
  have ht : TK sa s1 := fun k hk => by
    have hne : sa k ≠ q := hq.2 k hk
    rw [(e (sa k) hne).1]
    exact h.q.1.tk k hk
  refine ⟨rr_fr h hM (rgl_ext h.q.1.1 f ht ?_ ?_ ?_ ?_ ?_ ?_ ?_) f (mfr.rf (W := [])) rfl rfl rfl rfl rfl rfl rfl, f⟩
  · intro a ha g v n et
    rw [nu a ha, hno g] at et
    cases et
  · exact fun a ha ho => absurd (nk 0 a ha ho) (by decide)
  · intro a ha h6
    rw [nu a ha] at h6
    rcases hu with z | z | z | z <;> rw [h6] at z <;> exact absurd z (by decide)
  · intro a ha h6
    rw [nu a ha] at h6
    rcases hu with z | z | z | z <;> rw [h6] at z <;> exact absurd z (by decide)
  · exact fun a ha ho => absurd (nk 10 a ha ho) (by decide)
  · exact fun a ha ho => absurd (nk 1 a ha ho) (by decide)
  · intro a i ha h6
    rw [nu a ha] at h6
    rcases hu with z | z | z | z <;> rw [h6] at z <;> exact absurd z (by decide)
theorem pxP_n {u : Nat → Nat} {a b n : Nat} {a1 : Int32} {a2 a3 : Int64} (h : pxP u a b = some (a1, a2, a3, n)) : n ≤ if a1 = 4 then 32 else 128 := by
  unfold pxP at h
  split at h
  · cases h
  · cases e : adP u a (fnd u 47 (b - a) a) with
    | none => rw [e] at h; cases h
    | some v =>
      obtain ⟨b1, b2, b3⟩ := v
      rw [e] at h
      have h : (match plM u (fnd u 47 (b - a) a + 1) b (if b1 = 4 then 32 else 128) with
        | none => none
        | some n => some (b1, b2, b3, n)) = some (a1, a2, a3, n) := h
      cases e2 : plM u (fnd u 47 (b - a) a + 1) b (if b1 = 4 then 32 else 128) with
      | none => rw [e2] at h; cases h
      | some m =>
        rw [e2] at h
        cases h
        exact (plM_lt e2).1
/-- what a line says as a prefix -/
def isP (t : moS) (f : Int32) (a b : Int64) (m : Nat) : Prop := t.S 12 = f ∧ bit f ∧ t.Z 13 = a ∧ t.Z 14 = b ∧ t.S 15 = nI m ∧ m ≤ (if f = 0 then 32 else 128)
theorem isP.ln {f : Int32} {a b : Int64} {m : Nat} (h : isP t f a b m) : lnOk f (nI m) := ⟨h.2.1, m, rfl, Nat.zero_le _, h.2.2.2.2.2⟩
theorem isP.mf {f : Int32} {a b : Int64} {m : Nat} {W : List Nat} (h : isP t f a b m) (mm : mfr W t t') (d : dj [12, 13, 14, 15] W) : isP t' f a b m := by
  unfold isP
  rw [mm.S 12 (d.n 12), mm.Z 13 (d.n 13), mm.Z 14 (d.n 14), mm.S 15 (d.n 15)]
  exact h
theorem fam4 {f : Int32} (h : bit f) : (if fam f = 4 then 32 else 128) = (if f = 0 then 32 else 128 : Nat) := by
  rcases h with e | e <;> rw [e] <;> rfl
theorem px_both (h : LX G H sa x rd s t l ws) {i : Nat} (hi : i < ws.length) (h24 : i < 24) : (∃ t1, M_isPrefixWord t (nI i) = some (0, t1) ∧ mfr [12, 13, 14, 15, 16] t t1 ∧ ∀ Q : Int32 → cS → Nat → Nat → Prop, (∀ s1, fp (H 146 rd) s s1 → Q 0 s1 kc ks) → C_Re_takePrefix sa rd (nI i) 0 s kc ks Q) ∨ ∃ t1 f a b m, M_isPrefixWord t (nI i) = some (1, t1) ∧ mfr [12, 13, 14, 15, 16] t t1 ∧ isP t1 f a b m ∧ mpre a b (nI m) ∧ ∀ Q : Int32 → cS → Nat → Nat → Prop, (∀ s1, fp (H 146 rd) s s1 → PF s1 (H 146 rd) (fam f) a b (nI m) → Q 1 s1 kc ks) → C_Re_takePrefix sa rd (nI i) 0 s kc ks Q := by
  obtain ⟨p1, p2, p3, p4, p5⟩ := h.px
  obtain ⟨r, t1, e1, e2, e3⟩ := m_pword h.2.2.2.2.2 h.n9.2.2 h.n9.1 h.n9.2.1 h.2.2.2.2.1 hi (by have := h.nw; omega) (show ws.getD i (0, 0) = ((ws.getD i (0, 0)).1, (ws.getD i (0, 0)).2) from rfl) (h.b hi).1 (h.b hi).2
  rcases e3 with ⟨rfl, hn⟩ | ⟨rfl, a1, a2, a3, m, hp, hm, b1, b2, b3, b4, b5⟩
  · refine Or.inl ⟨t1, e1, e2, fun Q k => w_takeP h.rc p1 p3 p4 p5 (by omega) (fun _ s1 f1 => k s1 f1) (fun _ _ a1 a2 a3 n hp hm s1 _ _ => absurd (hm rfl) (hn a1 a2 a3 n hp))⟩
  · refine Or.inr ⟨t1, t1.S 12, a2, a3, m, e1, e2, ⟨rfl, b1, b3, b4, b5, ?_⟩, hm, fun Q k => w_takeP h.rc p1 p3 p4 p5 (by omega) (fun z s1 f1 => ?_) (fun _ _ c1 c2 c3 n hp' _ s1 f1 hf => ?_)⟩
    · have := pxP_n hp
      rw [b2, fam4 b1] at this
      exact this
    · have := z hi h24 a1 a2 a3 m hp
      exact absurd hm this.2
    · rw [hp] at hp'
      cases hp'
      rw [b2] at hf
      exact k s1 f1 hf
end Np
