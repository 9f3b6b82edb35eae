/-! A table's array made wider. -/
theorem tyF_nt {u g : Nat} {e : Nat × Nat} (h : tyF u g = some e) : g ≠ 166 ∧ g ≠ 200 := by
  unfold tyF at h
  split at h <;> first | (cases h; done) | decide
theorem ok10 {s : cS} {a : Nat} (h : okO s 10 a) : (s.K a).1 = 27 ∨ (s.K a).1 = 28 ∨ (s.K a).1 = 29 := by
  obtain ⟨h1, h2, h3⟩ := h
  generalize (s.K a).1 = u at h1 h2 h3
  revert h3 h1
  revert u
  decide
/-- the wider array -/
def grV (u c n : Nat) (f : Nat → Option Nat) : Ov := ((u, c), fun _ => 0, fun _ => 0, fun _ => none, fun _ => 0, fun k => if k < n then f k else none)
section Gw
variable {G G' H : Nat → Nat → Nat} {sa : Nat → Nat} {x kc ks : Nat} {s s' s1 : cS} {t t' : moS} {tb w q u ur n hw mx cap : Nat} {g : Nat → Nat}
theorem RGl.v3 {Rv Rq : List Nat} {Gp : List (Nat × Nat)} (h : RGl G H sa x s) (hK : s'.K = s.K) (hP : ∀ g a, g ≠ 166 → g ≠ 200 → s'.P g a = s.P g a) (f : fr Rv Gp Rq s s') (d1 : dj [3, 129, 103] Rv) (d2 : djp [(0, 3)] Gp) (d3 : dj [142] Rq) (h5 : ∃ n, RTa s' (H 237 x) 144 25 n (G' 15 0) 2800 (fun j => G' 16 j)) (h9 : ∀ a b d, okO s 10 a → okO s 10 b → s'.P 200 a = some d → s'.P 200 b = some d → a = b) (h17 : ∀ a, okO s 10 a → ∃ d, s'.P 200 a = some d ∧ (s.K d).1 ≠ 0) : RGl G' H sa x s' := by
  obtain ⟨a1, a2, a3, a4, -, a6, a7, a8, a9, a10, a11, a12, a13, a14, a15, a16, a17⟩ := h
  have pP : ∀ g, g ≠ 166 → g ≠ 200 → s'.P g = s.P g := fun g h1 h2 => funext fun a => hP g a h1 h2
  refine ⟨by rw [hK]; exact a1, ⟨fun a g v n hu et => ?_, ?_, ?_⟩, ?_, fun a ha => ?_, h5, ?_, ?_, ?_, ?_, ?_, ?_, ?_, ?_, ?_, ?_, ?_, ?_⟩
  · rw [hK] at et ⊢
    have := tyF_nt et
    rw [hP g a this.1 this.2]
    exact a2.1 a g v n hu et
  · rw [hK]; exact a2.2.1
  · have := a2.2.2
    unfold okO at this ⊢
    rw [hK, pP 0 (by decide) (by decide)]
    exact this
  · unfold TK at a3 ⊢; rw [hK]; exact a3
  · rw [hK] at ha
    obtain ⟨l, hl⟩ := a4 a ha
    exact ⟨l, hl.fr f (a2.p ha 40 3).2 (d1.n 3) (d1.n 129) (d2.n (0, 3))⟩
  · rw [hK, pP 223 (by decide) (by decide)]; exact a6
  · rw [hK, pP 96 (by decide) (by decide)]; exact a7
  · rw [hK, pP 97 (by decide) (by decide)]; exact a8
  · unfold okO at h9 ⊢; rw [hK]; exact h9
  · unfold okO at a10 ⊢; rw [hK, pP 28 (by decide) (by decide)]; exact a10
  · unfold okO at a11 ⊢; rw [hK, pP 28 (by decide) (by decide)]; exact a11
  · unfold okO at a12 ⊢; rw [hK, pP 0 (by decide) (by decide)]; exact a12
  · intro a h1 k hk
    have h1 : okO s 1 a := by unfold okO at h1 ⊢; rw [← hK]; exact h1
    rw [hK, f.q (tyc a2 h1) (d3.n 142)]
    exact a13 a h1 k hk
  · intro a c k k' w' h1 h2 hk hk' e1 e2
    have h1 : okO s 1 a := by unfold okO at h1 ⊢; rw [← hK]; exact h1
    have h2 : okO s 1 c := by unfold okO at h2 ⊢; rw [← hK]; exact h2
    rw [f.q (tyc a2 h1) (d3.n 142)] at e1
    rw [f.q (tyc a2 h2) (d3.n 142)] at e2
    exact a14 a c k k' w' h1 h2 hk hk' e1 e2
  · intro a i h1 hi
    rw [hK] at h1
    rw [(f.v h1 (d1.n 103)).2.2]
    exact a15 a i h1 hi
  · rw [hK, pP 96 (by decide) (by decide), pP 97 (by decide) (by decide)]; exact a16
  · unfold okO at h17 ⊢; rw [hK]; exact h17
/-- an array of references that is new and stands nowhere -/
theorem rr_newQ (h : RR G H sa x s t) (hM : MV t) {v : Ov} (e : HP sa s [(q, v)] s1) (hv : 130 ≤ v.1.1 ∧ v.1.1 < 146) : RR G H sa x s1 t ∧ fr [] [] [] s s1 := by
  have ex := hp_ex e
  obtain ⟨z1, z2, z3⟩ := hp_at (L1 := []) e
  have hK : s1.K q = v.1 := ov_K z1
  have fresh : ∀ a, a ∈ [q] → cFr sa s a := fun a ha => by rw [List.mem_singleton.mp ha]; exact z2
  have f : fr [] [] [] s s1 := ex.fr (fun a ha => (fresh a ha).1)
  have ht : TK sa s1 := h.q.1.tk.ex ex (fun a ha => (fresh a ha).2)
  have only : ∀ a, nwd s s1 a → 130 ≤ (s1.K a).1 := fun a ha => by
    have hm := ex.new ha
    rw [List.mem_singleton.mp hm]
    show 130 ≤ (s1.K q).1
    rw [hK]
    exact hv.1
  have nO : ∀ c a, nwd s s1 a → okO s1 c a → False := fun c a ha ho => by
    have := only a ha
    have := ho.2.1
    omega
  refine ⟨rr_fr h hM (rgl_ext h.q.1.1 f ht ?_ ?_ ?_ ?_ ?_ ?_ ?_) f (mfr.rf (W := [])) rfl rfl rfl rfl rfl rfl rfl, f⟩
  · intro a ha g v n et
    have := only a ha
    have := (tyF_k et).2.1
    omega
  · exact fun a ha ho => (nO 0 a ha ho).elim
  · intro a ha h6
    have := only a ha
    omega
  · intro a ha h6
    have := only a ha
    omega
  · exact fun a ha ho => (nO 10 a ha ho).elim
  · exact fun a ha ho => (nO 1 a ha ho).elim
  · intro a i ha h6
    have := only a ha
    omega
/-- the loop that copies the rows -/
theorem w_b34 {p1 : Option Nat} {p2 p3 a4 : Int32} {Qk : Option Nat → cS → Nat → Nat → Prop} (h : RTa s tb u ur n hw mx g) (ho : okO s 10 tb) (hu : (130 ≤ u ∧ u < 146 ∧ cAk u = 8) ∧ 1 ≤ ur ∧ ur < 100 ∧ cKn ur = 8) (hmx : mx ≤ 2800) (hp : s.P 200 tb = some w) (hK : s.K w = (u, cap)) (hc : cap = n) (hq : cFr sa s q) (kk : ∀ s1, HP sa s [(q, grV u (2 * cap) n (s.Q w))] s1 → C_Ta_add_b67 sa tb p1 p2 p3 a4 (cSP s1 200 tb (some q)) kc ks Qk) : C_Ta_add_b34 sa tb p1 p2 p3 a4 (some q) 0 (cNw s q (u, 2 * cap)) kc ks Qk := by
  obtain ⟨a1, a2, a3, w', cap', b1, b2, b3, b4, b5, b6, b7, b8⟩ := h
  rw [hp] at b1
  cases b1
  rw [hK] at b2
  cases b2
  subst hc
  unfold C_Ta_add_b34
  intro P hP
  have tq : tb ≠ q := fun e => by
    have := ho.1
    rw [e, hq.1] at this
    exact absurd this (by decide)
  have wq : w ≠ q := fun e => by
    have := hq.1
    rw [← e, hK] at this
    have : u = 0 := this
    omega
  have loop : ∀ k i si, i + k = cap → HP sa s [(q, grV u (2 * cap) i (s.Q w))] si → P (nI i) si kc ks := by
    intro k
    induction k with
    | zero =>
      intro i si hi hh
      have e : i = cap := by omega
      subst e
      apply hP
      unfold C_Ta_add_s34
      have ex := hp_ex hh
      have et := ex tb (by simp; exact tq)
      have ho' : okO si 10 tb := by unfold okO; rw [et.1]; exact ho
      refine ⟨_, gd_to ho', ?_⟩
      rw [show si.I (20 * 10 + 1) tb = nI i from (et.2.1 201).trans a1]
      exact ifF (nI_nlt (by omega) (by omega)) ⟨_, gd_to ho', kk si hh⟩
    | succ k ih =>
      intro i si hi hh
      apply hP
      unfold C_Ta_add_s34
      have ex := hp_ex hh
      have et := ex tb (by simp; exact tq)
      have ew := ex w (by simp; exact wq)
      have ho' : okO si 10 tb := by unfold okO; rw [et.1]; exact ho
      refine ⟨_, gd_to ho', ?_⟩
      rw [show si.I (20 * 10 + 1) tb = nI cap from (et.2.1 201).trans a1]
      obtain ⟨y1, y2⟩ := b6 i (by omega)
      have gq : g i ≠ q := fun e => by
        have := hq.1
        rw [← e, y2] at this
        omega
      have eg := ex (g i) (by simp; exact gq)
      refine ifT (nI_lt (by omega) (by omega)) ⟨_, gd_to ho', w, (et.2.2.2.1 200).trans hp, _, gd_to ⟨by rw [ew.1, hK]; exact hu.1.1, by rw [ew.1, hK]; exact hu.1.2.1, by rw [ew.1, hK]; exact vp_in_nI (by omega) (by omega)⟩, q, rfl, ?_⟩
      rw [nI_clamp (by omega), ew.2.2.2.2.2, y1]
      refine hq_wQ (L1 := []) (c := 8) hh (by unfold okO; rw [eg.1, y2]; exact hu.2) (n := 2 * cap) (by omega) (by omega) rfl (fun s' h' => ?_) ⟨hu.1.1, hu.1.2.1, by show cAk u < 99; rw [hu.1.2.2]; decide, hu.1.2.2⟩
      rw [show nI i + 1 = nI (i + 1) from nI_add i 1]
      refine ih (i + 1) s' (by omega) ?_
      have e : ovQ (grV u (2 * cap) i (s.Q w)) i (some (g i)) = grV u (2 * cap) (i + 1) (s.Q w) := by
        unfold ovQ grV
        refine Prod.ext rfl (Prod.ext rfl (Prod.ext rfl (Prod.ext rfl (Prod.ext rfl (funext fun k => ?_)))))
        show (if k = i then some (g i) else if k < i then s.Q w k else none) = if k < i + 1 then s.Q w k else none
        by_cases c : k = i
        · rw [if_pos c, if_pos (by omega), c, y1]
        · rw [if_neg c]
          by_cases c2 : k < i
          · rw [if_pos c2, if_pos (by omega)]
          · rw [if_neg c2, if_neg (by omega)]
      rw [← e]
      exact h'
  refine loop cap 0 _ (by omega) ?_
  have := hp_nw (hp_rf (sa := sa) (s := s)) hq (u := (u, 2 * cap)) (by show u ≠ 0; omega)
  have e : grV u (2 * cap) 0 (s.Q w) = ov0 (u, 2 * cap) := by
    unfold grV ov0
    refine Prod.ext rfl (Prod.ext rfl (Prod.ext rfl (Prod.ext rfl (Prod.ext rfl (funext fun k => ?_)))))
    show (if k < 0 then s.Q w k else none) = none
    exact if_neg (by omega)
  rw [e]
  exact this
/-- every table is what it was -/
theorem ta_grow (hp : s.P 200 tb = some w) (hK : s.K w = (u, cap)) (h1 : s.I 201 tb = nI n) (hc : cap = n) (hn : n ≤ 2800) (hq : (s.K q).1 = 0) (hu : u ≠ 0) (e : HP sa s [(q, grV u (2 * cap) n (s.Q w))] s1) {tb' u' ur' n' hw' mx' : Nat} {g' : Nat → Nat} (ha : RTa s tb' u' ur' n' hw' mx' g') (hmx : mx' ≤ 2800) (h0 : (s.K tb').1 ≠ 0 ∧ u' ≠ 0 ∧ ur' ≠ 0) : RTa (cSP s1 200 tb (some q)) tb' u' ur' n' hw' mx' g' := by
  have ex := hp_ex e
  have z1 := (hp_at (L1 := []) e).1
  have old : ∀ a, (s.K a).1 ≠ 0 → s1.K a = s.K a ∧ (∀ g, s1.I g a = s.I g a) ∧ (∀ g, s1.P g a = s.P g a) ∧ s1.Q a = s.Q a := fun a ha => by
    obtain ⟨x1, x2, x3, x4, x5, x6⟩ := ex a (fun z => ha (by
      have : a = q := List.mem_singleton.mp z
      rw [this]; exact hq))
    exact ⟨x1, x2, x4, x6⟩
  obtain ⟨a1, a2, a3, w', cap', b1, b2, b3, b4, b5, b6, b7, b8⟩ := ha
  have o1 := old tb' h0.1
  have ow := old w' (by rw [b2]; exact h0.2.1)
  have og : ∀ j, j < hw' → (s1.K (g' j)).1 = ur' := fun j hj => by
    have := (b6 j hj).2
    rw [(old (g' j) (by rw [this]; exact h0.2.2)).1]
    exact this
  by_cases c : tb' = tb
  · subst c
    rw [hp] at b1
    cases b1
    rw [hK] at b2
    cases b2
    have en : n = n' := nI_inj (by rw [← h1]; exact a1) (by omega) (by omega)
    subst en
    subst hc
    refine ⟨(o1.2.1 201).trans a1, a2, a3, q, 2 * cap, cSP_s, ov_K z1, by omega, by omega, by omega, fun j hj => ⟨?_, og j hj⟩, fun j hj => ?_, b8⟩
    · show s1.Q q j = _
      rw [ov_Q z1]
      show (if j < cap then s.Q w j else none) = _
      rw [if_pos (by omega)]
      exact (b6 j hj).1
    · show s1.Q q j = _
      rw [ov_Q z1]
      show (if j < cap then s.Q w j else none) = _
      exact if_neg (by omega)
  · refine ⟨(o1.2.1 201).trans a1, a2, a3, w', cap', ?_, ow.1.trans b2, b3, b4, b5, fun j hj => ⟨?_, og j hj⟩, fun j hj => ?_, b8⟩
    · show (cSP s1 200 tb (some q)).P 200 tb' = _
      rw [cSP_a c]
      exact (o1.2.2.1 200).trans b1
    · show s1.Q w' j = _
      rw [ow.2.2.2]
      exact (b6 j hj).1
    · show s1.Q w' j = _
      rw [ow.2.2.2]
      exact b7 j hj
theorem rr_grow (h : RR G H sa x s t) (hM : MV t) (ho : okO s 10 tb) (hp : s.P 200 tb = some w) (hK : s.K w = (u, cap)) (h1 : s.I 201 tb = nI n) (hc : cap = n) (hn : n ≤ 2800) (hu : 130 ≤ u ∧ u < 146) (e : HP sa s [(q, grV u (2 * cap) n (s.Q w))] s1) : RR G H sa x (cSP s1 200 tb (some q)) t := by
  obtain ⟨z1, z2, -⟩ := hp_at (L1 := []) e
  obtain ⟨h1', f1⟩ := rr_newQ h hM e hu
  have kq : s1.K q = (u, 2 * cap) := ov_K z1
  have tr : ∀ {tb' u' ur' n' hw' mx' : Nat} {g' : Nat → Nat}, RTa s tb' u' ur' n' hw' mx' g' → mx' ≤ 2800 → ((s.K tb').1 ≠ 0 ∧ u' ≠ 0 ∧ ur' ≠ 0) → RTa (cSP s1 200 tb (some q)) tb' u' ur' n' hw' mx' g' := fun ha hm h0 => ta_grow hp hK h1 hc hn z2.1 (by omega) e ha hm h0
  have ho1 : okO s1 10 tb := by unfold okO; rw [(f1 tb ho.n0).1]; exact ho
  have f2 : fr [] [(200, 27), (200, 28), (200, 29)] [] s1 (cSP s1 200 tb (some q)) := fr.sp (by
    rcases ok10 ho1 with c | c | c <;> rw [c] <;> decide)
  have q0 := h.q.1
  have q1 := h1'.q.1
  have hx := q1.1.1
  have hT := q1.ty
  have old10 : ∀ a, okO s1 10 a → okO s 10 a := fun a ha => by
    have : a ≠ q := fun z => by
      have := ha.2.1
      rw [z, kq] at this
      have : u < 100 := this
      omega
    have := (hp_ex e a (by simp; exact this)).1
    unfold okO at ha ⊢
    rw [← this]
    exact ha
  have hg : RGl G H sa x (cSP s1 200 tb (some q)) := by
    refine RGl.v3 q1.1 rfl (fun g a h1 h2 => cSP_g h2) f2 rfl rfl rfl ?_ (fun a b d ha hb ea eb => ?_) fun a ha => ?_
    · obtain ⟨m, hm⟩ := q0.1.2.2.2.2.1
      exact ⟨m, tr hm (by decide) ⟨by rw [(q0.ty.p q0.1.1 237 29).2]; decide, by decide, by decide⟩⟩
    · have no : ∀ b, okO s1 10 b → s1.P 200 b = some q → False := fun b hb eb => by
        have ob := old10 b hb
        rw [(f1 b ob.n0).2.2.1 200 (by simp)] at eb
        obtain ⟨d', y1, y2⟩ := q0.1.2.2.2.2.2.2.2.2.2.2.2.2.2.2.2.2 b ob
        rw [y1] at eb
        cases eb
        exact y2 z2.1
      by_cases c1 : a = tb
      · by_cases c2 : b = tb
        · rw [c1, c2]
        · exfalso
          rw [c1, cSP_s] at ea
          cases ea
          rw [cSP_a c2] at eb
          exact no b hb eb
      · by_cases c2 : b = tb
        · exfalso
          rw [c2, cSP_s] at eb
          cases eb
          rw [cSP_a c1] at ea
          exact no a ha ea
        · rw [cSP_a c1] at ea
          rw [cSP_a c2] at eb
          exact q1.1.2.2.2.2.2.2.2.2.1 a b d ha hb ea eb
    · by_cases c1 : a = tb
      · rw [c1, cSP_s]
        exact ⟨q, rfl, by rw [kq]; show u ≠ 0; omega⟩
      · rw [cSP_a c1]
        exact q1.1.2.2.2.2.2.2.2.2.2.2.2.2.2.2.2.2 a ha
  refine rr_tb h1' hM (fun _ _ => rfl) hg q1.2.1 f2.wk (mfr.rf (W := Wtb)) (fun r hr => ⟨rfl, rfl⟩) fun r hr => ?_
  obtain ⟨i1, i2, i3, -⟩ := q1.2.2.2.2.2.1 r hr
  obtain ⟨j1, j2, j3, -⟩ := q0.2.2.2.2.2.1 r hr
  have k1 := j1.1.1
  refine ⟨i1.fr hT hx f2 hg.2.2.1 (mfr.rf (W := [])) rfl rfl rfl rfl, ⟨tr j2.1 (by decide) ⟨by rw [(q0.ty.p k1 186 27).2]; decide, by decide, by decide⟩, fun j hj => ?_, i2.2.2⟩, ⟨tr j3.1 (by decide) ⟨by rw [(q0.ty.p k1 187 28).2]; decide, by decide, by decide⟩, i3.2.1, i3.2.2⟩⟩
  have := i2.2.1 j hj
  unfold RW at this ⊢
  rw [show (cSP s1 200 tb (some q)).P 166 (G 4 (2700 * r + j)) = s1.P 166 (G 4 (2700 * r + j)) from cSP_g (by decide)]
  exact this
end Gw
