/-! The sum in the class: the work made where there is none. -/
theorem tyF_28 {u g : Nat} {e : Nat × Nat} (h : tyF u g = some e) : g ≠ 28 := by
  unfold tyF at h
  split at h <;> first | (cases h; done) | decide
section Wl
variable {G H : Nat → Nat → Nat} {sa : Nat → Nat} {x kc ks c W S V q kx b w cap m : Nat} {s s' s1 : cS} {t t' : moS} {sha : Int32} {y l : List Int32}
/-- an array of the work that is new and stands nowhere -/
theorem rr_newW (h : RR G H sa x s t) (hM : MV t) {v : Ov} (e : HP sa s [(q, v)] s1) (hv : v.1.1 = 127) : RR G H sa x s1 t ∧ fr [] [] [] s s1 := by
  have ex := hp_ex e
  obtain ⟨z1, z2, z3⟩ := hp_at (L1 := []) e
  have hK : s1.K q = v.1 := ov_K z1
  have fresh : ∀ a, a ∈ [q] → cFr sa s a := fun a ha => by rw [List.mem_singleton.mp ha]; exact z2
  have f : fr [] [] [] s s1 := ex.fr (fun a ha => (fresh a ha).1)
  have ht : TK sa s1 := h.q.1.tk.ex ex (fun a ha => (fresh a ha).2)
  have only : ∀ a, nwd s s1 a → (s1.K a).1 = 127 := fun a ha => by
    have hm := ex.new ha
    rw [List.mem_singleton.mp hm]
    show (s1.K q).1 = 127
    rw [hK]
    exact hv
  have nO : ∀ c a, nwd s s1 a → okO s1 c a → False := fun c a ha ho => by
    have := only a ha
    have := ho.2.1
    omega
  refine ⟨rr_fr h hM (rgl_ext h.q.1.1 f ht ?_ ?_ ?_ ?_ ?_ ?_ ?_) f (mfr.rf (W := [])) rfl rfl rfl rfl rfl rfl rfl, f⟩
  · intro a ha g v n et
    have := only a ha
    have := (tyF_k et).2.1
    omega
  · exact fun a ha ho => (nO 0 a ha ho).elim
  · intro a ha h6
    have := only a ha
    omega
  · intro a ha h6
    have := only a ha
    omega
  · exact fun a ha ho => (nO 10 a ha ho).elim
  · exact fun a ha ho => (nO 1 a ha ho).elim
  · intro a i ha h6
    have := only a ha
    omega
/-- the work of a chain is another -/
theorem RGl.v7 (h : RGl G H sa x s) (hc : okO s 1 c) (hq : s.K q = (127, 792)) (hn : ∀ a, okO s 1 a → s.P 28 a ≠ some q) : RGl G H sa x (cSP s 28 c (some q)) := by
  obtain ⟨a1, a2, a3, a4, a5, a6, a7, a8, a9, a10, a11, a12, a13, a14, a15, a16, a17⟩ := h
  have pP : ∀ g a, g ≠ 28 → (cSP s 28 c (some q)).P g a = s.P g a := fun g a h1 => cSP_g h1
  have p8 : ∀ a d, (cSP s 28 c (some q)).P 28 a = some d → a = c ∧ d = q ∨ a ≠ c ∧ s.P 28 a = some d := fun a d h => by
    by_cases z : a = c
    · rw [z, cSP_s] at h
      exact Or.inl ⟨z, (Option.some.inj h).symm⟩
    · rw [cSP_a z] at h
      exact Or.inr ⟨z, h⟩
  have f : fr [] [(28, 4), (28, 5)] [] s (cSP s 28 c (some q)) := fr.sp (by
    rcases ok1 hc with h | h <;> rw [h] <;> decide)
  refine ⟨a1, ⟨fun a g v n hu et => ?_, a2.2.1, ?_⟩, a3, fun a ha => ?_, ?_, ?_, a7, a8, a9, fun a d ha e => ?_, fun a b d ha hb ea eb => ?_, fun a ha => ?_, a13, a14, a15, a16, a17⟩
  · rw [pP g a (tyF_28 et)]
    exact a2.1 a g v n hu et
  · exact a2.2.2
  · obtain ⟨l, hl⟩ := a4 a ha
    exact ⟨l, hl.fr f (a2.p ha 40 3).2 (by decide) (by decide) (by decide)⟩
  · exact a5
  · exact a6
  · rcases p8 a d e with ⟨-, rfl⟩ | ⟨-, e⟩
    · exact hq
    · exact a10 a d ha e
  · rcases p8 a d ea with ⟨z1, z2⟩ | ⟨z1, e1⟩ <;> rcases p8 b d eb with ⟨y1, y2⟩ | ⟨y1, e2⟩
    · rw [z1, y1]
    · rw [z2] at e2; exact absurd e2 (hn b hb)
    · rw [y2] at e1; exact absurd e1 (hn a ha)
    · exact a11 a b d ha hb e1 e2
  · exact a12 a ha
/-- the work is made -/
theorem rr_w28 (h : RR G H sa x s t) (hM : MV t) (hc : okO s 1 c) (e : HP sa s [(q, ov0 (127, 792))] s1) : RR G H sa x (cSP s1 28 c (some q)) t ∧ fr [] Pwk [] s (cSP s1 28 c (some q)) ∧ s1.K q = (127, 792) ∧ (s.K q).1 = 0 := by
  obtain ⟨z1, z2, -⟩ := hp_at (L1 := []) e
  obtain ⟨h1, f1⟩ := rr_newW h hM e rfl
  have kq : s1.K q = (127, 792) := ov_K z1
  have oc : okO s1 1 c := by unfold okO; rw [(f1 c hc.n0).1]; exact hc
  have f2 : fr [] Pwk [] s1 (cSP s1 28 c (some q)) := fr.sp (by
    rcases ok1 oc with h | h <;> rw [h] <;> decide)
  have hg : RGl G H sa x (cSP s1 28 c (some q)) := h1.q.1.1.v7 oc kq fun a ha ea => by
    have aq : a ≠ q := fun z => by
      have := ha.2.1
      rw [z, kq] at this
      exact absurd this (by decide)
    have ka := (hp_ex e a (by simp; exact aq)).1
    have ha' : okO s 1 a := by unfold okO at ha ⊢; rw [← ka]; exact ha
    rw [(f1 a ha'.n0).2.2.1 28 (by simp)] at ea
    have := h.q.1.1.2.2.2.2.2.2.2.2.2.1 a q ha' ea
    have z := z2.1
    rw [this] at z
    exact absurd z (by decide)
  exact ⟨rr_wk h1 hM hg f2.wk fun _ _ _ _ => rfl, f1.wk.tr f2, kq, z2.1⟩
/-- what a chain's work costs -/
def wkC (s : cS) (c : Nat) : Nat := if s.P 28 c = none then 1 else 0
theorem KY.fr {kx : Nat} (hk : KY c kx sha y s) (hc : okO s 1 c) (f : fr Rwk Pwk [] s s') : KY c kx sha y s' := by
  obtain ⟨h0, T4, T7, w, ⟨a1, a2, a3⟩, b1, b2, b3, b4, b5⟩ := hk
  have hp : ∀ g, g ≠ 28 → s'.P g c = s.P g c := fun g hg => (f c hc.n0).2.2.1 g (by
    intro z
    have := List.mem_cons.mp z
    rcases this with z | z
    · exact hg (congrArg Prod.fst z)
    · exact hg (congrArg Prod.fst (List.mem_singleton.mp z)))
  refine ⟨h0, T4, T7, w, ⟨by rw [hp 24 (by decide)]; exact a1, f.k a2, ?_⟩, by rw [hp 27 (by decide)]; exact b1, f.k b2, ?_, f.k b4, fun i hi => ?_⟩
  · rw [(f.v (a := T4) (u := 110) (by rw [a2]) (by decide)).2.2]; exact a3
  · rw [f.q (a := T7) (u := 142) (by rw [b2]) (by decide)]; exact b3
  · rw [(f.v (a := w) (u := 126) (by rw [b4]) (by decide)).2.2]; exact b5 i hi
/-- the sum of the first m bytes of a row, with a key -/
theorem c_sum {Q : cS → Nat → Nat → Prop} {u : Nat} (h : RR G H sa x s t) (hM : MV t) (hc : okO s 1 c) (hk : KY c kx sha y s) (hb : BL s b w l cap) (hu : (s.K b).1 = u ∧ u ∉ Rwk) (hw : w ∉ Rwk) (hcap : cap ≤ 8192) (hm : m ≤ l.length) (hm6 : m < 640) (hkc : wkC s c ≤ kc ∧ 792 * wkC s c ≤ ks) (k : ∀ s' kc' ks', RR G H sa x s' t → fr Rwk Pwk [] s s' → (∀ a, okO s 1 a → a ≠ c → s'.P 28 a = s.P 28 a) → s'.P 28 c ≠ none → kc = kc' + wkC s c ∧ ks = ks' + 792 * wkC s c → (∃ W S V s0, DW c W S V s0 s' ∧ KY c kx sha y s0 ∧ cst s' S = sumS sha (l.take m) (fun i => y.getD i 0)) → Q s' kc' ks') : C_Ch_sum sa c (some b) (nI m) (nI kx) s kc ks Q := by
  have main : ∀ s1 kc' ks', RR G H sa x s1 t → fr Rwk Pwk [] s s1 → (∀ a, okO s 1 a → a ≠ c → s1.P 28 a = s.P 28 a) → s1.P 28 c ≠ none → kc = kc' + wkC s c ∧ ks = ks' + 792 * wkC s c → C_Ch_sum_b16 sa c (some b) (nI m) (nI kx) s1 kc' ks' Q := by
    intro s1 kc' ks' h1 f1 o1 n1 e1
    have oc : okO s1 1 c := by unfold okO; rw [(f1 c hc.n0).1]; exact hc
    rcases hp : s1.P 28 c with _ | W
    · exact absurd hp n1
    have hT := h1.q.1.ty
    have kW := h1.q.1.1.2.2.2.2.2.2.2.2.2.1 c W oc hp
    have hd : DWo c W (H 30 c) (H 31 c) s1 := by
      rcases ok1 oc with z | z
      · exact ⟨oc, hp, (hT.r z 30 113 5).1, (hT.r z 31 119 80).1, kW, (hT.r z 30 113 5).2, (hT.r z 31 119 80).2⟩
      · exact ⟨oc, hp, (hT.r z 30 113 5).1, (hT.r z 31 119 80).1, kW, (hT.r z 30 113 5).2, (hT.r z 31 119 80).2⟩
    have k1 := hk.fr hc f1
    have b1 : BL s1 b w l cap := hb.fr f1 hu.1 hu.2 hw (by
      intro z
      have z := List.mem_cons.mp z
      rcases z with z | z
      · exact absurd (congrArg Prod.fst z) (by decide : (0 : Nat) ≠ 28)
      · exact absurd (congrArg Prod.fst (List.mem_singleton.mp z)) (by decide : (0 : Nat) ≠ 28))
    refine c_sum16 hd k1 b1 (fun z => hw (by rw [z]; decide)) hcap hm hm6 fun s2 d2 e2 => ?_
    have e2P := d2.2.1.2.1
    refine k s2 kc' ks' (rr_dw h1 hM d2) (f1.tr (dw_fr d2).wk) (fun a ha z => by rw [e2P]; exact o1 a ha z) (by rw [e2P]; exact n1) e1 ⟨W, _, _, s1, d2, k1, e2⟩
  unfold C_Ch_sum
  refine ⟨_, gd_to hc, ?_⟩
  by_cases z : s.P 28 c = none
  · have ew : wkC s c = 1 := if_pos z
    refine ifT z (hq_nwA (u := 127) (n := 792) (hp_rf (s := s)) (by decide) (by omega) (by omega) fun q s1 e => ?_)
    obtain ⟨z1, z2, -⟩ := hp_at (L1 := []) e
    obtain ⟨r1, r2, r3, r4⟩ := rr_w28 h hM hc e
    have cq : c ≠ q := fun z => hc.n0 (by rw [z]; exact z2.1)
    have oc : okO s1 1 c := by unfold okO; rw [(hp_ex e c (by simp; exact cq)).1]; exact hc
    refine ⟨_, gd_to oc, main _ _ _ r1 r2.wk (fun a ha ne => ?_) (by rw [cSP_s]; exact fun z => by cases z) (by omega)⟩
    rw [cSP_a ne]
    have aq : a ≠ q := fun z => ha.n0 (by rw [z]; exact z2.1)
    exact (hp_ex e a (by simp; exact aq)).2.2.2.1 28
  · have ew : wkC s c = 0 := if_neg z
    exact ifF z (main s kc ks h fr.rf (fun _ _ _ => rfl) z (by omega))
end Wl
