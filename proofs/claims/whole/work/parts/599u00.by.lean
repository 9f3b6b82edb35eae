/-! Rows of bytes that are written: what stands in them, what stays. -/
theorem ifT {c a b : Prop} {d : Decidable c} (h : c) (k : a) : @ite _ c d a b := by rw [if_pos h]; exact k
theorem ifF {c a b : Prop} {d : Decidable c} (h : ¬ c) (k : b) : @ite _ c d a b := by rw [if_neg h]; exact k
def sb (x : Int32) : Int32 := x.toInt8.toInt32
theorem sb_255 (x : Int32) : sb (x &&& 255) = sb x := by
  unfold sb
  rw [Int32.toInt8_and, show (255 : Int32).toInt8 = -1 by decide, Int8.and_neg_one]
theorem sb_sb (x : Int32) : sb (sb x) = sb x := by
  unfold sb
  rw [Int8.toInt8_toInt32]
theorem and_255 (x : Int32) : (x &&& 255) &&& 255 = x &&& 255 := by
  rw [Int32.and_assoc]; rfl
theorem sb_and (x : Int32) : sb x &&& 255 = x &&& 255 := by
  apply Int32.toBitVec_inj.mp
  unfold sb
  rw [Int32.toBitVec_and, Int32.toBitVec_and]
  apply BitVec.eq_of_getLsbD_eq
  intro i hi
  rw [BitVec.getLsbD_and, BitVec.getLsbD_and]
  by_cases h : i < 8
  · have : (Int8.toInt32 (Int32.toInt8 x)).toBitVec.getLsbD i = x.toBitVec.getLsbD i := by
      show (BitVec.signExtend 32 (BitVec.signExtend 8 x.toBitVec)).getLsbD i = _
      rw [BitVec.getLsbD_signExtend, BitVec.getLsbD_signExtend]
      simp [h, hi]
    rw [this]
  · have : (255 : Int32).toBitVec.getLsbD i = false := by
      have key : ∀ i, i < 32 → ¬ i < 8 → (255 : Int32).toBitVec.getLsbD i = false := by decide
      exact key i hi h
    rw [this, Bool.and_false, Bool.and_false]
theorem gd_l {l m : List Int32} {i : Nat} (h : i < l.length) : (l ++ m).getD i 0 = l.getD i 0 := by
  rw [List.getD_eq_getElem?_getD, List.getD_eq_getElem?_getD, List.getElem?_append_left h]
theorem gd_r {l m : List Int32} {i : Nat} (h : l.length ≤ i) : (l ++ m).getD i 0 = m.getD (i - l.length) 0 := by
  rw [List.getD_eq_getElem?_getD, List.getD_eq_getElem?_getD, List.getElem?_append_right h]
theorem nI_mul (a b : Nat) : nI a * nI b = nI (a * b) := (Int32.ofNat_mul a b).symm
/-- what stays: at all old addresses the sort, and but for those of A all -/
def fx (A : Nat → Prop) (s s' : cS) : Prop := ∀ a, (s.K a).1 ≠ 0 → s'.K a = s.K a ∧ (¬ A a → (∀ g, s'.I g a = s.I g a) ∧ (∀ g, s'.J g a = s.J g a) ∧ (∀ g, s'.P g a = s.P g a) ∧ s'.E a = s.E a ∧ s'.Q a = s.Q a)
section Fx
variable {A B : Nat → Prop} {s s1 s2 : cS}
theorem fx.rf : fx A s s := fun _ _ => ⟨rfl, fun _ => ⟨fun _ => rfl, fun _ => rfl, fun _ => rfl, rfl, rfl⟩⟩
theorem fx.tr (h : fx A s s1) (g : fx A s1 s2) : fx A s s2 := by
  intro a ha
  obtain ⟨h1, h2⟩ := h a ha
  obtain ⟨g1, g2⟩ := g a (by rw [h1]; exact ha)
  refine ⟨by rw [g1, h1], fun hA => ?_⟩
  obtain ⟨a1, a2, a3, a4, a5⟩ := h2 hA
  obtain ⟨b1, b2, b3, b4, b5⟩ := g2 hA
  exact ⟨fun g => by rw [b1, a1], fun g => by rw [b2, a2], fun g => by rw [b3, a3], by rw [b4, a4], by rw [b5, a5]⟩
theorem fx.wk (h : fx A s s1) (hAB : ∀ a, (s.K a).1 ≠ 0 → A a → B a) : fx B s s1 := fun a ha => ⟨(h a ha).1, fun hb => (h a ha).2 fun x => hb (hAB a ha x)⟩
theorem fx.si {g a : Nat} {v : Int32} (hA : A a) : fx A s (cSI s g a v) := fun b _ => ⟨rfl, fun hb => ⟨fun g' => by
  have hn : b ≠ a := fun e => hb (e ▸ hA)
  by_cases hg : g' = g
  · subst hg; exact cSI_a hn
  · exact cSI_g hg, fun _ => rfl, fun _ => rfl, rfl, rfl⟩⟩
theorem fx.sj {g a : Nat} {v : Int64} (hA : A a) : fx A s (cSJ s g a v) := fun b _ => ⟨rfl, fun hb => ⟨fun _ => rfl, fun g' => by
  have hn : b ≠ a := fun e => hb (e ▸ hA)
  by_cases hg : g' = g
  · subst hg; exact cSJ_a hn
  · exact cSJ_g hg, fun _ => rfl, rfl, rfl⟩⟩
theorem fx.sp {g a : Nat} {v : Option Nat} (hA : A a) : fx A s (cSP s g a v) := fun b _ => ⟨rfl, fun hb => ⟨fun _ => rfl, fun _ => rfl, fun g' => by
  have hn : b ≠ a := fun e => hb (e ▸ hA)
  by_cases hg : g' = g
  · subst hg; exact cSP_a hn
  · exact cSP_g hg, rfl, rfl⟩⟩
theorem fx.se {a i : Nat} {v : Int32} (hA : A a) : fx A s (cSE s a i v) := fun b _ => ⟨rfl, fun hb => ⟨fun _ => rfl, fun _ => rfl, fun _ => rfl, cSE_a (fun e => hb (e ▸ hA)), rfl⟩⟩
theorem fx.sq {a i : Nat} {v : Option Nat} (hA : A a) : fx A s (cSQ s a i v) := fun b _ => ⟨rfl, fun hb => ⟨fun _ => rfl, fun _ => rfl, fun _ => rfl, rfl, cSQ_a (fun e => hb (e ▸ hA))⟩⟩
theorem fx.nw {q : Nat} {t : Nat × Nat} (hq : (s.K q).1 = 0) : fx A s (cNw s q t) := fun b hb => by
  have hn : b ≠ q := fun e => hb (e ▸ hq)
  exact ⟨cNw_kn hn, fun _ => ⟨fun _ => cNw_in hn, fun _ => cNw_jn hn, fun _ => cNw_pn hn, cNw_en hn, cNw_qn hn⟩⟩
/-- at what is new all may change -/
theorem fx.or (h : fx A s s1) (g : fx B s1 s2) (hAB : ∀ a, (s.K a).1 ≠ 0 → B a → A a) : fx A s s2 := by
  intro a ha
  obtain ⟨h1, h2⟩ := h a ha
  obtain ⟨g1, g2⟩ := g a (by rw [h1]; exact ha)
  refine ⟨by rw [g1, h1], fun hA => ?_⟩
  obtain ⟨a1, a2, a3, a4, a5⟩ := h2 hA
  obtain ⟨b1, b2, b3, b4, b5⟩ := g2 (fun hb => hA (hAB a ha hb))
  exact ⟨fun g => by rw [b1, a1], fun g => by rw [b2, a2], fun g => by rw [b3, a3], by rw [b4, a4], by rw [b5, a5]⟩
theorem fx.o (h : fx A s s1) {c a : Nat} (ha : okO s c a) : okO s1 c a := by
  unfold okO at ha ⊢
  rw [(h a (by omega)).1]
  exact ha
theorem okO.si {g a c x : Nat} {v : Int32} (h : okO s c x) : okO (cSI s g a v) c x := h
theorem okO.sj {g a c x : Nat} {v : Int64} (h : okO s c x) : okO (cSJ s g a v) c x := h
theorem okO.sp {g a c x : Nat} {v : Option Nat} (h : okO s c x) : okO (cSP s g a v) c x := h
theorem okO.se {a i c x : Nat} {v : Int32} (h : okO s c x) : okO (cSE s a i v) c x := h
theorem okO.sq {a i c x : Nat} {v : Option Nat} (h : okO s c x) : okO (cSQ s a i v) c x := h
theorem okO.n0 {c x : Nat} (h : okO s c x) : (s.K x).1 ≠ 0 := by unfold okO at h; omega
theorem okO.nw {q c x : Nat} {t : Nat × Nat} (h : okO s c x) (hq : (s.K q).1 = 0) : okO (cNw s q t) c x := (fx.nw (A := fun _ => False) hq).o h
/-- constant texts stand where nothing is ours -/
def TK (sa : Nat → Nat) (s : cS) : Prop := ∀ k, k < kTx.length → (s.K (sa k)).1 = 0
theorem TK.nw {sa : Nat → Nat} {q : Nat} {t : Nat × Nat} (h : TK sa s) (hq : cFr sa s q) : TK sa (cNw s q t) := fun k hk => by
  rw [cNw_kn (hq.2 k hk)]; exact h k hk
end Fx
/-- the row of bytes b holds l, in an array of sort w with cap places -/
def BL (s : cS) (b w : Nat) (l : List Int32) (cap : Nat) : Prop := okO s 0 b ∧ (100 ≤ w ∧ w < 130 ∧ cAT w = .byte) ∧ ∃ d, s.P 0 b = some d ∧ s.K d = (w, cap) ∧ s.I 1 b = nI l.length ∧ l.length ≤ cap ∧ 16 ≤ cap ∧ cap ≤ 262144 ∧ ∀ i, i < l.length → s.E d i = sb (l.getD i 0) ∧ l.getD i 0 &&& 255 = l.getD i 0
/-- how many places a row of bytes has -/
def capOf (s : cS) (b : Nat) : Nat := (s.K ((s.P 0 b).getD 0)).2
/-- b is being written: it holds l; at most F bytes will come; what it costs is paid -/
def AP (sa : Nat → Nat) (b w F L : Nat) (s0 : cS) (k0 m0 : Nat) (l : List Int32) (s : cS) (kc ks : Nat) : Prop := ∃ cap d, (okO s 0 b ∧ (100 ≤ w ∧ w < 130 ∧ cAT w = .byte) ∧ s.P 0 b = some d ∧ s.K d = (w, cap) ∧ s.I 1 b = nI l.length ∧ l.length ≤ cap ∧ 16 ≤ cap ∧ cap ≤ L ∧ ∀ i, i < l.length → s.E d i = sb (l.getD i 0) ∧ l.getD i 0 &&& 255 = l.getD i 0) ∧ (F ≤ cap ∨ 2 * F ≤ L) ∧ L ≤ 262144 ∧ ((L ≤ k0 ∧ 2 * L ≤ m0) ∧ capOf s0 b ≤ cap) ∧ k0 ≤ 16 * kc + cap ∧ m0 ≤ ks + 2 * cap ∧ TK sa s ∧ fx (fun a => a = b ∨ s0.P 0 b = some a) s0 s ∧ (s0.P 0 b = some d ∨ (s0.K d).1 = 0) ∧ (okO s0 0 b ∧ ∃ d0, s0.P 0 b = some d0 ∧ (s0.K d0).1 = w) ∧ (∀ a, (s0.K a).1 ≠ 0 → s.Q a = s0.Q a ∧ ∀ g, ¬ (g = 0 ∧ a = b) → s.P g a = s0.P g a) ∧ ∀ a, (s0.K a).1 = 0 → (s.K a).1 = 0 ∨ (s.K a).1 = w
section Ap
variable {sa : Nat → Nat} {b w F L k0 m0 : Nat} {s0 s : cS} {l : List Int32} {kc ks : Nat} {Q : cS → Nat → Nat → Prop}
theorem BL.ap {cap : Nat} (h : BL s b w l cap) (hF : F ≤ cap ∨ 2 * F ≤ L) (hL : L ≤ 262144) (hcL : cap ≤ L) (h1 : L ≤ 16 * kc + cap) (h2 : 2 * L ≤ ks + 2 * cap) (ht : TK sa s) : AP sa b w F L s (16 * kc + cap) (ks + 2 * cap) l s kc ks := by
  obtain ⟨a1, a2, d, a3, a4, a5, a6, a7, a8, a9⟩ := h
  exact ⟨cap, d, ⟨a1, a2, a3, a4, a5, a6, a7, hcL, a9⟩, hF, hL, ⟨⟨h1, h2⟩, by unfold capOf; rw [a3]; show (s.K d).2 ≤ cap; rw [a4]; exact Nat.le_refl _⟩, Nat.le_refl _, Nat.le_refl _, ht, fx.rf, Or.inl a3, ⟨a1, d, a3, by rw [a4]⟩, ⟨fun _ _ => ⟨rfl, fun _ _ => rfl⟩, fun _ ha => Or.inl ha⟩⟩
theorem AP.bl (h : AP sa b w F L s0 k0 m0 l s kc ks) : ∃ cap, (BL s b w l cap ∧ cap ≤ L) ∧ k0 ≤ 16 * kc + cap ∧ m0 ≤ ks + 2 * cap ∧ TK sa s ∧ fx (fun a => a = b ∨ s0.P 0 b = some a) s0 s ∧ (∀ d, s.P 0 b = some d → s0.P 0 b = some d ∨ (s0.K d).1 = 0) := by
  obtain ⟨cap, d, ⟨a1, a2, a3, a4, a5, a6, a7, a8, a9⟩, hF, hL, hk, h1, h2, ht, hx, hd, -⟩ := h
  exact ⟨cap, ⟨⟨a1, a2, d, a3, a4, a5, a6, a7, Nat.le_trans a8 hL, a9⟩, a8⟩, h1, h2, ht, hx, fun d' e => by rw [a3] at e; cases e; exact hd⟩
theorem AP.mon (h : AP sa b w F L s0 k0 m0 l s kc ks) : capOf s0 b ≤ capOf s b := by
  obtain ⟨cap, d, ⟨a1, a2, a3, a4, a5, a6, a7, a8, a9⟩, hF, hL, hk, -⟩ := h
  have e : capOf s b = cap := by
    unfold capOf
    rw [a3]
    show (s.K d).2 = cap
    rw [a4]
  rw [e]
  exact hk.2
/-- a byte behind, where there is room -/
theorem ap_b53 {v : Int32} {cap d : Nat} (hR : okO s 0 b ∧ (100 ≤ w ∧ w < 130 ∧ cAT w = .byte) ∧ s.P 0 b = some d ∧ s.K d = (w, cap) ∧ s.I 1 b = nI l.length ∧ l.length ≤ cap ∧ 16 ≤ cap ∧ cap ≤ L ∧ ∀ i, i < l.length → s.E d i = sb (l.getD i 0) ∧ l.getD i 0 &&& 255 = l.getD i 0) (hF : F ≤ cap ∨ 2 * F ≤ L) (hL : L ≤ 262144) (hk : (L ≤ k0 ∧ 2 * L ≤ m0) ∧ capOf s0 b ≤ cap) (h1 : k0 ≤ 16 * kc + cap) (h2 : m0 ≤ ks + 2 * cap) (ht : TK sa s) (hx : fx (fun a => a = b ∨ s0.P 0 b = some a) s0 s) (hd : s0.P 0 b = some d ∨ (s0.K d).1 = 0) (h0 : okO s0 0 b ∧ ∃ d0, s0.P 0 b = some d0 ∧ (s0.K d0).1 = w) (hg : (∀ a, (s0.K a).1 ≠ 0 → s.Q a = s0.Q a ∧ ∀ g, ¬ (g = 0 ∧ a = b) → s.P g a = s0.P g a) ∧ ∀ a, (s0.K a).1 = 0 → (s.K a).1 = 0 ∨ (s.K a).1 = w) (hlt : l.length < cap) (k : ∀ s', AP sa b w F L s0 k0 m0 (l ++ [v &&& 255]) s' kc ks → Q s' kc ks) : C_By_add_b53 sa b v s kc ks Q := by
  obtain ⟨a1, a2, a3, a4, a5, a6, a7, a8, a9⟩ := hR
  have hlen : (nI l.length).toNatClampNeg = l.length := nI_clamp (by omega)
  have hdb : d ≠ b := fun e => by
    subst e
    have := a1.2.1
    rw [a4] at this
    omega
  unfold C_By_add_b53
  refine ⟨_, gd_to a1, _, gd_to a1, d, a3, _, gd_to ⟨by rw [a4]; exact a2.1, by rw [a4]; exact a2.2.1, by rw [a4]; exact a2.2.2, by rw [a4]; show vp_in (s.I 1 b) cap; rw [a5]; exact vp_in_nI hlt (by omega)⟩, _, gd_to a1.se, _, gd_to a1.se, ?_⟩
  apply k
  show AP sa b w F L s0 k0 m0 (l ++ [v &&& 255]) (cSI (cSE s d (s.I 1 b).toNatClampNeg (sb (sb v))) 1 b (s.I 1 b + 1)) kc ks
  rw [a5, hlen, sb_sb, nI_1]
  refine ⟨cap, d, ⟨a1, a2, a3, a4, ?_, ?_, a7, a8, ?_⟩, hF, hL, hk, h1, h2, ht, ?_, hd, h0, hg⟩
  · rw [List.length_append]; exact cSI_s
  · rw [List.length_append]; exact hlt
  · intro i hi
    rw [List.length_append] at hi
    have e : (cSI (cSE s d l.length (sb v)) 1 b (nI (l.length + 1))).E d i = if i = l.length then sb v else s.E d i := by
      show (if d = d then upd (s.E d) l.length (sb v) else s.E d) i = _
      rw [if_pos rfl]; rfl
    rw [e]
    by_cases hi2 : i = l.length
    · subst hi2
      rw [if_pos rfl, gd_r (Nat.le_refl _), Nat.sub_self]
      exact ⟨(sb_255 v).symm, and_255 v⟩
    · have hi3 : i < l.length := by simp only [List.length_cons, List.length_nil] at hi; omega
      rw [if_neg hi2, gd_l hi3]
      exact a9 i hi3
  · have f1 : fx (fun a => a = d) s (cSE s d l.length (sb v)) := fx.se rfl
    have f2 : fx (fun a => a = b) (cSE s d l.length (sb v)) (cSI (cSE s d l.length (sb v)) 1 b (nI (l.length + 1))) := fx.si rfl
    refine (hx.or f1 ?_).or f2 (fun a _ e => Or.inl e)
    intro a ha e
    subst e
    rcases hd with hd | hd
    · exact Or.inr hd
    · exact absurd hd ha
end Ap
