/-! An address with its length, both sides. -/
section Aw
variable {G H : Nat → Nat → Nat} {sa : Nat → Nat} {rd x kc ks : Nat} {s : cS} {t t1 : moS} {l : List Int32} {ws : List (Nat × Nat)}
theorem aw_both (h : LX G H sa x rd s t l ws) {i : Nat} (hi : i < ws.length) (h24 : i < 24) : (∃ t1, M_isAddressWithLength t (nI i) = some (0, t1) ∧ mfr [12, 13, 14, 15, 16] t t1 ∧ ∀ kc ks, ∀ Q : Int32 → cS → Nat → Nat → Prop, (∀ s1, fp (H 146 rd) s s1 → Q 0 s1 kc ks) → C_Re_takePrefix sa rd (nI i) 1 s kc ks Q) ∨ ∃ t1 f a b m, M_isAddressWithLength t (nI i) = some (1, t1) ∧ mfr [12, 13, 14, 15, 16] t t1 ∧ isP t1 f a b m ∧ ∀ kc ks, ∀ Q : Int32 → cS → Nat → Nat → Prop, (∀ s1, fp (H 146 rd) s s1 → PF s1 (H 146 rd) (fam f) a b (nI m) → Q 1 s1 kc ks) → C_Re_takePrefix sa rd (nI i) 1 s kc ks Q := by
  obtain ⟨p1, p2, p3, p4, p5⟩ := h.px
  obtain ⟨r, t1, e1, e2, e3⟩ := m_awl h.2.2.2.2.2 h.n9.2.2 h.n9.1 h.n9.2.1 h.2.2.2.2.1 hi (by have := h.nw; omega) (show ws.getD i (0, 0) = ((ws.getD i (0, 0)).1, (ws.getD i (0, 0)).2) from rfl) (h.b hi).1 (h.b hi).2
  cases ep : pxP (vc l) (ws.getD i (0, 0)).1 (ws.getD i (0, 0)).2 with
  | none =>
    rw [ep] at e3
    have e3 : r = 0 := e3
    rw [e3] at e1
    refine Or.inl ⟨t1, e1, e2, fun kc ks Q k => w_takeP h.rc p1 p3 p4 p5 (by omega) (fun _ s1 f1 => k s1 f1) (fun _ _ a1 a2 a3 n hp => ?_)⟩
    rw [ep] at hp
    cases hp
  | some y =>
    obtain ⟨a1, a2, a3, m⟩ := y
    rw [ep] at e3
    obtain ⟨e3, b1, b2, b3, b4, b5⟩ := e3
    rw [e3] at e1
    refine Or.inr ⟨t1, t1.S 12, a2, a3, m, e1, e2, ⟨rfl, b1, b3, b4, b5, ?_⟩, fun kc ks Q k => w_takeP h.rc p1 p3 p4 p5 (by omega) (fun z s1 f1 => ?_) (fun _ _ c1 c2 c3 n hp' _ s1 f1 hf => ?_)⟩
    · have := pxP_n ep
      rw [b2, fam4 b1] at this
      exact this
    · have := z hi h24 a1 a2 a3 m ep
      exact absurd this.1 (by decide)
    · rw [ep] at hp'
      cases hp'
      rw [b2] at hf
      exact k s1 f1 hf
end Aw
