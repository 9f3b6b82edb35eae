/-! What holds of all that a function answers. -/
/-- of every answer -/
def aw {α : Type} (o : Option α) (P : α → Prop) : Prop := ∀ z, o = some z → P z
section Aw
variable {α β γ : Type} {P : α → Prop} {R : β → Prop}
theorem aw_t {o : Option α} : aw o (fun _ => True) := fun _ _ => trivial
theorem aw_some {z : α} (h : P z) : aw (some z) P := fun _ e => Option.some.inj e ▸ h
theorem aw_bind {o : Option α} {f : α → Option β} (h : aw o P) (k : ∀ y, P y → aw (f y) R) : aw (o.bind f) R := fun z e => by
  obtain ⟨y, e1, e2⟩ := ob_of e
  exact k y (h y e1) z e2
theorem aw_bn2 {o : Option (γ × α)} {f : γ → α → Option β} {P : γ × α → Prop} (h : aw o P) (k : ∀ x y, P (x, y) → aw (f x y) R) : aw (bn2 o f) R := fun z e => by
  obtain ⟨x, y, e1, e2⟩ := ob2_of e
  exact k x y (h _ e1) z e2
theorem aw_if {c : Prop} {d : Decidable c} {a b : Option α} (h1 : aw a P) (h2 : aw b P) : aw (@ite _ c d a b) P := by
  by_cases hc : c
  · rw [if_pos hc]; exact h1
  · rw [if_neg hc]; exact h2
theorem aw_xo {o : Option β} (h : aw o R) : aw (xo o : Option (α ⊕ β)) (Sum.elim P R) := fun z e => by
  cases o with
  | none => cases e
  | some b => cases e; exact h b rfl
theorem aw_let {a : γ} {f : γ → Option β} {P : γ → Prop} (h : P a) (k : ∀ y, P y → aw (f y) R) : aw (letS a f) R := k a h
theorem aw_nz {y : Int32} {e : Option β} (h : aw e R) : aw (nz y e) R := by
  unfold nz
  by_cases c : y = 0
  · rw [if_pos c]; intro z e; cases e
  · rw [if_neg c]; exact h
theorem aw_nzL {y : Int64} {e : Option β} (h : aw e R) : aw (nzL y e) R := by
  unfold nzL
  by_cases c : y = 0
  · rw [if_pos c]; intro z e; cases e
  · rw [if_neg c]; exact h
theorem aw_okZ {x : Int32} {e : Option β} (h : aw e R) : aw (okZ x e) R := by
  unfold okZ
  by_cases c : x = 0 ∨ x = 1
  · rw [if_pos c]; exact h
  · rw [if_neg c]; intro z e; cases e
theorem aw_lp {f : α → Option (α ⊕ β)} {x : α} {I : α → Prop} (h : I x) (k : ∀ y, I y → aw (f y) (Sum.elim I R)) : aw (lp f x) R := fun z e => by
  obtain ⟨n, hn⟩ := lp_of e
  have key : ∀ n x, I x → lpN f n x = some z → R z := by
    intro n
    induction n with
    | zero => intro x _ h; cases h
    | succ n ih =>
      intro x hx hn
      obtain ⟨y, h1, h2⟩ := lpN_s hn
      have h3 := k x hx y h1
      cases y with
      | inl y => exact ih y h3 h2
      | inr b => rw [← (show b = z from h2)]; exact h3
  exact key n x h hn
end Aw
def sbs (A B : List Nat) : Prop := (A.all fun u => B.contains u) = true
theorem sbs.m {A B : List Nat} (h : sbs A B) {u : Nat} (hu : u ∈ A) : u ∈ B := List.contains_iff_mem.mp (List.all_eq_true.mp h u hu)
theorem sbs.of {A B C : List Nat} (h : sbs B C) (g : (A.all fun u => B.contains u) = true) : sbs A C := List.all_eq_true.mpr fun u hu => List.contains_iff_mem.mpr (h.m (List.contains_iff_mem.mp (List.all_eq_true.mp g u hu)))
section Aw2
variable {W : List Nat} {t0 t : moS}
theorem aw_wrI {k : Nat} {i v : Int32} (hk : k ∈ W) (h : mfr W t0 t) : aw (wrI t k i v) (mfr W t0) := fun z e => by
  rw [(wrI_of e).2]; exact h.tr (mfr.si hk)
theorem aw_wrZ {k : Nat} {i v : Int32} (hk : k ∈ W) (h : mfr W t0 t) : aw (wrZ t k i v) (mfr W t0) := fun z e => by
  rw [(wrZ_of e).2]; exact h.tr (mfr.si hk)
theorem aw_wrJ {k : Nat} {i : Int32} {v : Int64} (hk : k ∈ W) (h : mfr W t0 t) : aw (wrJ t k i v) (mfr W t0) := fun z e => by
  rw [(wrJ_of e).2]; exact h.tr (mfr.sj hk)
def wM_say : List Nat := [7, 8]
theorem fM_say {c : Int32} (hW : sbs wM_say W) (h : mfr W t0 t) : aw (M_say t c) (mfr W t0) := fun z e => by
  have h7 := hW.m (u := 7) (by decide)
  have h8 := hW.m (u := 8) (by decide)
  unfold M_say at e
  split at e
  · cases e
  · cases e
    have hg : mfr W t (mgD t (t.S 8).toNatClampNeg) := by
      unfold mgD
      split
      · refine ⟨fun k hk => ⟨rfl, rfl, ?_, rfl⟩, fun k hk => ?_⟩
        · exact if_neg (fun e => hk (by rw [e]; exact h7))
        · exact if_neg (fun e => by rw [e] at hk; exact hk.elim (fun z => z h7) (fun z => z (by decide)))
      · exact mfr.rf
    exact ((h.tr hg).tr (mfr.si h7)).tr (mfr.ss h8)
def wM_growSources : List Nat := [102, 103, 104]
theorem mfr.ri {k n : Nat} {f : Nat → Int32} (h : k ∈ W) (hg : k ∈ mG) : mfr W t (mReI t k n f) := ⟨fun j hj => ⟨rfl, rfl, if_neg (show ¬ j = k from fun e => hj (by rw [e]; exact h)), rfl⟩, fun j hj => if_neg (show ¬ j = k from fun e => by rw [e] at hj; exact hj.elim (fun z => z h) (fun z => z hg))⟩
theorem mfr.rj {k n : Nat} {f : Nat → Int64} (h : k ∈ W) (hg : k ∈ mG) : mfr W t (mReJ t k n f) := ⟨fun j hj => ⟨rfl, rfl, rfl, if_neg (show ¬ j = k from fun e => hj (by rw [e]; exact h))⟩, fun j hj => if_neg (show ¬ j = k from fun e => by rw [e] at hj; exact hj.elim (fun z => z h) (fun z => z hg))⟩
theorem fM_growSources (hW : sbs wM_growSources W) (h : mfr W t0 t) : aw (M_growSources t) (mfr W t0) := fun z e => by
  unfold M_growSources at e
  split at e
  · cases e
  · cases e
    exact ((h.tr (mfr.ri (hW.m (u := 102) (by decide)) (by decide))).tr (mfr.rj (hW.m (u := 103) (by decide)) (by decide))).tr (mfr.rj (hW.m (u := 104) (by decide)) (by decide))
def wM_shown : List Nat := [5, 6, 7]
theorem moW_n {k : Nat} (h5 : k ≠ 5) (h7 : k ≠ 7) : moW k = k := by
  unfold moW
  rw [if_neg (by omega), if_neg (by omega)]
theorem fM_shown (hW : sbs wM_shown W) (h : mfr W t0 t) : aw (M_shown t) (fun z => mfr W t0 z.2) := fun z e => by
  cases e
  have m5 := hW.m (u := 5) (by decide)
  have m6 := hW.m (u := 6) (by decide)
  have m7 := hW.m (u := 7) (by decide)
  refine h.tr ⟨fun k hk => ⟨if_neg (show ¬ k = 6 from fun e => hk (by rw [e]; exact m6)), rfl, ?_, rfl⟩, fun k hk => ?_⟩
  · show t.I (moW k) = _
    rw [moW_n (k := k) (fun e => hk (by rw [e]; exact m5)) (fun e => hk (by rw [e]; exact m7))]
  · show t.N (moW k) = _
    rw [moW_n (fun e => by rw [e] at hk; exact hk.elim (fun z => z m5) (fun z => z (by decide))) (fun e => by rw [e] at hk; exact hk.elim (fun z => z m7) (fun z => z (by decide)))]
end Aw2
