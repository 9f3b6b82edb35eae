/-! Prefixes among the words. -/
/-- an address, a slash, a length: from a to b -/
def pxP (u : Nat → Nat) (a b : Nat) : Option (Int32 × Int64 × Int64 × Nat) := if fnd u 47 (b - a) a = b then none else match adP u a (fnd u 47 (b - a) a) with
  | none => none
  | some (a1, a2, a3) => match plM u (fnd u 47 (b - a) a + 1) b (if a1 = 4 then 32 else 128) with
    | none => none
    | some n => some (a1, a2, a3, n)
theorem plM_no {u : Nat → Nat} {f e m : Nat} (h : e < f + 1) : plM u f e m = none := by
  unfold plM
  rw [show plain u f e = none from if_neg (by omega)]
theorem plM_lt {u : Nat → Nat} {f e m v : Nat} (h : plM u f e m = some v) : v ≤ m ∧ v < 1000 := by
  unfold plM at h
  cases hp : plain u f e with
  | none => rw [hp] at h; cases h
  | some w =>
    rw [hp] at h
    have h : (if w ≤ m then some w else none) = some v := h
    split at h
    · cases h; exact ⟨by assumption, plain_lt hp⟩
    · cases h
section Px
variable {H : Nat → Nat → Nat} {sa : Nat → Nat} {rd x y kc ks : Nat} {s s1 : cS} {l : List Int32} {ws : List (Nat × Nat)} {Q : Int32 → cS → Nat → Nat → Prop}
theorem RdC.fp (h : RdC H x rd s l ws) (f : fp y s s1) (h1 : y ≠ H 220 x) (h2 : y ≠ rd) : RdC H x rd s1 l ws := by
  obtain ⟨⟨cap, hb⟩, ⟨o1, o2⟩, ⟨p1, p2⟩, ⟨a1, a2⟩, ⟨b1, b2⟩, ⟨w1, w2⟩, w3, w4⟩ := h
  refine ⟨⟨cap, f.b hb (fun e => h1 e.symm)⟩, ⟨f.o o1, f.o o2⟩, ?_, ?_, ?_, ⟨?_, ?_⟩, w3, w4⟩
  · rw [f.2.1]; exact ⟨p1, p2⟩
  · rw [f.1, f.2.1]; exact ⟨a1, a2⟩
  · rw [f.1, f.2.1]; exact ⟨b1, b2⟩
  · rw [(f.2.2.2.2 143 rd (fun e => h2 e.symm)).1]; exact w1
  · rw [f.2.2.1]; exact w2
/-- the length behind the slash -/
theorem w_len {b w cap f e : Nat} {a1 a4 : Int32} {a2 a3 : Int64} (hb : BL s b w l cap) (hy : okO s 5 y) (hp : PF s y a1 a2 a3 a4) (he : e ≤ l.length + 1) (hfe : f + 1 ≤ e → e ≤ l.length) (hf : f ≤ l.length + 1) (k0 : plM (vc l) f e (if a1 = 4 then 32 else 128) = none → Q 0 s kc ks) (k1 : ∀ n, plM (vc l) f e (if a1 = 4 then 32 else 128) = some n → ∀ s1, fp y s s1 → PF s1 y a1 a2 a3 (nI n) → Q 1 s1 kc ks) : C_Pr_parseLength sa y (some b) (nI f) (nI e) s kc ks Q := by
  unfold C_Pr_parseLength
  refine w_plain hb he hfe hf ?_
  unfold plM at k0 k1
  cases hpl : plain (vc l) f e with
  | none =>
    rw [hpl] at k0
    exact ifT (show (-1 : Int32) < 0 by decide) (k0 rfl)
  | some v =>
    rw [hpl] at k0 k1
    have hv := plain_lt hpl
    show if nI v < 0 then _ else _
    refine ifF (nI_pos (by omega)) ⟨_, gd_to hy, ?_⟩
    rw [show s.I (20 * 5 + 0) y = a1 from hp.1]
    unfold C_Pr_bitsOf
    have fin : ∀ m : Nat, m < 1000 → (if a1 = 4 then 32 else 128) = m → (if nI m < nI v then Q 0 s kc ks else ob (pI s 5 3 y (nI v)) fun s4 => Q 1 s4 kc ks) := by
      intro m hm em
      have k0 : (if v ≤ (if a1 = 4 then 32 else 128) then some v else none) = none → Q 0 s kc ks := k0
      have k1 : ∀ n, (if v ≤ (if a1 = 4 then 32 else 128) then some v else none) = some n → ∀ s1, fp y s s1 → PF s1 y a1 a2 a3 (nI n) → Q 1 s1 kc ks := k1
      rw [em] at k0 k1
      by_cases c : m < v
      · exact ifT (nI_lt c (by omega)) (k0 (if_neg (by omega)))
      · refine ifF (nI_nlt (by omega) (by omega)) ⟨_, gd_to hy, k1 v (if_pos (by omega)) _ fp.si ⟨?_, hp.2.1, hp.2.2.1, cSI_s⟩⟩
        rw [cSI_g (by decide)]; exact hp.1
    by_cases c4 : a1 = 4
    · exact ifT c4 (fin 32 (by decide) (if_pos c4))
    · exact ifF c4 (fin 128 (by decide) (if_neg c4))
end Px
