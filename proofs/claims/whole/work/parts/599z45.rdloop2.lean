/-! The lines of the tape, one after another: both sides. -/
abbrev Wrd : List Nat := 3 :: 4 :: 9 :: 10 :: 11 :: Wlu
section Rk
variable {sa : Nat → Nat} {x rd : Nat} {l : List Int32}
/-- how it goes on behind the lines: n bytes were left -/
def RdK (sa : Nat → Nat) (x : Nat) (G H : Nat → Nat → Nat) (s : cS) (t : moS) (Os : Nat → List Pf) (kc ks n : Nat) (o : Option (Int32 × moS)) (Q : Int32 → cS → Nat → Nat → Prop) : Prop := ∀ r t' Os' G' H' s' kc' ks', o = some (r, t') → MV t' → EX Os' t' → (∀ r, 14 * (Os' r).length ≤ 14 * (Os r).length + n + 14) → mfr Wrd t t' → t'.S 3 = 0 → (∀ i, ∃ d, d ≤ n ∧ t'.I 23 i = t.I 23 i + nI d) → RR G' H' sa x s' t' → kp x s s' → kc + PoC s' G' H' t' ≤ kc' + PoC s G H t + 16 * n + 64 → ks + PoS s' G' H' t' ≤ ks' + PoS s G H t + 300 * n + 1200 → Q r s' kc' ks'
variable {G H : Nat → Nat → Nat} {s : cS} {t : moS} {Os : Nat → List Pf} {kc ks : Nat} {a1 : Int32}
/-- the end -/
theorem rd_end {pos : Nat} {P28 : Int32 → Int32 → cS → Nat → Nat → Prop} (hR : RR G H sa x s t) (hM : MV t) (hE : EX Os t) (hl : l = tl (t.I 2) (t.S 3).toNatClampNeg) (hp : pos ≤ l.length + 1) (hend : l.length ≤ pos ∨ t.S 4 ≠ 0) {Q : Int32 → cS → Nat → Nat → Prop} (k : ∀ r t' s', M_read_b14 t a1 (nI pos) = some (r, t') → MV t' → EX Os t' → mfr [3] t t' → t'.S 3 = 0 → RR G H sa x s' t' → kp x s s' → s'.K = s.K → s'.P = s.P → Q r s' kc ks) : C_Rf_read_s28 sa x a1 (nI pos) s kc ks Q P28 := by
  obtain ⟨h4, e3, ⟨cap, hb⟩, hu⟩ := tape_of hR hM hl
  have hq := hR.q.1
  have hx := hq.1.1
  have h220 := hq.ty.p hx 220 1
  have o11 := okr hx 11
  obtain ⟨M1, R1, f1⟩ := rr_3 hR hM
  have m : mfr [3] t (moSS t 3 0) := mfr.ss (by decide)
  have E1 : EX Os (moSS t 3 0) := hE.of hM M1 rfl (fun _ _ => sEq.m m rfl) (fun _ _ z => z)
  have i224 : s.I 224 x = t.S 4 := hq.2.2.1.1
  have em : M_read_b14 t a1 (nI pos) = if t.S 4 = 0 then some (a1, moSS t 3 0) else some (-1 - a1, moSS t 3 0) := by
    unfold M_read_b14
    refine lp_x ?_
    show M_read_s14 t a1 (nI pos) = _
    have b103 : M_read_b103 t a1 = if t.S 4 = 0 then some (a1, moSS t 3 0) else some (-1 - a1, moSS t 3 0) := by
      unfold M_read_b103
      rfl
    unfold M_read_s14
    rw [e3]
    by_cases c1 : nI pos < nI l.length
    · rw [if_pos c1]
      have : t.S 4 ≠ 0 := by
        rcases hend with z | z
        · exact absurd c1 (nI_nlt (by omega) (by omega))
        · exact z
      rw [if_neg this, b103]
    · rw [if_neg c1, b103]
  -- the class
  have fin : C_Rf_read_b101 sa x a1 s kc ks Q := by
    unfold C_Rf_read_b101
    refine ⟨_, gd_to o11, _, h220.1, hb.1, c_clear hb.1 ?_⟩
    have o11' : okO (cSI s 1 (H 220 x) 0) 11 x := o11
    refine ⟨_, gd_to o11', ?_⟩
    have nx : x ≠ H 220 x := fun z => by
      have := h220.2
      rw [← z, hx] at this
      exact absurd this (by decide)
    rw [show (cSI s 1 (H 220 x) 0).I (20 * 11 + 4) x = t.S 4 from (cSI_o nx).trans i224]
    by_cases c : t.S 4 = 0
    · rw [if_pos c] at em
      exact ifT c (k _ _ _ em M1 E1 m moSS_s R1 (kp.e rfl rfl rfl) rfl rfl)
    · rw [if_neg c] at em
      exact ifF c (k _ _ _ em M1 E1 m moSS_s R1 (kp.e rfl rfl rfl) rfl rfl)
  unfold C_Rf_read_s28
  refine ⟨_, gd_to o11, _, h220.1, _, gd_to hb.1, ?_⟩
  rw [show s.I (20 * 0 + 1) (H 220 x) = nI l.length from hb.2.2.choose_spec.2.2.1]
  by_cases c1 : nI pos < nI l.length
  · refine ifT c1 ⟨_, gd_to o11, ?_⟩
    rw [show s.I (20 * 11 + 4) x = t.S 4 from i224]
    have : t.S 4 ≠ 0 := by
      rcases hend with z | z
      · exact absurd c1 (nI_nlt (by omega) (by omega))
      · exact z
    exact ifF this fin
  · exact ifF c1 fin
end Rk
