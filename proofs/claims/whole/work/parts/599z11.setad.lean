/-! An address is set; states mixed of two. -/
/-- the fields of W from the one, the rest from the other -/
def mixT (W : List Nat) (t t' : moS) : moS := (fun k => if k ∈ W then t'.S k else t.S k, fun k => if k ∈ W then t'.Z k else t.Z k, fun k => if k ∈ W then t'.I k else t.I k, fun k => if k ∈ W then t'.J k else t.J k, t'.N)
section Mi
variable {G H : Nat → Nat → Nat} {sa : Nat → Nat} {x kc ks r p : Nat} {s s' : cS} {t t' : moS} {W W' : List Nat} {Q : cS → Nat → Nat → Prop}
theorem mix_m (m : mfr W' t t') (hW' : ∀ k, k ∈ W' → k ∉ mG) : mfr W t (mixT W t t') := by
  refine ⟨fun k hk => ⟨if_neg hk, if_neg hk, if_neg hk, if_neg hk⟩, fun k _ => ?_⟩
  by_cases c : k ∈ W'
  · exact m.2 k (Or.inr (hW' k c))
  · exact m.2 k (Or.inl c)
theorem mix_r (m : mfr W' t t') {W2 : List Nat} (h : ∀ k, k ∈ W' → k ∉ W → k ∈ W2) : mfr W2 (mixT W t t') t' := by
  refine ⟨fun k hk => ?_, fun _ _ => rfl⟩
  by_cases c : k ∈ W
  · exact ⟨(if_pos c).symm, (if_pos c).symm, (if_pos c).symm, (if_pos c).symm⟩
  · have q := m.1 k (fun y => hk (h k y c))
    exact ⟨q.1.trans (if_neg c).symm, q.2.1.trans (if_neg c).symm, q.2.2.1.trans (if_neg c).symm, q.2.2.2.trans (if_neg c).symm⟩
theorem mix_I {k : Nat} (h : k ∈ W) : (mixT W t t').I k = t'.I k := if_pos h
theorem mix_J {k : Nat} (h : k ∈ W) : (mixT W t t').J k = t'.J k := if_pos h
theorem exq.pf {q : Nat} {u w : Int32} {a b : Int64} : exq q s (cSpf s q u a b w) := exq.si.tr (exq.sj.tr (exq.sj.tr exq.si))
theorem c_setAd (h : RR G H sa x s t) (hM : MV t) (hr : r < cR t) (hp : p < cI t r) {f pa : Nat} {hh ll : Int64} {nn : Int32} (hf : f = 0 ∨ f = 1) (opa : okO s 5 pa) (hPF : PF s pa (fam (nI f)) hh ll nn) (hn : rng nn 0 (if f = 0 then 32 else 128)) (m : mfr [75, 76, 77, 78] t t') (o : ∀ i, i ≠ 2 * (4 * r + p) + f → t'.I 75 i = t.I 75 i ∧ t'.J 76 i = t.J 76 i ∧ t'.J 77 i = t.J 77 i ∧ t'.I 78 i = t.I 78 i) (v5 : t'.I 75 (2 * (4 * r + p) + f) = 1) (v6 : t'.J 76 (2 * (4 * r + p) + f) = hh) (v7 : t'.J 77 (2 * (4 * r + p) + f) = ll) (v8 : t'.I 78 (2 * (4 * r + p) + f) = nn) (hkc : 1 ≤ kc) (hks : 4 ≤ ks) (k : ∀ s2, RR G H sa x s2 t' → MV t' → fr [] [(81, 8), (82, 8)] [] s s2 → Q s2 (kc - 1) (ks - 4)) : C_Po_setAddress sa (G 2 (4 * r + p)) (some pa) s kc ks Q := by
  have o4 := okr (h.q.1.po hr hp).1.1 4
  unfold C_Po_setAddress
  refine w_newP 14 hkc hks (by decide) fun z s1 hz hK e ho => ?_
  have zpa : pa ≠ z := fun y => opa.n0 (by rw [y]; exact hz.1)
  have zpo : G 2 (4 * r + p) ≠ z := fun y => o4.n0 (by rw [y]; exact hz.1)
  have opa1 : okO s1 5 pa := by unfold okO; rw [(e pa zpa).1]; exact opa
  refine ⟨ho, w_copy ho opa1 ?_⟩
  generalize hs2 : cSpf s1 z (s1.I 100 pa) (s1.J 101 pa) (s1.J 102 pa) (s1.I 103 pa) = s2
  have e2 : exq z s s2 := by rw [← hs2]; exact e.tr exq.pf
  have K2 : s2.K z = (14, 0) := by rw [← hs2]; exact hK
  have o2 : okO s2 5 z := by rw [← hs2]; exact ho
  have o24 : okO s2 4 (G 2 (4 * r + p)) := by unfold okO; rw [(e2 _ zpo).1]; exact o4
  have P2 : PF s2 z (fam (nI f)) hh ll nn := by
    obtain ⟨f1, f2, f3, f4⟩ := hPF
    have q := e pa zpa
    have := spf_s (s := s1) (a := z) (u := s1.I 100 pa) (w := s1.I 103 pa) (h := s1.J 101 pa) (o := s1.J 102 pa)
    rw [hs2, q.2.1, q.2.1, q.2.2.1, q.2.2.1, f1, f2, f3, f4] at this
    exact this
  obtain ⟨R2, fr2⟩ := rr_newP h hM hz K2 e2 (Or.inl rfl)
  obtain ⟨R3, M3, fr3⟩ := rr_adr R2 hM hr hp hf (by rw [K2]) P2 hn m o v5 v6 v7 v8
  have fin := k _ R3 M3 (fr2.wk.tr fr3)
  refine ⟨_, gd_to o2, ?_⟩
  rw [show s2.I (20 * 5 + 0) z = fam (nI f) from P2.1]
  rcases hf with rfl | rfl
  · exact ifT rfl ⟨_, gd_to o24, fin⟩
  · exact ifF (by decide) ⟨_, gd_to o24, fin⟩
end Mi
