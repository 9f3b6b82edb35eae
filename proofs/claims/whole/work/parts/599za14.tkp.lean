/-! An entry's prefix, in the class. -/
theorem nb_2 {g : Nat → Int32} {a : Nat} (h0 : isB (g a)) (h1 : isB (g (a + 1))) : nbF g a 2 0 = 2 ↔ g a = 0 ∧ g (a + 1) = 2 := by
  obtain ⟨b0, l0, e0⟩ := h0
  obtain ⟨b1, l1, e1⟩ := h1
  have st : ∀ {A b : Nat} {v : Int32}, v = nI b → A < 2 ^ 32 → b < 256 → (Int64.ofNat A <<< ((Int32.toInt64 (8 : Int32)) &&& 63)) ||| Int32.toInt64 v = Int64.ofNat (A * 256 + b) := fun {A b v} e hA hb => by
    rw [e, nI_L (by omega), show (8 : Int32) = nI 8 from rfl, L_sh 8 (by decide) (by omega)]
    exact L_or 8 (by omega) (by omega) (by omega)
  have e : nbF g a 2 0 = Int64.ofNat (b0 * 256 + b1) := by
    show (((Int64.ofNat 0 <<< _) ||| Int32.toInt64 (g a)) <<< _) ||| Int32.toInt64 (g (a + 1)) = _
    rw [st e0 (by omega) l0, st e1 (by omega) l1, Nat.zero_mul, Nat.zero_add]
  rw [e, e0, e1]
  constructor
  · intro h
    have := congrArg (fun z : Int64 => z.toBitVec.toNat) h
    have this : (Int64.ofNat (b0 * 256 + b1)).toBitVec.toNat = 2 := this
    rw [L_toNat, Nat.mod_eq_of_lt (by omega)] at this
    have z0 : b0 = 0 := by omega
    have z1 : b1 = 2 := by omega
    subst z0; subst z1
    exact ⟨rfl, rfl⟩
  · rintro ⟨h, h'⟩
    have z0 : b0 = 0 := nI_inj32 (by omega) (by decide) (h.trans (show (0 : Int32) = nI 0 from rfl))
    have z1 : b1 = 2 := nI_inj32 (by omega) (by decide) (h'.trans (show (2 : Int32) = nI 2 from rfl))
    subst z0; subst z1
    rfl
section Tk
variable {sa : Nat → Nat} {A e b cap i kc ks : Nat} {s : cS} {L : List Int32} {Q : Int32 → cS → Nat → Nat → Prop}
theorem tk_fr {f : Nat} {g : Nat → Int32} (ke : (s.K e).1 = 18) : fr [18] [] [] s (tkS s e f g i) := ((fr.si (by rw [ke]; decide)).tr (fr.si (by show (s.K e).1 ∈ _; rw [ke]; decide))).tr ((fr.sj (by show (s.K e).1 ∈ _; rw [ke]; decide)).tr (fr.sj (by show (s.K e).1 ∈ _; rw [ke]; decide)))
theorem c_tk6 (kA : (s.K A).1 = 6) (i44 : s.I 44 A = 6) (p40 : s.P 40 A = some b) (kb : (s.K b).1 = 3) (hb : BL s b 129 L cap) (ke : (s.K e).1 = 18) (hi : i + 20 ≤ L.length) (k1 : peK (fun j => L.getD j 0) 1 i → ∀ s', s'.K = s.K → s'.P = s.P → fr [18] [] [] s s' → PF s' e 6 (peH (fun j => L.getD j 0) 1 i) (peL (fun j => L.getD j 0) 1 i) (peN (fun j => L.getD j 0) 1 i) → Q 1 s' kc ks) (k0 : ¬ peK (fun j => L.getD j 0) 1 i → ∀ s', s'.K = s.K → s'.P = s.P → fr [18] [] [] s s' → Q 0 s' kc ks) : C_Da_takePrefix sa A (nI i) (some e) s kc ks Q := by
  have hL := hb.sm
  have oA := okr kA 2
  have oe := okr ke 5
  have ne : b ≠ e := ne_ro kb ke
  generalize hg : (fun j => L.getD j 0) = g at k1 k0
  have gv : g (i + 18) = nI (vc L (i + 18)) := by rw [← hg]; exact hb.gv (by omega)
  have q1 : peH g 1 i = hiF g i 1 := by unfold peH; rw [if_neg (by decide)]
  have q2 : peL g 1 i = loF g i 1 := by unfold peL; rw [if_neg (by decide)]
  have q3 : peN g 1 i = g (i + 18) := by unfold peN; rw [if_neg (by decide)]
  have eK : peK g 1 i ↔ ¬ (128 : Int32) < g (i + 18) ∧ mpre (hiF g i 1) (loF g i 1) (g (i + 18)) := by
    unfold peK
    rw [if_neg (by decide), q1, q2]
  rw [q1, q2, q3] at k1
  unfold C_Da_takePrefix
  refine ⟨_, gd_to oA, ?_⟩
  rw [show s.I (20 * 2 + 4) A = 6 from i44]
  refine ifT rfl ⟨_, gd_to oA, e, rfl, oe, ?_⟩
  rw [show s.P (20 * 2 + 0) A = some b from p40]
  refine c_take (f := 1) oe hb ne (Or.inr rfl) (by omega) ?_
  rw [hg]
  have f1 : fr [18] [] [] s (tkS s e 1 g i) := tk_fr ke
  have v1 : PF (tkS s e 1 g i) e (fam (nI 1)) (hiF g i 1) (loF g i 1) 128 := tk_s
  have hK1 : (tkS s e 1 g i).K = s.K := rfl
  have hP1 : (tkS s e 1 g i).P = s.P := rfl
  generalize tkS s e 1 g i = s1 at f1 v1 hK1 hP1 ⊢
  have hb1 : BL s1 b 129 L cap := hb.fr f1 kb (by decide) (by decide) (by decide)
  refine ⟨_, gd_to (okr (u := 6) (by rw [hK1]; exact kA) 2), b, by rw [show s1.P (20 * 2 + 0) A = s.P 40 A by rw [hP1]]; exact p40, okr (u := 3) (by rw [hK1]; exact kb) 0, ?_⟩
  rw [show nI i + 18 = nI (i + 18) from nI_add i 18]
  refine w_at hb1 (by omega) ?_
  rw [← gv]
  have o1 : okO s1 5 e := okr (u := 18) (by rw [hK1]; exact ke) 5
  have f2 : fr [18] [] [] s1 (cSI s1 103 e (g (i + 18))) := fr.si (by rw [hK1, ke]; decide)
  have v2 : PF (cSI s1 103 e (g (i + 18))) e 6 (hiF g i 1) (loF g i 1) (g (i + 18)) := by
    obtain ⟨a1, a2, a3, a4⟩ := v1
    exact ⟨by rw [cSI_g (by decide)]; exact a1, a2, a3, cSI_s⟩
  refine ⟨_, gd_to o1, ?_⟩
  show (if (128 : Int32) < g (i + 18) then Q 0 (cSI s1 103 e (g (i + 18))) kc ks else _)
  have hK2 : (cSI s1 103 e (g (i + 18))).K = s.K := hK1
  have hP2 : (cSI s1 103 e (g (i + 18))).P = s.P := hP1
  generalize cSI s1 103 e (g (i + 18)) = s2 at f2 v2 hK2 hP2 ⊢
  by_cases c : (128 : Int32) < g (i + 18)
  · exact ifT c (k0 (fun z => (eK.mp z).1 c) s2 hK2 hP2 (f1.tr f2))
  · refine ifF c ⟨okr (u := 18) (by rw [hK2]; exact ke) 5, w_behind (okr (u := 18) (by rw [hK2]; exact ke) 5) (fun z => ifT rfl ?_) fun z => ifF (by decide) ?_⟩
    · rw [v2.2.1, v2.2.2.1, v2.2.2.2] at z
      exact k1 (eK.mpr ⟨c, z⟩) s2 hK2 hP2 (f1.tr f2) v2
    · rw [v2.2.1, v2.2.2.1, v2.2.2.2] at z
      exact k0 (fun y => z (eK.mp y).2) s2 hK2 hP2 (f1.tr f2)
theorem c_tk4 (kA : (s.K A).1 = 6) (i44 : s.I 44 A = 4) (p40 : s.P 40 A = some b) (kb : (s.K b).1 = 3) (hb : BL s b 129 L cap) (ke : (s.K e).1 = 18) (hi : i + 20 ≤ L.length) (k1 : peK (fun j => L.getD j 0) 0 i → ∀ s', s'.K = s.K → s'.P = s.P → fr [18] [] [] s s' → PF s' e 4 (peH (fun j => L.getD j 0) 0 i) (peL (fun j => L.getD j 0) 0 i) (peN (fun j => L.getD j 0) 0 i) → Q 1 s' kc ks) (k0 : ¬ peK (fun j => L.getD j 0) 0 i → ∀ s', s'.K = s.K → s'.P = s.P → fr [18] [] [] s s' → Q 0 s' kc ks) : C_Da_takePrefix sa A (nI i) (some e) s kc ks Q := by
  have hL := hb.sm
  have oA := okr kA 2
  have oe := okr ke 5
  have ne : b ≠ e := ne_ro kb ke
  generalize hg : (fun j => L.getD j 0) = g at k1 k0
  have gB : ∀ j, j < L.length → isB (g j) := fun j hj => ⟨vc L j, by unfold vc; omega, by rw [← hg]; exact hb.gv hj⟩
  have q1 : peH g 0 i = hiF g (i + 4) 0 := by unfold peH; rw [if_pos rfl]
  have q2 : peL g 0 i = 0 := by unfold peL; rw [if_pos rfl]
  have q3 : peN g 0 i = bcI (Int64.toInt32 (nbF g (i + 8) 4 0)) := by unfold peN; rw [if_pos rfl]
  have eK : peK g 0 i ↔ (g i = 0 ∧ g (i + 1) = 2) ∧ Int64.toInt32 (nbF g (i + 8) 4 0) = mkI (bcI (Int64.toInt32 (nbF g (i + 8) 4 0))) ∧ mpre (hiF g (i + 4) 0) 0 (bcI (Int64.toInt32 (nbF g (i + 8) 4 0))) := by
    unfold peK
    rw [if_pos rfl, q1, q3]
  rw [q1, q2, q3] at k1
  have e2 := nb_2 (gB i (by omega)) (gB (i + 1) (by omega))
  have lo0 : loF g (i + 4) 0 = 0 := by unfold loF; rw [if_pos rfl]
  unfold C_Da_takePrefix
  refine ⟨_, gd_to oA, ?_⟩
  rw [show s.I (20 * 2 + 4) A = 4 from i44]
  refine ifF (by decide) ⟨_, gd_to oA, e, rfl, oe, ?_⟩
  rw [show s.P (20 * 2 + 0) A = some b from p40, show nI i + 4 = nI (i + 4) from nI_add i 4]
  refine c_take (f := 0) oe hb ne (Or.inl rfl) (by omega) ?_
  rw [hg]
  have f1 : fr [18] [] [] s (tkS s e 0 g (i + 4)) := tk_fr ke
  have v1 : PF (tkS s e 0 g (i + 4)) e (fam (nI 0)) (hiF g (i + 4) 0) (loF g (i + 4) 0) 32 := tk_s
  have hK1 : (tkS s e 0 g (i + 4)).K = s.K := rfl
  have hP1 : (tkS s e 0 g (i + 4)).P = s.P := rfl
  generalize tkS s e 0 g (i + 4) = s1 at f1 v1 hK1 hP1 ⊢
  have hb1 : BL s1 b 129 L cap := hb.fr f1 kb (by decide) (by decide) (by decide)
  refine ⟨_, gd_to (okr (u := 6) (by rw [hK1]; exact kA) 2), b, by rw [show s1.P (20 * 2 + 0) A = s.P 40 A by rw [hP1]]; exact p40, okr (u := 3) (by rw [hK1]; exact kb) 0, ?_⟩
  rw [show nI i + 8 = nI (i + 8) from nI_add i 8]
  refine w_numAt (n := 4) hb1 (by omega) ?_
  rw [hg]
  generalize hX : Int64.toInt32 (nbF g (i + 8) 4 0) = X at k1 eK ⊢
  refine w_bc ?_
  have o1 : okO s1 5 e := okr (u := 18) (by rw [hK1]; exact ke) 5
  have f2 : fr [18] [] [] s1 (cSI s1 103 e (bcI X)) := fr.si (by rw [hK1, ke]; decide)
  have v2 : PF (cSI s1 103 e (bcI X)) e 4 (hiF g (i + 4) 0) 0 (bcI X) := by
    obtain ⟨a1, a2, a3, a4⟩ := v1
    exact ⟨by rw [cSI_g (by decide)]; exact a1, a2, a3.trans lo0, cSI_s⟩
  have hK2 : (cSI s1 103 e (bcI X)).K = s.K := hK1
  have hP2 : (cSI s1 103 e (bcI X)).P = s.P := hP1
  refine ⟨_, gd_to o1, ?_⟩
  have fin : ∀ s2 : cS, fr [18] [] [] s1 s2 → PF s2 e 4 (hiF g (i + 4) 0) 0 (bcI X) → s2.K = s.K → s2.P = s.P → ob (gP s2 2 0 A) (fun v10 => (ob v10 (fun b11 => (okO s2 0 b11 ∧ C_By_numberAt sa b11 (nI i) (2 : Int32) s2 kc ks (fun r12 sr12 cr12 dr12 => (if r12 = (2 : Int64) then (C_Pr_maskHigh sa (bcI X) sr12 cr12 dr12 (fun r13 sr13 cr13 dr13 => (if X = (Int64.toInt32 (ush_L r13 (32 : Int32))) then (okO sr13 5 e ∧ C_Pr_hasBitsBehind sa e sr13 cr13 dr13 (fun r14 sr14 cr14 dr14 => (if r14 = 0 then (Q (1 : Int32) sr14 cr14 dr14) else (Q (0 : Int32) sr14 cr14 dr14)))) else (Q (0 : Int32) sr13 cr13 dr13)))) else (Q (0 : Int32) sr12 cr12 dr12))))))) := by
    intro s2 f2 v2 hK2 hP2
    have hb2 : BL s2 b 129 L cap := hb1.fr f2 (u := 3) (by rw [hK1]; exact kb) (by decide) (by decide) (by decide)
    refine ⟨_, gd_to (okr (u := 6) (by rw [hK2]; exact kA) 2), b, by rw [show s2.P (20 * 2 + 0) A = s.P 40 A by rw [hP2]]; exact p40, okr (u := 3) (by rw [hK2]; exact kb) 0, ?_⟩
    refine w_numAt (n := 2) hb2 (by omega) ?_
    rw [hg]
    by_cases c0 : nbF g i 2 0 = 2
    · refine ifT c0 (w_mH ?_)
      by_cases c1 : X = mkI (bcI X)
      · refine ifT c1 ⟨okr (u := 18) (by rw [hK2]; exact ke) 5, w_behind (okr (u := 18) (by rw [hK2]; exact ke) 5) (fun z => ifT rfl ?_) fun z => ifF (by decide) ?_⟩
        · rw [v2.2.1, v2.2.2.1, v2.2.2.2] at z
          exact k1 (eK.mpr ⟨e2.mp c0, c1, z⟩) s2 hK2 hP2 (f1.tr f2) v2
        · rw [v2.2.1, v2.2.2.1, v2.2.2.2] at z
          exact k0 (fun y => z (eK.mp y).2.2) s2 hK2 hP2 (f1.tr f2)
      · exact ifF c1 (k0 (fun y => c1 (eK.mp y).2.1) s2 hK2 hP2 (f1.tr f2))
    · exact ifF c0 (k0 (fun y => c0 (e2.mpr (eK.mp y).1)) s2 hK2 hP2 (f1.tr f2))
  exact fin _ f2 v2 hK2 hP2
end Tk
