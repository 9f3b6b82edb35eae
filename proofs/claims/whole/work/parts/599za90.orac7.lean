/-! Least sums: what neighbors say; the class. -/
theorem mn_n {a b : Nat} (ha : a < 2 ^ 31) (hb : b < 2 ^ 31) : mnI (nI a) (nI b) = nI (min a b) := by
  unfold mnI
  by_cases c : b < a
  · rw [if_pos (nI_lt c ha), Nat.min_eq_right (by omega)]
  · rw [if_neg (nI_nlt (by omega) hb), Nat.min_eq_left (by omega)]
section Sb
variable {G H : Nat → Nat → Nat} {sa : Nat → Nat} {x kc ks r f A u : Nat} {s : cS} {t : moS} {c : Nat → Nat}
theorem w_sbn {Q : Int32 → cS → Nat → Nat → Prop} (hq : RQ G H sa x s t) (hM : MV t) (hr : r < cR t) (hf : f = 0 ∨ f = 1) (he : s.I 100 (H 238 x) = fam (nI f)) (hA : s.K A = (u, 6)) (hu : 100 ≤ u ∧ u < 130 ∧ cAT u = .int) (hc : ∀ o, o < cR t → s.E A o = nI (c o) ∧ c o ≤ 1000) (k : Q (nI (loE c 16 (edE t f (fun _ => false) r (cI t r)))) s kc ks) : C_Rf_sumByNeighbors sa x (some (G 1 r)) (some A) s kc ks Q := by
  have h6 := hM.nR
  have h4 := hM.nIf hr
  have h10 := hM.nL
  have hf2 : f < 2 := by omega
  have ox := hq.ox
  have k26 := (hq.rt hr).1.1
  have o9 := okr k26 9
  have e185 : s.I 185 (G 1 r) = nI (cI t r) := (hq.rt hr).2.2.1.2.2.1.trans (hM.r hr).2.2.2.2.2.2.2.2.2.1.n.1
  have r184 := hq.ty.r k26 184 139 4
  have r228 := hq.ty.r hq.1.1 228 131 6
  have p238 := hq.ty.p hq.1.1 238 18
  have adr : ∀ {r' p' : Nat} {Q : Option Nat → cS → Nat → Nat → Prop}, r' < cR t → p' < cI t r' → (t.I 75 (2 * (4 * r' + p') + f) = 0 → Q none s kc ks) → (∀ a, t.I 75 (2 * (4 * r' + p') + f) ≠ 0 → Q (some a) s kc ks) → C_Po_addressOf sa (G 2 (4 * r' + p')) (fam (nI f)) s kc ks Q := fun {r' p' Q} h1 h2 k0 k1 => by
    have hpo := hq.po h1 h2
    refine w_adOf hf (okr hpo.1.1 4) ?_
    have ra : RAd G s t (4 * r' + p') f := by
      rcases hf with rfl | rfl
      · exact hpo.2.1
      · exact hpo.2.2.1
    rcases ra with ⟨z1, z2⟩ | ⟨z1, a, z2, -⟩
    · rw [z2]; exact k0 z1
    · rw [z2]; exact k1 a (by rw [z1]; decide)
  unfold C_Rf_sumByNeighbors C_Rf_sumByNeighbors_b6
  intro P hP
  have loop : ∀ d p, p + d = cI t r → P (nI (loE c 16 (edE t f (fun _ => false) r p))) (nI p) s kc ks := by
    intro d
    induction d with
    | zero =>
      intro p hp
      have : p = cI t r := by omega
      subst this
      apply hP
      unfold C_Rf_sumByNeighbors_s6
      refine ⟨_, rfl, _, gd_to o9, ?_⟩
      rw [show s.I (20 * 9 + 5) (G 1 r) = nI (cI t r) from e185]
      exact ifF (nI_nlt (Nat.le_refl _) (by omega)) k
    | succ d ih =>
      intro p hp
      have hp' : p < cI t r := by omega
      obtain ⟨⟨k8, q184, e80⟩, -, -, ⟨i83, -⟩, -⟩ := hq.po hr hp'
      have hvi := (hM.r hr).i hp'
      obtain ⟨e71, -, e71b⟩ := hvi.1.n
      have hcl := hvi.2.1
      obtain ⟨e72, -, h72⟩ := hvi.2.2.1.n
      have p80 := hq.ty.p k8 80 7
      rw [e80] at p80
      have i64 : s.I 64 (G 0 (t.I 71 (4 * r + p)).toNatClampNeg) = t.I 22 (t.I 71 (4 * r + p)).toNatClampNeg := (hq.link hcl).2.2.1.2.2.2.1
      have k7 := (hq.link hcl).1.1
      have a16 := (loE_le (x := c) (edE t f (fun _ => false) r p) 16).1
      have eS : loE c 16 (edE t f (fun _ => false) r (p + 1)) = if okB t f (4 * r + p) = true then loE c (loE c 16 (edE t f (fun _ => false) r p)) (rowE t (t.I 71 (4 * r + p)).toNatClampNeg f (fun _ => false) (t.I 72 (4 * r + p)).toNatClampNeg (cR t)) else loE c 16 (edE t f (fun _ => false) r p) := by
        show loE c 16 (edE t f (fun _ => false) r p ++ _) = _
        rw [loE_app]
        split
        · rfl
        · rfl
      have nx := ih (p + 1) (by omega)
      rw [eS] at nx
      generalize loE c 16 (edE t f (fun _ => false) r p) = a at a16 nx ⊢
      generalize hlk : (t.I 71 (4 * r + p)).toNatClampNeg = lk at *
      generalize hcc : (t.I 72 (4 * r + p)).toNatClampNeg = cc at *
      have skip : ¬ okB t f (4 * r + p) = true → P (nI a) (nI p + 1) s kc ks := fun z => by
        rw [if_neg z] at nx
        rw [nI_1]
        exact nx
      apply hP
      unfold C_Rf_sumByNeighbors_s6
      refine ⟨_, rfl, _, gd_to o9, ?_⟩
      rw [show s.I (20 * 9 + 5) (G 1 r) = nI (cI t r) from e185]
      refine ifT (nI_lt hp' (by omega)) ⟨_, gd_to o9, _, r184.1, _, rd_Q r184.2 (by decide) (by omega) (by decide) q184, _, rfl, _, gd_to (okr k8 4), _, p80.1, _, gd_to (okr k7 3), ?_⟩
      rw [show s.I (20 * 3 + 4) (G 0 lk) = t.I 22 lk from i64]
      unfold C_Rf_sumByNeighbors_b136
      by_cases c1 : t.I 22 lk = 0
      · refine ifT c1 (skip fun z => ?_)
        unfold okB at z
        rw [Bool.and_eq_true, decide_eq_true_iff, decide_eq_true_iff, hlk] at z
        exact z.2 c1
      refine ifF c1 ⟨_, gd_to ox, _, p238.1, _, gd_to (okr p238.2 5), okr k8 4, ?_⟩
      rw [show s.I (20 * 5 + 0) (H 238 x) = fam (nI f) from he]
      refine adr hr hp' (fun z0 => ifT rfl (skip fun z => ?_)) (fun a0 z0 => ifF (by simp) ?_)
      · unfold okB at z
        rw [Bool.and_eq_true, decide_eq_true_iff, decide_eq_true_iff] at z
        exact z.1 z0
      have yes : okB t f (4 * r + p) = true := by
        unfold okB
        rw [Bool.and_eq_true, decide_eq_true_iff, decide_eq_true_iff, hlk]
        exact ⟨z0, c1⟩
      rw [if_pos yes] at nx
      unfold C_Rf_sumByNeighbors_b56
      intro P' hP'
      have inner : ∀ d o, o + d = cR t → P' (nI (loE c a (rowE t lk f (fun _ => false) cc o))) (nI o) s kc ks := by
        intro d
        induction d with
        | zero =>
          intro o ho
          have : o = cR t := by omega
          subst this
          apply hP'
          unfold C_Rf_sumByNeighbors_s56
          refine ⟨_, gd_to ox, ?_⟩
          rw [show s.I (20 * 11 + 9) x = nI (cR t) from hq.nR hM]
          refine ifF (nI_nlt (Nat.le_refl _) (by omega)) ?_
          unfold C_Rf_sumByNeighbors_b136
          rw [nI_1]
          exact nx
        | succ d ih2 =>
          intro o ho
          have ho' : o < cR t := by omega
          have h4o := hM.nIf ho'
          have b16 := (loE_le (x := c) (rowE t lk f (fun _ => false) cc o) a).1
          have eR : loE c a (rowE t lk f (fun _ => false) cc (o + 1)) = if nbB t lk f o = true then min (loE c a (rowE t lk f (fun _ => false) cc o)) (c o + cc) else loE c a (rowE t lk f (fun _ => false) cc o) := by
            show loE c a (rowE t lk f (fun _ => false) cc o ++ (if (fun _ => false) o = false ∧ nbB t lk f o = true then [(o, cc)] else [])) = _
            rw [loE_app]
            by_cases cn : nbB t lk f o = true
            · rw [if_pos ⟨rfl, cn⟩, if_pos cn]
              rfl
            · rw [if_neg (fun z => cn z.2), if_neg cn]
              rfl
          have nx2 := ih2 (o + 1) (by omega)
          rw [eR] at nx2
          generalize loE c a (rowE t lk f (fun _ => false) cc o) = b at b16 nx2 ⊢
          have skip2 : ¬ nbB t lk f o = true → P' (nI b) (nI o + 1) s kc ks := fun z => by
            rw [if_neg z] at nx2
            rw [nI_1]
            exact nx2
          have q228 := (hq.rt ho').1.2.1
          have k26o := (hq.rt ho').1.1
          apply hP'
          unfold C_Rf_sumByNeighbors_s56 C_Rf_sumByNeighbors_b130
          refine ⟨_, gd_to ox, ?_⟩
          rw [show s.I (20 * 11 + 9) x = nI (cR t) from hq.nR hM]
          refine ifT (nI_lt ho' (by omega)) ⟨_, gd_to ox, _, r228.1, _, rd_Q r228.2 (by decide) (by omega) (by decide) q228, _, rfl, _, gd_to (okr k8 4), _, rfl, okr k26o 9, ?_⟩
          rw [show s.P (20 * 4 + 0) (G 2 (4 * r + p)) = some (G 0 lk) from p80.1]
          refine w_portOn hq hM ho' hcl ?_
          cases hiF : ifF' (t.I 71) (nI lk) (cI t o) (4 * o) with
          | none =>
            refine ifT rfl (skip2 fun z => ?_)
            unfold nbB at z
            rw [hiF] at z
            exact absurd (show false = true from z) (by decide)
          | some q =>
            obtain ⟨q1, q2, -⟩ := ifF_s hiF
            obtain ⟨p', hp2, rfl⟩ : ∃ p', p' < cI t o ∧ q = 4 * o + p' := ⟨q - 4 * o, by omega, by omega⟩
            refine ifF (by simp) ⟨_, gd_to ox, _, r228.1, _, rd_Q r228.2 (by decide) (by omega) (by decide) q228, _, rfl, _, gd_to (okr k26o 9), ?_⟩
            rw [show s.I (20 * 9 + 3) (G 1 o) = t.I 39 o from (hq.rt ho').2.2.1.2.1]
            by_cases c3 : t.I 39 o = 0
            · refine ifT c3 (skip2 fun z => ?_)
              unfold nbB at z
              rw [hiF] at z
              have z : (decide (t.I 39 o ≠ 0) && decide (t.I 75 (2 * (4 * o + p') + f) ≠ 0)) = true := z
              rw [Bool.and_eq_true, decide_eq_true_iff] at z
              exact z.1 c3
            refine ifF c3 ⟨_, gd_to ox, _, p238.1, _, gd_to (okr p238.2 5), _, rfl, okr (hq.po ho' hp2).1.1 4, ?_⟩
            rw [show s.I (20 * 5 + 0) (H 238 x) = fam (nI f) from he]
            refine adr ho' hp2 (fun z0 => ifT rfl (skip2 fun z => ?_)) (fun a1 z1 => ifF (by simp) ?_)
            · unfold nbB at z
              rw [hiF] at z
              have z : (decide (t.I 39 o ≠ 0) && decide (t.I 75 (2 * (4 * o + p') + f) ≠ 0)) = true := z
              rw [Bool.and_eq_true, decide_eq_true_iff, decide_eq_true_iff] at z
              exact z.2 z0
            have yn : nbB t lk f o = true := by
              unfold nbB
              rw [hiF]
              show (decide (t.I 39 o ≠ 0) && decide (t.I 75 (2 * (4 * o + p') + f) ≠ 0)) = true
              rw [Bool.and_eq_true, decide_eq_true_iff, decide_eq_true_iff]
              exact ⟨c3, z1⟩
            obtain ⟨v1, v2⟩ := hc o ho'
            refine ⟨_, rfl, _, rd_E hA hu (by omega) (by decide) v1, _, gd_to (okr k8 4), ?_⟩
            rw [show s.I (20 * 4 + 3) (G 2 (4 * r + p)) = nI cc from i83.trans e72]
            show P' (mnI (nI b) (nI (c o) + nI cc)) (nI o + 1) s kc ks
            rw [nI_add, mn_n (by omega) (by omega), nI_1]
            rw [if_pos yn] at nx2
            exact nx2
      exact inner (cR t) 0 (by omega)
  exact loop (cI t r) 0 (by omega)
end Sb
