/-! The longest route, on both sides. -/
noncomputable def wyL (t : moS) (r : Nat) : Option Nat → Int32
  | none => -1
  | some j => t.I 109 (2700 * r + j)
/-- a route more, looked at -/
noncomputable def wyS (t : moS) (r j : Nat) (b : Option Nat) : Option Nat := if t.I 111 (2700 * r + j) = 16 then b else if M_isLonger t (t.I 106 (2700 * r + j)) (t.J 107 (2700 * r + j)) (t.J 108 (2700 * r + j)) (t.I 109 (2700 * r + j)) (wyL t r b) = 0 then b else some j
noncomputable def wyR (t : moS) (r : Nat) : Nat → Nat → Option Nat → Option Nat
  | 0, _, b => b
  | q + 1, j, b => wyR t r q (j + 1) (wyS t r j b)
theorem wyS_lt {t : moS} {r j : Nat} {b : Option Nat} {m : Nat} (hb : ∀ i, b = some i → i < m) (hj : j < m) : ∀ i, wyS t r j b = some i → i < m := by
  intro i h
  unfold wyS at h
  split at h
  · exact hb i h
  split at h
  · exact hb i h
  · cases h; exact hj
theorem wyR_lt {t : moS} {r m : Nat} : ∀ q j b, (∀ i, b = some i → i < m) → j + q ≤ m → ∀ i, wyR t r q j b = some i → i < m
  | 0, j, b, hb, _, i, h => hb i h
  | q + 1, j, b, hb, hj, i, h => wyR_lt q (j + 1) _ (wyS_lt hb (by omega)) (by omega) i h
theorem fam_i {a b : Int32} (ha : bit a) (hb : bit b) : fam a = fam b ↔ a = b := by
  rcases ha with rfl | rfl <;> rcases hb with rfl | rfl <;> decide
section Lg
variable {G H : Nat → Nat → Nat} {sa : Nat → Nat} {x kc ks hp : Nat} {s : cS} {t : moS}
def ixI (r : Nat) : Option Nat → Int32
  | none => -1
  | some j => nI (2700 * r + j)
theorem m_longest (hM : MV t) {r : Nat} (hr : r < cR t) : M_way_b36 t (nI r) (-1) (-1) (2700 * nI r) = (if ixI r (wyR t r (cN t r) 0 none) = -1 then some (-1, t) else Option.bind (M_sayRoute (moSS t 8 0) (ixI r (wyR t r (cN t r) 0 none))) fun s3 => bn2 (M_shown s3) fun x5 s4 => some (x5, s4)) := by
  have h6 := hM.nR
  have hn := hM.nRo hr
  have e2700 : (2700 : Int32) * nI r = nI (2700 * r) := by rw [show (2700 : Int32) = nI 2700 from rfl, pk_mul]
  have e105 : t.I 105 r = nI (cN t r) := (hM.r hr).2.2.2.2.2.2.2.2.2.2.2.2.1.n.1
  unfold M_way_b36
  rw [e2700]
  generalize hw : wyR t r (cN t r) 0 none = W
  have loop : ∀ q j b, j + q = cN t r → wyR t r q j b = W → lp (fun y : Int32 × Int32 × Int32 × moS => M_way_s36 y.2.2.2 (nI r) y.1 y.2.1 y.2.2.1) (ixI r b, wyL t r b, nI (2700 * r + j), t) = (if ixI r W = -1 then some (-1, t) else Option.bind (M_sayRoute (moSS t 8 0) (ixI r W)) fun s3 => bn2 (M_shown s3) fun x5 s4 => some (x5, s4)) := by
    intro q
    induction q with
    | zero =>
      intro j b hj hb
      have hb : b = W := hb
      subst hb
      refine lp_x ?_
      show M_way_s36 t (nI r) (ixI r b) (wyL t r b) (nI (2700 * r + j)) = _
      unfold M_way_s36
      rw [rdI_n (n := 6) (hM.n.n 105 6) (by omega) (by decide), e105]
      show (if nI (2700 * r + j) < 2700 * nI r + nI (cN t r) then _ else _) = _
      rw [e2700, nI_add, if_neg (nI_nlt (by omega) (by omega))]
      rfl
    | succ q ih =>
      intro j b hj hb
      have hb : wyR t r q (j + 1) (wyS t r j b) = W := hb
      have hk : 2700 * r + j < 16200 := by omega
      have rI : ∀ k, (k ∉ mG ∧ moN0 k = 16200) → rdI t k (nI (2700 * r + j)) = some (t.I k (2700 * r + j)) := fun k hk' => rdI_n (n := 16200) (by rw [hM.n.1 k hk'.1]; exact hk'.2) hk (by decide)
      have rJ : ∀ k, (k ∉ mG ∧ moN0 k = 16200) → rdJ t k (nI (2700 * r + j)) = some (t.J k (2700 * r + j)) := fun k hk' => rdJ_n (n := 16200) (by rw [hM.n.1 k hk'.1]; exact hk'.2) hk (by decide)
      have st : M_way_s36 t (nI r) (ixI r b) (wyL t r b) (nI (2700 * r + j)) = some (.inl (ixI r (wyS t r j b), wyL t r (wyS t r j b), nI (2700 * r + (j + 1)), t)) := by
        unfold M_way_s36
        rw [rdI_n (n := 6) (hM.n.n 105 6) (by omega) (by decide), e105]
        show (if nI (2700 * r + j) < 2700 * nI r + nI (cN t r) then _ else _) = _
        rw [e2700, nI_add, if_pos (nI_lt (by omega) (by omega)), rI 111 (by decide +kernel)]
        unfold wyS
        show (if t.I 111 (2700 * r + j) = 16 then _ else _) = _
        by_cases c : t.I 111 (2700 * r + j) = 16
        · rw [if_pos c, if_pos c]
          unfold M_way_b117
          rw [nI_1]
          rfl
        rw [if_neg c, if_neg c, rI 106 (by decide +kernel), rJ 107 (by decide +kernel), rJ 108 (by decide +kernel), rI 109 (by decide +kernel)]
        show (if M_isLonger t (t.I 106 (2700 * r + j)) (t.J 107 (2700 * r + j)) (t.J 108 (2700 * r + j)) (t.I 109 (2700 * r + j)) (wyL t r b) = 0 then _ else _) = _
        by_cases c2 : M_isLonger t (t.I 106 (2700 * r + j)) (t.J 107 (2700 * r + j)) (t.J 108 (2700 * r + j)) (t.I 109 (2700 * r + j)) (wyL t r b) = 0
        · rw [if_pos c2, if_pos c2]
          unfold M_way_b117
          rw [nI_1]
          rfl
        · rw [if_neg c2, if_neg c2]
          show M_way_b117 t (nI r) (nI (2700 * r + j)) (t.I 109 (2700 * r + j)) (nI (2700 * r + j)) = _
          unfold M_way_b117
          rw [nI_1]
          rfl
      rw [lp_l (show (fun y : Int32 × Int32 × Int32 × moS => M_way_s36 y.2.2.2 (nI r) y.1 y.2.1 y.2.2.1) (ixI r b, wyL t r b, nI (2700 * r + j), t) = _ from st)]
      exact ih (j + 1) _ (by omega) hb
  exact loop (cN t r) 0 none (by omega) hw
theorem w_longest {Q : Option Nat → cS → Nat → Nat → Prop} {r : Nat} (hq : RQ G H sa x s t) (hM : MV t) (hr : r < cR t) (h5 : okO s 5 hp) (hb12 : bit (t.S 12)) (hpf : PF s hp (fam (t.S 12)) (t.Z 13) (t.Z 14) (if fam (t.S 12) = 4 then 32 else 128)) (k : Q ((wyR t r (cN t r) 0 none).map fun j => G 4 (2700 * r + j)) s kc ks) : C_Rr_longestAlive sa (G 1 r) (some hp) s kc ks Q := by
  have h6 := hM.nR
  have hn := hM.nRo hr
  have hrt := okr (hq.rt hr).1.1 9
  have htb := hq.ty.p (hq.rt hr).1.1 186 27
  have hot := okr htb.2 10
  obtain ⟨⟨b1, b2, b3, w, cap, b4, b5, b6, b7, b8, b9, -⟩, -⟩ := hq.tb hr
  unfold C_Rr_longestAlive C_Rr_longestAlive_b4
  intro P hP
  have loop : ∀ q j b, j + q = cN t r → (∀ i, b = some i → i < cN t r) → wyR t r q j b = wyR t r (cN t r) 0 none → P (b.map fun j => G 4 (2700 * r + j)) (nI j) s kc ks := by
    intro q
    induction q with
    | zero =>
      intro j b hj hlt hb
      have hb : b = _ := hb
      rw [← hb] at k
      apply hP
      unfold C_Rr_longestAlive_s4
      refine ⟨_, gd_to hrt, _, htb.1, _, gd_to hot, ?_⟩
      rw [show s.I (20 * 10 + 1) (H 186 (G 1 r)) = nI (cN t r) from b1]
      exact ifF (nI_nlt (by omega) (by omega)) k
    | succ q ih =>
      intro j b hj hlt hb
      have hj' : j < cN t r := by omega
      have hb : wyR t r q (j + 1) (wyS t r j b) = wyR t r (cN t r) 0 none := hb
      obtain ⟨hk23, hw⟩ := hq.row hr hj'
      obtain ⟨⟨p1, p2, p3, p4⟩, ⟨q1, q2, -⟩, -⟩ := hw
      have hrow := okr hk23 8
      have hpx := hq.ty.p hk23 160 9
      have hpo := okr hpx.2 5
      obtain ⟨⟨f1, ⟨ln, f2, f2a, f2b⟩⟩, -, ⟨mt, f3, f3a, f3b⟩, -⟩ := (hM.r hr).w hj'
      have keep : wyS t r j b = b → P (b.map fun j => G 4 (2700 * r + j)) (nI j + 1) s kc ks := by
        intro e
        rw [nI_1]
        rw [e] at hb
        exact ih (j + 1) b (by omega) hlt hb
      have take : wyS t r j b = some j → P (some (G 4 (2700 * r + j))) (nI j + 1) s kc ks := by
        intro e
        rw [nI_1]
        rw [e] at hb
        exact ih (j + 1) (some j) (by omega) (fun i h => by cases h; exact hj') hb
      have l128 : ln ≤ 128 := by
        split at f2b
        · omega
        · exact f2b
      have hcov : pcov (s.I 100 (H 160 (G 4 (2700 * r + j)))) (s.J 101 (H 160 (G 4 (2700 * r + j)))) (s.J 102 (H 160 (G 4 (2700 * r + j)))) (s.I 103 (H 160 (G 4 (2700 * r + j)))) (s.I 100 hp) (s.J 101 hp) (s.J 102 hp) (s.I 103 hp) ↔ t.I 106 (2700 * r + j) = t.S 12 ∧ mcov (t.J 107 (2700 * r + j)) (t.J 108 (2700 * r + j)) (t.I 109 (2700 * r + j)) (t.Z 13) (t.Z 14) := by
        obtain ⟨z1, z2, z3, z4⟩ := hpf
        rw [p1, p2, p3, p4, z1, z2, z3, z4, f2, pcov_m l128, fam_i f1 hb12]
        constructor
        · exact fun h => ⟨h.1, h.2.2⟩
        · intro h
          refine ⟨h.1, ?_, h.2⟩
          rw [h.1] at f2b
          rcases hb12 with e | e
          · rw [e] at f2b ⊢
            exact nI_le (b := 32) f2b (by decide)
          · rw [e] at f2b ⊢
            exact nI_le (b := 128) f2b (by decide)
      have hcv := (M_cov (t.J 107 (2700 * r + j)) (t.J 108 (2700 * r + j)) (t.I 109 (2700 * r + j)) (t.Z 13) (t.Z 14)).1
      have hlong : M_isLonger t (t.I 106 (2700 * r + j)) (t.J 107 (2700 * r + j)) (t.J 108 (2700 * r + j)) (t.I 109 (2700 * r + j)) (wyL t r b) = 0 ↔ ¬ (t.I 106 (2700 * r + j) = t.S 12 ∧ wyL t r b < t.I 109 (2700 * r + j) ∧ mcov (t.J 107 (2700 * r + j)) (t.J 108 (2700 * r + j)) (t.I 109 (2700 * r + j)) (t.Z 13) (t.Z 14)) := by
        unfold M_isLonger M_isLonger_b38
        by_cases c1 : t.I 106 (2700 * r + j) = t.S 12
        · rw [if_pos c1]
          by_cases c2 : wyL t r b < t.I 109 (2700 * r + j)
          · rw [if_pos c2]
            by_cases c3 : M_covers (t.J 107 (2700 * r + j)) (t.J 108 (2700 * r + j)) (t.I 109 (2700 * r + j)) (t.Z 13) (t.Z 14) = 0
            · rw [if_pos c3]
              exact ⟨fun _ h => hcv.mp c3 h.2.2, fun _ => rfl⟩
            · rw [if_neg c3]
              exact ⟨fun h => absurd h (by decide), fun h => absurd ⟨c1, c2, Classical.byContradiction fun z => c3 (hcv.mpr z)⟩ h⟩
          · rw [if_neg c2]
            exact ⟨fun _ h => c2 h.2.1, fun _ => rfl⟩
        · rw [if_neg c1]
          exact ⟨fun _ h => c1 h.1, fun _ => rfl⟩
      apply hP
      unfold C_Rr_longestAlive_s4
      refine ⟨_, gd_to hrt, _, htb.1, _, gd_to hot, ?_⟩
      rw [show s.I (20 * 10 + 1) (H 186 (G 1 r)) = nI (cN t r) from b1]
      refine ifT (nI_lt hj' (by omega)) ⟨_, gd_to hrt, _, htb.1, _, gd_to hot, w, b4, _, gd_to ⟨by rw [b5]; show 130 ≤ 135; decide, by rw [b5]; show 135 < 146; decide, by rw [b5]; exact vp_in_nI (by omega) (by omega)⟩, ?_⟩
      rw [nI_clamp (by omega)]
      refine ⟨_, (b9 j (by omega)).1, _, gd_to hrow, ?_⟩
      rw [show s.I (20 * 8 + 4) (G 4 (2700 * r + j)) = nI mt from q2.trans f3]
      by_cases c16 : mt = 16
      · refine ifF (by rw [c16]; decide) ?_
        exact keep (by unfold wyS; rw [if_pos (by rw [f3, c16]; rfl)])
      have n16 : ¬ t.I 111 (2700 * r + j) = 16 := fun h => c16 ((nI_eq (b := 16) (by omega) (by omega)).mp (by rw [← f3]; exact h))
      refine ifT (nI_lt (b := 16) (by omega) (by omega)) ⟨_, gd_to hrow, _, hpx.1, hpo, w_covers hpo h5 (fun hc => ?_) (fun hc => ?_)⟩
      · refine ifT rfl (keep ?_)
        unfold wyS
        rw [if_neg n16, if_pos (hlong.mpr fun z => hc (hcov.mpr ⟨z.1, z.2.2⟩))]
      · have hc := hcov.mp hc
        refine ifF (by decide) ?_
        cases b with
        | none =>
          refine ifT rfl (take ?_)
          unfold wyS
          rw [if_neg n16, if_neg (fun z => hlong.mp z ⟨hc.1, ?_, hc.2⟩)]
          show (-1 : Int32) < t.I 109 (2700 * r + j)
          rw [f2, Int32.lt_iff_toInt_lt, nI_toInt (by omega)]
          show (-1 : Int) < _
          omega
        | some i =>
          have hi := hlt i rfl
          obtain ⟨hk23', hw'⟩ := hq.row hr hi
          have hrow' := okr hk23' 8
          have hpx' := hq.ty.p hk23' 160 9
          have hpo' := okr hpx'.2 5
          refine ifF (by simp) ⟨_, gd_to hrow, _, hpx.1, _, gd_to hpo, _, rfl, _, gd_to hrow', _, hpx'.1, _, gd_to hpo', ?_⟩
          rw [show s.I (20 * 5 + 3) (H 160 (G 4 (2700 * r + i))) = t.I 109 (2700 * r + i) from hw'.1.2.2.2, show s.I (20 * 5 + 3) (H 160 (G 4 (2700 * r + j))) = t.I 109 (2700 * r + j) from p4]
          by_cases cl : t.I 109 (2700 * r + i) < t.I 109 (2700 * r + j)
          · refine ifT cl (take ?_)
            unfold wyS
            rw [if_neg n16, if_neg (fun z => hlong.mp z ⟨hc.1, cl, hc.2⟩)]
          · refine ifF cl (keep ?_)
            unfold wyS
            rw [if_neg n16, if_pos (hlong.mpr fun z => cl z.2.1)]
  exact loop (cN t r) 0 none (by omega) (fun i h => by cases h) rfl
end Lg
