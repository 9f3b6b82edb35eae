/-! Lists and filters: what they say of a prefix, on both sides. -/
/-- the first of n, from i, that fits -/
noncomputable def fsA (P : Nat → Prop) (v : Nat → Int32) (d : Int32) : Nat → Nat → Int32
  | 0, _ => d
  | n + 1, i => @ite _ (P i) (Classical.propDecidable _) (v i) (fsA P v d n (i + 1))
theorem fsA_c {P P' : Nat → Prop} {v v' : Nat → Int32} {d : Int32} : ∀ {n i : Nat}, (∀ j, i ≤ j → j < i + n → (P j ↔ P' j) ∧ v j = v' j) → fsA P v d n i = fsA P' v' d n i
  | 0, i, h => rfl
  | n + 1, i, h => by
    unfold fsA
    have h0 := h i (by omega) (by omega)
    have ih := fsA_c (P := P) (P' := P') (v := v) (v' := v') (d := d) (n := n) (i := i + 1) fun j h1 h2 => h j (by omega) (by omega)
    by_cases c : P i
    · rw [if_pos c, if_pos (h0.1.mp c), h0.2]
    · rw [if_neg c, if_neg (fun z => c (h0.1.mpr z)), ih]
theorem fsA_bit {P : Nat → Prop} {v : Nat → Int32} {d : Int32} (hd : bit d) : ∀ {n i : Nat}, (∀ j, i ≤ j → j < i + n → bit (v j)) → bit (fsA P v d n i)
  | 0, i, h => hd
  | n + 1, i, h => by
    unfold fsA
    by_cases c : P i
    · rw [if_pos c]; exact h i (by omega) (by omega)
    · rw [if_neg c]; exact fsA_bit hd fun j h1 h2 => h j (by omega) (by omega)
def lfr (g le : Int32) : Int32 := if le = -1 then g else le
def lto (g le mo : Int32) : Int32 := if mo = -1 then (if le = -1 then g else 128) else mo
/-- an entry fits a prefix -/
def lOk (f : Int32) (h l : Int64) (n : Int32) (F : Int32) (X Y : Int64) (g le mo : Int32) : Prop := F = f ∧ (g ≤ n ∧ mcov X Y g h l) ∧ lfr g le ≤ n ∧ n ≤ lto g le mo
noncomputable def laV (t : moS) (i : Nat) (f : Int32) (h l : Int64) (n : Int32) : Int32 := fsA (fun k => lOk f h l n (t.I 31 (16 * i + k)) (t.J 32 (16 * i + k)) (t.J 33 (16 * i + k)) (t.I 34 (16 * i + k)) (t.I 35 (16 * i + k)) (t.I 36 (16 * i + k))) (fun k => t.I 30 (16 * i + k)) 0 (t.I 29 i).toNatClampNeg 0
noncomputable def faV (t : moS) (r w : Nat) (f : Int32) (h l : Int64) (n : Int32) : Int32 := fsA (fun k => lOk f h l n (t.I 54 (64 * r + 32 * w + k)) (t.J 55 (64 * r + 32 * w + k)) (t.J 56 (64 * r + 32 * w + k)) (t.I 57 (64 * r + 32 * w + k)) (t.I 57 (64 * r + 32 * w + k)) (-1)) (fun k => t.I 58 (64 * r + 32 * w + k)) 1 (t.I 53 (2 * r + w)).toNatClampNeg 0
theorem rd_E {s : cS} {a u M i : Nat} {ty : FieldType} {v : Int32} (hK : s.K a = (u, M)) (hu : 100 ≤ u ∧ u < 130 ∧ cAT u = ty) (hi : i < M) (hM : M < 2 ^ 31) (e : s.E a i = v) : rE s ty a (nI i) = some v := by
  have h : okA s ty a (nI i) := ⟨by rw [hK]; exact hu.1, by rw [hK]; exact hu.2.1, by rw [hK]; exact hu.2.2, by rw [hK]; exact vp_in_nI hi hM⟩
  exact (show rE s ty a (nI i) = some (s.E a (nI i).toNatClampNeg) from gd_to h).trans (by rw [nI_clamp (by omega), e])
theorem rd_Q {s : cS} {a u M i : Nat} {v : Option Nat} (hK : s.K a = (u, M)) (hu : 130 ≤ u ∧ u < 146) (hi : i < M) (hM : M < 2 ^ 31) (e : s.Q a i = v) : rQ s a (nI i) = some v := by
  have h : okQ s a (nI i) := ⟨by rw [hK]; exact hu.1, by rw [hK]; exact hu.2, by rw [hK]; exact vp_in_nI hi hM⟩
  exact (show rQ s a (nI i) = some (s.Q a (nI i).toNatClampNeg) from gd_to h).trans (by rw [nI_clamp (by omega), e])
theorem wr_E {s : cS} {a u M i : Nat} {v : Int32} (hK : s.K a = (u, M)) (hu : 100 ≤ u ∧ u < 130 ∧ cAT u = .int) (hi : i < M) (hM : M < 2 ^ 31) : wEi s a (nI i) v = some (cSE s a i v) := by
  have h : okA s .int a (nI i) := ⟨by rw [hK]; exact hu.1, by rw [hK]; exact hu.2.1, by rw [hK]; exact hu.2.2, by rw [hK]; exact vp_in_nI hi hM⟩
  exact (show wEi s a (nI i) v = some (cSE s a (nI i).toNatClampNeg v) from gd_to h).trans (by rw [nI_clamp (by omega)])
section Lt
variable {G H : Nat → Nat → Nat} {sa : Nat → Nat} {x kc ks r p : Nat} {s : cS} {t : moS} {f n : Int32} {h l : Int64}
theorem lnOk.fi {g : Int32} {F : Int32} (hg : lnOk F g) : rng g 0 128 := hg.2.wk (by omega) (by split <;> omega)
theorem lfr_fi {F X Y g} {f' n' : Int32} {h' l' : Int64} (hf : lnOk f' n') (hg : lnOk F g) : lOk f' h' l' n' F X Y g g (-1) ↔ F = f' ∧ (g ≤ n' ∧ mcov X Y g h' l') := by
  obtain ⟨m, rfl, -, hm⟩ := hg.fi
  obtain ⟨m', rfl, -, hm'⟩ := hf.fi
  have e : ¬ nI m = -1 := nI_ne (by omega)
  unfold lOk lfr lto
  rw [if_neg e, if_pos rfl, if_neg e]
  exact ⟨fun z => ⟨z.1, z.2.1⟩, fun z => ⟨z.1, z.2, z.2.1, nI_le (b := 128) hm' (by decide)⟩⟩
/-- the class -/
theorem w_lets {Q : Int32 → cS → Nat → Nat → Prop} {a N M : Nat} {d : Int32} {F g per le mo : Nat → Int32} {X Y : Nat → Int64} (hl : RPl H s a N F X Y g per le mo) (oa : okO s 6 a) (hNM : N ≤ M) (hM : M ≤ 32) (p1 : s.P 121 a = some (H 121 a) ∧ s.K (H 121 a) = (138, M)) (p2 : s.P 122 a = some (H 122 a) ∧ s.K (H 122 a) = (102, M)) (p3 : s.P 123 a = some (H 123 a) ∧ s.K (H 123 a) = (105, M)) (p4 : s.P 124 a = some (H 124 a) ∧ s.K (H 124 a) = (106, M)) (hg : ∀ k, k < N → lnOk (F k) (g k) ∧ bit (per k)) (hf : lnOk f n) (hp : PF s p (fam f) h l n) (h5 : okO s 5 p) (hd : bit d) (kk : Q (fsA (fun k => lOk f h l n (F k) (X k) (Y k) (g k) (le k) (mo k)) per d N 0) s kc ks) : C_Pl_lets sa a (some p) d s kc ks Q := by
  unfold C_Pl_lets C_Pl_lets_b2
  intro P hP
  have e125 : s.I (20 * 6 + 5) a = nI N := hl.1
  have loop : ∀ m i, i + m = N → Q (fsA (fun k => lOk f h l n (F k) (X k) (Y k) (g k) (le k) (mo k)) per d m i) s kc ks → P (nI i) s kc ks := by
    intro m
    induction m with
    | zero =>
      intro i hi hQ
      apply hP
      unfold C_Pl_lets_s2
      refine ⟨_, gd_to oa, ?_⟩
      rw [e125]
      exact ifF (nI_nlt (by omega) (by omega)) ⟨hd, hQ⟩
    | succ m ih =>
      intro i hi hQ
      have hi' : i < N := by omega
      obtain ⟨b, q1, q2, ⟨b1, b2, b3, b4⟩, q3, q4, q5⟩ := hl.2 i hi'
      have o5 : okO s 5 b := okr q2 5
      have rq := rd_Q p1.2 (by decide) (i := i) (by omega) (by omega) q1
      have r2 := rd_E p2.2 (ty := .boolean) ⟨by decide, by decide, rfl⟩ (i := i) (by omega) (by omega) q3
      have r3 := rd_E p3.2 (ty := .int) ⟨by decide, by decide, rfl⟩ (i := i) (by omega) (by omega) q4
      have r4 := rd_E p4.2 (ty := .int) ⟨by decide, by decide, rfl⟩ (i := i) (by omega) (by omega) q5
      unfold fsA at hQ
      have no : ¬ lOk f h l n (F i) (X i) (Y i) (g i) (le i) (mo i) → P (nI i + 1) s kc ks := fun c => by
        rw [if_neg c] at hQ
        rw [nI_1]
        exact ih (i + 1) (by omega) hQ
      have b81 : ∀ u v, u = lfr (g i) (le i) → v = lto (g i) (le i) (mo i) → C_Pl_lets_b81 sa a (some p) d (nI i) (some b) u v s kc ks Q P := by
        intro u v eu ev
        unfold C_Pl_lets_b81
        refine ⟨p, rfl, _, gd_to h5, ?_⟩
        rw [show s.I (20 * 5 + 3) p = n from hp.2.2.2]
        by_cases c1 : n < u
        · exact ifT c1 (no fun z => Int32.not_lt.mpr (eu ▸ z.2.2.1) c1)
        refine ifF c1 ⟨_, gd_to h5, ?_⟩
        rw [show s.I (20 * 5 + 3) p = n from hp.2.2.2]
        by_cases c2 : v < n
        · exact ifT c2 (no fun z => Int32.not_lt.mpr (ev ▸ z.2.2.2) c2)
        refine ifF c2 ⟨b, rfl, o5, w_covers o5 h5 (fun z => ifT rfl (no fun y => z ?_)) (fun z => ifF (by decide) ⟨_, gd_to oa, H 122 a, p2.1, per i, r2, (hg i hi').2, ?_⟩)⟩
        · rw [b1, b2, b3, b4, hp.1, hp.2.1, hp.2.2.1, hp.2.2.2]
          obtain ⟨g', eg, -, hg'⟩ := (hg i hi').1.fi
          rw [eg] at y ⊢
          rw [pcov_m hg']
          exact ⟨by rw [y.1], y.2.1.1, y.2.1.2⟩
        · rw [b1, b2, b3, b4, hp.1, hp.2.1, hp.2.2.1, hp.2.2.2] at z
          obtain ⟨g', eg, -, hg'⟩ := (hg i hi').1.fi
          have y : lOk f h l n (F i) (X i) (Y i) (g i) (le i) (mo i) := by
            refine ⟨?_, ?_, ?_, ?_⟩
            · rw [eg, pcov_m hg'] at z
              exact (fam_i (hg i hi').1.1 hf.1).mp z.1
            · rw [eg, pcov_m hg'] at z
              rw [eg]
              exact z.2
            · exact eu ▸ Int32.not_lt.mp c1
            · exact ev ▸ Int32.not_lt.mp c2
          rw [if_pos y] at hQ
          exact hQ
      apply hP
      unfold C_Pl_lets_s2
      refine ⟨_, gd_to oa, ?_⟩
      rw [e125]
      refine ifT (nI_lt (by omega) (by omega)) ⟨_, gd_to oa, H 121 a, p1.1, some b, rq, _, gd_to oa, H 123 a, p3.1, le i, r3, ?_⟩
      have b42 : ∀ u, u = lfr (g i) (le i) → C_Pl_lets_b42 sa a (some p) d (nI i) (some b) u s kc ks Q P := by
        intro u eu
        unfold C_Pl_lets_b42
        refine ⟨_, gd_to oa, H 124 a, p4.1, mo i, r4, ?_⟩
        by_cases c3 : mo i = -1
        · refine ifT c3 ⟨_, gd_to oa, H 123 a, p3.1, le i, r3, ?_⟩
          by_cases c4 : le i = -1
          · refine ifT c4 ⟨b, rfl, _, gd_to o5, b81 _ _ eu ?_⟩
            unfold lto
            rw [if_pos c3, if_pos c4]
            exact b4
          · refine ifF c4 (b81 _ _ eu ?_)
            unfold lto
            rw [if_pos c3, if_neg c4]
        · refine ifF c3 (b81 _ _ eu ?_)
          unfold lto
          rw [if_neg c3]
      by_cases c4 : le i = -1
      · refine ifT c4 ⟨b, rfl, _, gd_to o5, b42 _ ?_⟩
        unfold lfr
        rw [if_pos c4]
        exact b4
      · refine ifF c4 ⟨_, gd_to oa, H 123 a, p3.1, le i, r3, b42 _ ?_⟩
        unfold lfr
        rw [if_neg c4]
  exact loop N 0 (by omega) kk
end Lt
