/-! The next hop that a datagram tells: the class; forbidden prefixes. -/
/-- an address that is no gateway on an interface -/
def hpN (t : moS) (X : Nat) (a b : Int64) : Prop := (a = 0 ∧ b = 0) ∨ (a = t.J 76 X ∧ b = t.J 77 X) ∨ ¬ mcov (t.J 76 X) (t.J 77 X) (t.I 78 X) a b
noncomputable def gtH (t : moS) (X : Nat) (a b h : Int64) : Int64 := @ite _ (hpN t X a b) (Classical.propDecidable _) h a
noncomputable def gtL (t : moS) (X : Nat) (a b l : Int64) : Int64 := @ite _ (hpN t X a b) (Classical.propDecidable _) l b
theorem gtH_p {t : moS} {X : Nat} {a b h : Int64} (c : hpN t X a b) : gtH t X a b h = h := if_pos c
theorem gtL_p {t : moS} {X : Nat} {a b l : Int64} (c : hpN t X a b) : gtL t X a b l = l := if_pos c
theorem gtH_n {t : moS} {X : Nat} {a b h : Int64} (c : ¬ hpN t X a b) : gtH t X a b h = a := if_neg c
theorem gtL_n {t : moS} {X : Nat} {a b l : Int64} (c : ¬ hpN t X a b) : gtL t X a b l = b := if_neg c
section Hp
variable {G H : Nat → Nat → Nat} {sa : Nat → Nat} {x kc ks r p A f i : Nat} {s : cS} {t : moS} {po ho : Int32} {h l : Int64} {L : List Int32} {Q : cS → Nat → Nat → Prop}
theorem c_hop (hR : RR G H sa x s t) (hM : MV t) (hr : r < cR t) (hp : p < cI t r) (hH : HE H s A L f h l po ho) (h75 : t.I 75 (2 * (4 * r + p) + f) ≠ 0) (hi : i < 1000) (k : ∀ s', s'.K = s.K → s'.P = s.P → fr [39] [] [] s s' → PF s' (H 239 x) (fam (nI f)) (gtH t (2 * (4 * r + p) + f) (hiF (fun j => L.getD j 0) i f) (loF (fun j => L.getD j 0) i f) h) (gtL t (2 * (4 * r + p) + f) (hiF (fun j => L.getD j 0) i f) (loF (fun j => L.getD j 0) i f) l) (if f = 0 then 32 else 128) → Q s' kc ks) : C_Rr_takeHop sa (G 1 r) (some A) (nI i) (some (G 2 (4 * r + p))) s kc ks Q := by
  obtain ⟨kA, hb, hPF, ⟨i44, i45, i46⟩, hf⟩ := hH
  have hq := hR.q.1
  have hT := hq.ty
  have k26 := (hq.rt hr).1.1
  have kx := hq.1.1
  have p180 : s.P 180 (G 1 r) = some x := by rw [(hT.p k26 180 30).1, (hq.rt hr).1.2.2]
  have p239 := hT.p kx 239 39
  have p40 := hT.p kA 40 3
  have p41 := hT.p kA 41 12
  have hpo := (hR.q.1.2.2.2.2.2.1 r hr).2.2.2.2.2.2 p hp
  have oP := okr hpo.1.1 4
  have hvi := (hM.r hr).2.2.2.2.2.2.2.2.2.2.1 p hp
  have had : RAd G s t (4 * r + p) f := by
    rcases hf with rfl | rfl
    · exact hpo.2.1
    · exact hpo.2.2.1
  rcases had with ⟨z, -⟩ | ⟨z75, pr, hpr, k14, hPp⟩
  · exact absurd z h75
  have hn : ∃ n, t.I 78 (2 * (4 * r + p) + f) = nI n ∧ n ≤ 128 ∧ nI n ≤ (if f = 0 then (32 : Int32) else 128) := by
    rcases hf with rfl | rfl
    · obtain ⟨n, e, -, hn⟩ := hvi.2.2.2.2.2.2.1 z75
      exact ⟨n, e, by omega, by rw [if_pos rfl]; exact Int32.not_lt.mp (nI_nlt (a := 32) hn (by decide))⟩
    · obtain ⟨n, e, -, hn⟩ := hvi.2.2.2.2.2.2.2.1 z75
      exact ⟨n, e, hn, by rw [if_neg (by decide)]; exact Int32.not_lt.mp (nI_nlt (a := 128) hn (by decide))⟩
  obtain ⟨n, en, hn1, hn2⟩ := hn
  have o5 := okr p239.2 5
  unfold C_Rr_takeHop
  refine ⟨A, rfl, _, gd_to (okr kA 2), _, rfl, oP, ?_⟩
  rw [show s.I (20 * 2 + 4) A = fam (nI f) from i44]
  refine w_adOf hf oP ?_
  rw [hpr]
  refine ⟨_, gd_to (okr k26 9), _, p180, _, gd_to (okr kx 11), _, gd_to (okr kA 2), _, gd_to (okr kA 2), _, p239.1, o5, ?_⟩
  rw [show s.I (20 * 2 + 4) A = fam (nI f) from i44, show s.P (20 * 2 + 0) A = some (H 40 A) from p40.1]
  refine c_take o5 hb (ne_ro p40.2 p239.2) hf (by omega) ?_
  have f1 : fr [39] [] [] s (tkS s (H 239 x) f (fun j => L.getD j 0) i) := ((fr.si (by rw [p239.2]; decide)).tr (fr.si (by show (s.K (H 239 x)).1 ∈ _; rw [p239.2]; decide))).tr ((fr.sj (by show (s.K (H 239 x)).1 ∈ _; rw [p239.2]; decide)).tr (fr.sj (by show (s.K (H 239 x)).1 ∈ _; rw [p239.2]; decide)))
  have v1 := tk_s (s := s) (a := H 239 x) (f := f) (i := i) (g := fun j => L.getD j 0)
  have eK : (tkS s (H 239 x) f (fun j => L.getD j 0) i).K = s.K := rfl
  have eP : (tkS s (H 239 x) f (fun j => L.getD j 0) i).P = s.P := rfl
  generalize tkS s (H 239 x) f (fun j => L.getD j 0) i = s1 at f1 v1 eK eP ⊢
  generalize hiF (fun j => L.getD j 0) i f = a at v1 k
  generalize loF (fun j => L.getD j 0) i f = b at v1 k
  have ok : ∀ {c e}, okO s c e → okO s1 c e := fun {c e} z => by unfold okO at z ⊢; rw [eK]; exact z
  have o9 := ok (okr k26 9)
  have o11 := ok (okr kx 11)
  have oA := ok (okr kA 2)
  have o51 := ok o5
  have o14 := ok (okr k14 5)
  have o12 := ok (okr p41.2 5)
  have q180 : s1.P 180 (G 1 r) = some x := by rw [eP]; exact p180
  have q239 : s1.P 239 x = some (H 239 x) := by rw [eP]; exact p239.1
  have q41 : s1.P 41 A = some (H 41 A) := by rw [eP]; exact p41.1
  obtain ⟨g1, g2, g3, g4⟩ := hPF.fr f1 p41.2 (by decide)
  obtain ⟨q1, q2, q3, q4⟩ := hPp.fr f1 k14 (by decide)
  obtain ⟨w1, w2, w3, w4⟩ := id v1
  have src : hpN t (2 * (4 * r + p) + f) a b → C_Rr_takeHop_b77 sa (G 1 r) (some A) s1 kc ks Q := fun c => by
    unfold C_Rr_takeHop_b77
    refine ⟨_, gd_to o9, _, q180, _, gd_to o11, A, rfl, _, gd_to oA, _, q239, o51, ?_⟩
    rw [show s1.P (20 * 2 + 1) A = some (H 41 A) from q41]
    refine w_copy o51 o12 ?_
    rw [g1, g2, g3, g4]
    rw [gtH_p c, gtL_p c] at k
    exact k _ eK eP (f1.tr (fr.spf (by rw [eK, p239.2]; decide))) cSpf_v
  have cov : pcov (s1.I 100 pr) (s1.J 101 pr) (s1.J 102 pr) (s1.I 103 pr) (s1.I 100 (H 239 x)) (s1.J 101 (H 239 x)) (s1.J 102 (H 239 x)) (s1.I 103 (H 239 x)) ↔ mcov (t.J 76 (2 * (4 * r + p) + f)) (t.J 77 (2 * (4 * r + p) + f)) (t.I 78 (2 * (4 * r + p) + f)) a b := by
    rw [q1, q2, q3, q4, w1, w2, w3, w4, en, pcov_m hn1]
    exact ⟨fun y => y.2.2, fun y => ⟨rfl, hn2, y⟩⟩
  have same : (s1.I 100 pr = s1.I 100 (H 239 x) ∧ s1.J 101 pr = s1.J 101 (H 239 x) ∧ s1.J 102 pr = s1.J 102 (H 239 x)) ↔ (a = t.J 76 (2 * (4 * r + p) + f) ∧ b = t.J 77 (2 * (4 * r + p) + f)) := by
    rw [q1, q2, q3, w1, w2, w3]
    exact ⟨fun y => ⟨y.2.1.symm, y.2.2.symm⟩, fun y => ⟨rfl, y.1.symm, y.2.symm⟩⟩
  refine ifF (by simp) ⟨_, gd_to o9, _, q180, _, gd_to o11, _, q239, o51, w_isZero o51 (fun c => ?_) (fun c => ?_)⟩
  rotate_left
  · rw [w2, w3] at c
    exact ifF (by decide) (src (Or.inl c))
  rw [w2, w3] at c
  refine ifT rfl ⟨_, gd_to o9, _, q180, _, gd_to o11, pr, rfl, o14, ?_⟩
  rw [show s1.P (20 * 11 + 19) x = some (H 239 x) from q239]
  refine w_covers o14 o51 (fun d => ifT rfl (src (Or.inr (Or.inr fun y => d (cov.mpr y))))) (fun d => ifF (by decide) ⟨_, gd_to o9, _, q180, _, gd_to o11, o14, ?_⟩)
  rw [show s1.P (20 * 11 + 19) x = some (H 239 x) from q239]
  refine w_same o14 o51 (fun e => ifT rfl ?_) (fun e => ifF (by decide) (src (Or.inr (Or.inl (same.mp e)))))
  have no : ¬ hpN t (2 * (4 * r + p) + f) a b := fun y => y.elim c fun y => y.elim (fun y => e (same.mpr y)) (fun y => y (cov.mp d))
  rw [gtH_n no, gtL_n no] at k
  exact k s1 eK eP f1 v1
/-- a prefix that no router takes -/
theorem w_forb {e : Nat} {n : Int32} {ph pl : Int64} {Q : Int32 → cS → Nat → Nat → Prop} (h5 : okO s 5 e) (hf : f = 0 ∨ f = 1) (hp : PF s e (fam (nI f)) ph pl n) (k1 : ¬ M_isForbidden (nI f) ph n = 0 → Q 1 s kc ks) (k0 : M_isForbidden (nI f) ph n = 0 → Q 0 s kc ks) : C_Pr_isForbidden sa e s kc ks Q := by
  obtain ⟨a1, a2, a3, a4⟩ := hp
  have e100 : gI s 5 0 e = some (fam (nI f)) := (gd_to h5).trans (congrArg some a1)
  have e103 : gI s 5 3 e = some n := (gd_to h5).trans (congrArg some a4)
  have e101 : gJ s 5 1 e = some ph := (gd_to h5).trans (congrArg some a2)
  have y1 : ((1 : Int32) = 0) = False := eq_false (by decide)
  unfold C_Pr_isForbidden C_Pr_isForbidden_b31 C_Pr_isForbidden_b82
  unfold M_isForbidden M_isForbidden_b21 M_isForbidden_b60 M_isForbidden_b37 M_isForbidden_b41 M_isForbidden_b77 M_isForbidden_b81 at k1 k0
  refine ⟨_, e100, ?_⟩
  rcases hf with rfl | rfl
  · rw [if_pos (show nI 0 = 0 from rfl)] at k1 k0
    refine ifT rfl ⟨_, e103, ?_⟩
    have b31 : ∀ {v : Int32}, ((¬ (if n < 3 then (0 : Int32) else if ush_L ph 61 = 7 then 1 else 0) = 0) → Q 1 s kc ks) → ((if n < 3 then (0 : Int32) else if ush_L ph 61 = 7 then 1 else 0) = 0 → Q 0 s kc ks) → ob (gI s 5 3 e) (fun v1 => (if v1 < (3 : Int32) then (Q (0 : Int32) s kc ks) else (ob (gJ s 5 1 e) (fun v2 => (if (ush_L v2 (61 : Int32)) = (7 : Int64) then (Q (1 : Int32) s kc ks) else (Q (0 : Int32) s kc ks)))))) := fun {v} j1 j0 => by
      refine ⟨_, e103, ?_⟩
      by_cases c : n < 3
      · rw [if_pos c] at j0
        exact ifT c (j0 rfl)
      · rw [if_neg c] at j0 j1
        refine ifF c ⟨_, e101, ?_⟩
        by_cases d : ush_L ph 61 = 7
        · rw [if_pos d] at j1
          exact ifT d (j1 (by decide))
        · rw [if_neg d] at j0
          exact ifF d (j0 rfl)
    by_cases c : n < 8
    · rw [if_pos c] at k1 k0
      exact ifT c (b31 (v := 0) k1 k0)
    · rw [if_neg c] at k1 k0
      refine ifF c ⟨_, e101, ?_⟩
      by_cases d : ush_L ph 56 = 127
      · rw [if_pos d] at k1
        exact ifT d (k1 (by decide))
      · rw [if_neg d] at k1 k0
        exact ifF d (b31 (v := 0) k1 k0)
  · rw [if_neg (show ¬ nI 1 = 0 by decide)] at k1 k0
    refine ifF (by decide) ⟨_, e103, ?_⟩
    have b82 : ∀ {v : Int32}, ((¬ (if n < 8 then (0 : Int32) else if ush_L ph 56 = 255 then 1 else 0) = 0) → Q 1 s kc ks) → ((if n < 8 then (0 : Int32) else if ush_L ph 56 = 255 then 1 else 0) = 0 → Q 0 s kc ks) → ob (gI s 5 3 e) (fun v1 => (if v1 < (8 : Int32) then (Q (0 : Int32) s kc ks) else (ob (gJ s 5 1 e) (fun v2 => (if (ush_L v2 (56 : Int32)) = (255 : Int64) then (Q (1 : Int32) s kc ks) else (Q (0 : Int32) s kc ks)))))) := fun {v} j1 j0 => by
      refine ⟨_, e103, ?_⟩
      by_cases c : n < 8
      · rw [if_pos c] at j0
        exact ifT c (j0 rfl)
      · rw [if_neg c] at j0 j1
        refine ifF c ⟨_, e101, ?_⟩
        by_cases d : ush_L ph 56 = 255
        · rw [if_pos d] at j1
          exact ifT d (j1 (by decide))
        · rw [if_neg d] at j0
          exact ifF d (j0 rfl)
    by_cases c : n < 10
    · rw [if_pos c] at k1 k0
      exact ifT c (b82 (v := 0) k1 k0)
    · rw [if_neg c] at k1 k0
      refine ifF c ⟨_, e101, ?_⟩
      by_cases d : ush_L ph 54 = 1018
      · rw [if_pos d] at k1
        exact ifT d (k1 (by decide))
      · rw [if_neg d] at k1 k0
        exact ifF d (b82 (v := 0) k1 k0)
end Hp
