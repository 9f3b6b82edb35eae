/-! How many routes there may be; rows by the map's keys. -/
theorem nd_le {α : Type} [DecidableEq α] : ∀ (L O : List α), L.Nodup → (∀ x, x ∈ L → x ∈ O) → L.length ≤ O.length
  | [], _, _, _ => Nat.zero_le _
  | x :: L, O, hn, hs => by
    obtain ⟨h1, h2⟩ := List.nodup_cons.mp hn
    have hx := hs x (by simp)
    have := nd_le L (O.erase x) h2 fun y hy => by
      refine (List.mem_erase_of_ne ?_).mpr (hs y (List.mem_cons_of_mem _ hy))
      intro e
      rw [e] at hy
      exact h1 hy
    rw [List.length_erase_of_mem hx] at this
    have hpos := List.length_pos_of_mem hx
    show L.length + 1 ≤ _
    omega
def KB (K : List Pf) (t : moS) (r : Nat) : Prop := K.length ≤ 880 ∧ ∀ j, j < cN t r → pfR t (2700 * r + j) ∈ K
section Kb
variable {t t' : moS} {r : Nat} {K : List Pf} {P : Pf} {f n : Int32} {h l : Int64}
theorem rows_nd (hM : MV t) (hr : r < cR t) : ((List.range (cN t r)).map fun j => pfR t (2700 * r + j)).Nodup := by
  refine List.pairwise_map.mpr ?_
  refine List.Pairwise.imp_of_mem (R := fun i j => i < j) ?_ List.pairwise_lt_range
  intro i j hi hj hij z
  have := pfR_u hM hr (List.mem_range.mp hi) (List.mem_range.mp hj) z
  omega
theorem KB.lt (k : KB K t r) (hM : MV t) (hr : r < cR t) (hP : P ∈ K) (hn : ∀ j, j < cN t r → pfR t (2700 * r + j) ≠ P) : cN t r < 880 := by
  have := nd_le (P :: (List.range (cN t r)).map fun j => pfR t (2700 * r + j)) K (List.nodup_cons.mpr ⟨fun z => ?_, rows_nd hM hr⟩) fun y hy => ?_
  · simp only [List.length_cons, List.length_map, List.length_range] at this
    have := k.1
    omega
  · obtain ⟨j, h1, h2⟩ := List.mem_map.mp z
    exact hn j (List.mem_range.mp h1) h2
  · rcases List.mem_cons.mp hy with e | e
    · rw [e]; exact hP
    · obtain ⟨j, h1, h2⟩ := List.mem_map.mp e
      rw [← h2]
      exact k.2 j (List.mem_range.mp h1)
/-- the keys are the same, and one more perhaps -/
theorem KB.up (k : KB K t r) (hM : MV t) (hM' : MV t') (hr : r < cR t) (hr' : r < cR t') (hP : P ∈ K) (e : ∀ P', P' ≠ P → Vt t' r P' = Vt t r P') : KB K t' r := by
  refine ⟨k.1, fun j hj => ?_⟩
  by_cases c : pfR t' (2700 * r + j) = P
  · rw [c]; exact hP
  · have h1 := Vt_some hM' hr' hj rfl
    rw [e _ c] at h1
    apply Classical.byContradiction
    intro z
    rw [Vt_none] at h1
    · cases h1
    · intro i hi y
      exact z (by rw [← y]; exact k.2 i hi)
theorem key_rows (hM : MV t) (hM' : MV t') (hr : r < cR t) (hr' : r < cR t') (e : ∀ P, Vt t' r P = none ↔ Vt t r P = none) : cN t' r = cN t r ∧ ∀ j, j < cN t r → pfR t' (2700 * r + j) = pfR t (2700 * r + j) := by
  have dir : ∀ {t t' : moS}, MV t → MV t' → r < cR t → r < cR t' → (∀ P, Vt t' r P = none → Vt t r P = none) → ∀ i, i < cN t r → ∃ j, j < cN t' r ∧ kyR t' (2700 * r + j) = kyR t (2700 * r + i) := by
    intro t t' hM hM' hr hr' e i hi
    have h1 := Vt_some hM hr hi rfl
    apply Classical.byContradiction
    intro z
    have h2 := e (pfR t (2700 * r + i)) (Vt_none fun j hj y => z ⟨j, hj, (pfR_k (hM'.kl hr' hj) (hM.kl hr hi)).mp y⟩)
    rw [h1] at h2
    cases h2
  have l1 := srt_le (a := fun i => kyR t (2700 * r + i)) (b := fun i => kyR t' (2700 * r + i)) (fun i j h1 h2 => hM.ks hr h1 h2) (fun i j h1 h2 => hM'.ks hr' h1 h2) (dir hM hM' hr hr' fun P => (e P).mp)
  have l2 := srt_le (a := fun i => kyR t' (2700 * r + i)) (b := fun i => kyR t (2700 * r + i)) (fun i j h1 h2 => hM'.ks hr' h1 h2) (fun i j h1 h2 => hM.ks hr h1 h2) (dir hM' hM hr' hr fun P => (e P).mpr)
  have en : cN t' r = cN t r := Nat.le_antisymm l2.1 l1.1
  refine ⟨en, fun j hj => ?_⟩
  have hj' : j < cN t' r := by rw [en]; exact hj
  exact (pfR_k (hM'.kl hr' hj') (hM.kl hr hj)).mpr (Nat.le_antisymm (l1.2 j hj) (l2.2 j hj'))
/-- all that a settling needs, from one state to the next -/
def SQ (K : List Pf) (t0 : moS) (r : Nat) (t : moS) : Prop := MV t ∧ rwT r t0 t ∧ KB K t r ∧ ∀ i, i ≠ 7 → t.I 45 (11 * r + i) = t0.I 45 (11 * r + i)
theorem SQ.cr {t0 : moS} (q : SQ K t0 r t) (hr : r < cR t0) : r < cR t := by unfold cR; rw [q.2.1.1.S 37 (by decide)]; exact hr
theorem SQ.d {t0 : moS} (q : SQ K t0 r t) : dF t r = dF t0 r ∧ tgM t r = tgM t0 r ∧ g0M t r = g0M t0 r := by
  obtain ⟨-, c, -, h⟩ := q
  refine ⟨dF_fr c.1, ?_, ?_⟩
  · unfold tgM
    rw [c.1.S 1 (by decide), c.1.I 42 (by decide)]
  · unfold g0M
    rw [c.1.S 1 (by decide), h 6 (by decide)]
/-- one step -/
theorem SQ.st {t0 : moS} (q : SQ K t0 r t) (hr : r < cR t0) (hf : lnOk f n) (hP : (f, h, l, n) ∈ K) : ∃ t', SA t r f h l n = some t' ∧ SQ K t0 r t' ∧ al t' r = st1 (dF t0 r) (tgM t0 r) (g0M t0 r) (f, h, l, n) (al t r) := by
  have hr1 := q.cr hr
  obtain ⟨d1, d2, d3⟩ := q.d
  obtain ⟨hM, c, k, h45⟩ := id q
  obtain ⟨t', e1, e2, e3, e4, e5⟩ := al_sa (h := h) (l := l) hM hr1 hf fun z => k.lt hM hr1 hP fun j hj y => z j hj ((pfR_v (hM.kl hr1 hj) hf).mp y)
  rw [d1, d2, d3] at e4
  refine ⟨t', e1, ⟨e2, c.tr e3, ?_, fun i hi => (e5 i hi).trans (h45 i hi)⟩, e4⟩
  refine k.up hM e2 hr1 (by unfold cR; rw [e3.1.S 37 (by decide)]; exact hr1) hP fun P' hne => ?_
  have := congrArg (fun y : AA => y.1 P') e4
  have this : Vt t' r P' = (st1 (dF t0 r) (tgM t0 r) (g0M t0 r) (f, h, l, n) (al t r)).1 P' := this
  rw [this, st1_n hne]
  rfl
/-- a list of steps -/
noncomputable def SAs (t : moS) (r : Nat) : List Pf → Option moS
  | [] => some t
  | P :: L => Option.bind (SA t r P.1 P.2.1 P.2.2.1 P.2.2.2) fun t' => SAs t' r L
theorem SQ.sts {t0 : moS} (hr : r < cR t0) : ∀ (L : List Pf) (t : moS), SQ K t0 r t → (∀ P, P ∈ L → lnOk P.1 P.2.2.2 ∧ P ∈ K) → ∃ t', SAs t r L = some t' ∧ SQ K t0 r t' ∧ al t' r = fld (st1 (dF t0 r) (tgM t0 r) (g0M t0 r)) L (al t r)
  | [], t, q, _ => ⟨t, rfl, q, rfl⟩
  | P :: L, t, q, hL => by
    obtain ⟨f, h, l, n⟩ := P
    obtain ⟨h1, h2⟩ := hL (f, h, l, n) (by simp)
    obtain ⟨t1, e1, q1, a1⟩ := q.st hr h1 h2
    obtain ⟨t2, e2, q2, a2⟩ := SQ.sts hr L t1 q1 fun P' hP => hL P' (List.mem_cons_of_mem _ hP)
    refine ⟨t2, ?_, q2, ?_⟩
    · show Option.bind (SA t r f h l n) _ = _
      rw [e1]
      exact e2
    · rw [a2, a1]
      rfl
end Kb
