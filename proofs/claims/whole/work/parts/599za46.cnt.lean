/-! How many routes of a family there are: both sides. -/
def fmC (t : moS) (r f n : Nat) : Nat := ((List.range n).filter (fun i => decide (t.I 106 (2700 * r + i) = nI f))).length
theorem fmC_s {t : moS} {r f n : Nat} : fmC t r f (n + 1) = fmC t r f n + if t.I 106 (2700 * r + n) = nI f then 1 else 0 := by
  unfold fmC
  rw [List.range_succ, List.filter_append, List.length_append]
  congr 1
  by_cases c : t.I 106 (2700 * r + n) = nI f
  · rw [if_pos c, List.filter_cons_of_pos (p := fun i => decide (t.I 106 (2700 * r + i) = nI f)) (decide_eq_true c)]
    rfl
  · rw [if_neg c, List.filter_cons_of_neg (p := fun i => decide (t.I 106 (2700 * r + i) = nI f)) (by rw [decide_eq_true_iff]; exact c)]
    rfl
theorem fmC_le {t : moS} {r f n : Nat} : fmC t r f n ≤ n := by
  have := List.length_filter_le (fun i => decide (t.I 106 (2700 * r + i) = nI f)) (List.range n)
  rw [List.length_range] at this
  exact this
section Ct
variable {G H : Nat → Nat → Nat} {sa : Nat → Nat} {x r f kc ks : Nat} {s : cS} {t : moS} {q metric tag : Int32} {h l : Int64}
theorem w_totF {Q : Int32 → cS → Nat → Nat → Prop} (hq : RQ G H sa x s t) (hM : MV t) (hr : r < cR t) (hf : f = 0 ∨ f = 1) (k : Q (nI (cFm t r f)) s kc ks) : C_Ta_totalOf sa (H 186 (G 1 r)) (fam (nI f)) s kc ks Q := by
  have hn := hM.nRo hr
  have htb := hq.ty.p (hq.rt hr).1.1 186 27
  have hot := okr htb.2 10
  have bf : bit (nI f) := hf.elim (fun z => Or.inl (by rw [z]; rfl)) (fun z => Or.inr (by rw [z]; rfl))
  obtain ⟨⟨b1, b2, b3, w, cap, b4, b5, b6, b7, b8, b9, -⟩, -⟩ := hq.tb hr
  unfold C_Ta_totalOf C_Ta_totalOf_b4
  intro P hP
  have loop : ∀ d j, j + d = cN t r → P (nI (fmC t r f j)) (nI j) s kc ks := by
    intro d
    induction d with
    | zero =>
      intro j hj
      have e : j = cN t r := by omega
      subst e
      apply hP
      unfold C_Ta_totalOf_s4
      refine ⟨_, gd_to hot, ?_⟩
      rw [show s.I (20 * 10 + 1) (H 186 (G 1 r)) = nI (cN t r) from b1]
      exact ifF (nI_nlt (by omega) (by omega)) k
    | succ d ih =>
      intro j hj
      have hj' : j < cN t r := by omega
      obtain ⟨hk23, hw⟩ := hq.row hr hj'
      have p1 := hw.1.1
      have hpx := hq.ty.p hk23 160 9
      have f1 := ((hM.r hr).w hj').1.1
      have nx := ih (j + 1) (by omega)
      rw [fmC_s, ← nI_1] at nx
      apply hP
      unfold C_Ta_totalOf_s4 C_Ta_totalOf_b31
      refine ⟨_, gd_to hot, ?_⟩
      rw [show s.I (20 * 10 + 1) (H 186 (G 1 r)) = nI (cN t r) from b1]
      refine ifT (nI_lt hj' (by omega)) ⟨_, gd_to hot, w, b4, _, gd_to ⟨by rw [b5]; show 130 ≤ 135; decide, by rw [b5]; show 135 < 146; decide, by rw [b5]; exact vp_in_nI (by omega) (by omega)⟩, ?_⟩
      rw [nI_clamp (by omega)]
      refine ⟨_, (b9 j (by omega)).1, _, gd_to (okr hk23 8), _, hpx.1, _, gd_to (okr hpx.2 5), ?_⟩
      rw [show s.I (20 * 5 + 0) (H 160 (G 4 (2700 * r + j))) = fam (t.I 106 (2700 * r + j)) from p1]
      by_cases c : t.I 106 (2700 * r + j) = nI f
      · rw [if_pos c, ← nI_1] at nx
        exact ifT (by rw [c]) nx
      · rw [if_neg c] at nx
        exact ifF (fun z => c ((fam_i f1 bf).mp z)) nx
  exact loop (cN t r) 0 (by omega)
theorem m_cnt (hM : MV t) (hr : r < cR t) : M_learn_b44 t (nI r) q (nI f) metric tag h l 0 ((2700 : Int32) * nI r) = if cFm t r f < 60 then lnN t (nI r) q (nI f) metric tag h l else Option.bind (M_tally t (nI r) (nI 4) 1) (fun s => some s) := by
  have h6 := hM.nR
  have hn := hM.nRo hr
  have e2700 : (2700 : Int32) * nI r = nI (2700 * r) := by rw [show (2700 : Int32) = nI 2700 from rfl, pk_mul]
  have e105 : t.I 105 r = nI (cN t r) := (hM.r hr).2.2.2.2.2.2.2.2.2.2.2.2.1.n.1
  have loop : ∀ d j, j + d = cN t r → lp (fun y : Int32 × Int32 × moS => M_learn_s44 y.2.2 (nI r) q (nI f) metric tag h l y.1 y.2.1) (nI (fmC t r f j), nI (2700 * r + j), t) = if cFm t r f < 60 then lnN t (nI r) q (nI f) metric tag h l else Option.bind (M_tally t (nI r) (nI 4) 1) (fun s => some s) := by
    intro d
    induction d with
    | zero =>
      intro j hj
      have e : j = cN t r := by omega
      have ec : fmC t r f j = cFm t r f := by rw [e]; rfl
      have le : cFm t r f ≤ 2700 := by
        have := fmC_le (t := t) (r := r) (f := f) (n := cN t r)
        rw [← ec, e]
        omega
      rw [ec]
      refine lp_x ?_
      show M_learn_s44 t (nI r) q (nI f) metric tag h l (nI (cFm t r f)) (nI (2700 * r + j)) = _
      unfold M_learn_s44
      rw [rdI_n (n := 6) (hM.n.n 105 6) (by omega) (by decide), e105]
      simp only [Option.bind_some]
      rw [e2700, nI_add, if_neg (nI_nlt (by omega) (by omega))]
      by_cases c : cFm t r f < 60
      · rw [if_pos c, if_pos (show nI (cFm t r f) < 60 from nI_lt (b := 60) c (by decide))]
        rfl
      · rw [if_neg c, if_neg (show ¬ nI (cFm t r f) < 60 from nI_nlt (b := 60) (by omega) (by omega))]
        rfl
    | succ d ih =>
      intro j hj
      have nx := ih (j + 1) (by omega)
      rw [fmC_s] at nx
      have st : M_learn_s44 t (nI r) q (nI f) metric tag h l (nI (fmC t r f j)) (nI (2700 * r + j)) = some (.inl (nI (fmC t r f j + if t.I 106 (2700 * r + j) = nI f then 1 else 0), nI (2700 * r + (j + 1)), t)) := by
        unfold M_learn_s44 M_learn_b79
        rw [rdI_n (n := 6) (hM.n.n 105 6) (by omega) (by decide), e105]
        simp only [Option.bind_some]
        rw [e2700, nI_add, if_pos (nI_lt (by omega) (by omega)), rdI_n (n := 16200) (hM.n.n 106 16200) (by omega) (by decide)]
        simp only [Option.bind_some]
        by_cases c : t.I 106 (2700 * r + j) = nI f
        · rw [if_pos c, if_pos c, nI_1, nI_1]
          rfl
        · rw [if_neg c, if_neg c, Int32.add_zero, nI_1]
          rfl
      rw [lp_l (show (fun y : Int32 × Int32 × moS => M_learn_s44 y.2.2 (nI r) q (nI f) metric tag h l y.1 y.2.1) (nI (fmC t r f j), nI (2700 * r + j), t) = _ from st)]
      exact nx
  unfold M_learn_b44
  rw [e2700]
  exact loop (cN t r) 0 (by omega)
end Ct
