/-! A router's table of the model as a map: from prefixes to what matters of a route. -/
def pfR (t : moS) (k : Nat) : Pf := (t.I 106 k, t.J 107 k, t.J 108 k, t.I 109 k)
def rvN (t : moS) (k : Nat) : NV := (t.I 110 k, t.I 111 k, t.I 112 k, t.I 113 k, t.I 119 k, t.J 114 k, t.J 115 k, (if t.I 110 k = 2 ∧ t.I 111 k ≠ 16 then (t.I 120 k, t.I 121 k) else (0, 0)), (if t.I 110 k = 2 ∧ t.I 111 k = 16 then t.I 122 k else 0), if t.I 110 k = 2 ∧ t.I 113 k ≠ -1 then (t.J 117 k, t.J 118 k) else (0, 0))
noncomputable def Vt (t : moS) (r : Nat) : Pf → Option NV := fun P => @dite _ (∃ j, j < cN t r ∧ pfR t (2700 * r + j) = P) (Classical.propDecidable _) (fun h => some (rvN t (2700 * r + h.choose))) (fun _ => none)
noncomputable def dF (t : moS) (r : Nat) : Pf → Option DU := fun P => @dite _ (∃ q : DU, isDu t r P.1 P.2.1 P.2.2.1 P.2.2.2 q.1 q.2.1 q.2.2.1 q.2.2.2) (Classical.propDecidable _) (fun h => some h.choose) (fun _ => none)
noncomputable def al (t : moS) (r : Nat) : AA := (Vt t r, t.I 45 (11 * r + 7), t.I 44 r)
/-- what a settling needs to know besides -/
abbrev tgM (t : moS) (r : Nat) : Int32 := t.S 1 + t.I 42 r
abbrev g0M (t : moS) (r : Nat) : Int32 := t.S 1 + 1 + rem_I (nI r + t.I 45 (11 * r + 6)) 5
section Vw
variable {t t' td t2 : moS} {r j i k k' : Nat} {f n dk dm di dt : Int32} {h l : Int64} {P : Pf}
theorem pfR_k {k' : Nat} (a : lnOk (t.I 106 k) (t.I 109 k)) (b : lnOk (t'.I 106 k') (t'.I 109 k')) : pfR t k = pfR t' k' ↔ kyR t k = kyR t' k' := by
  unfold kyR pfR
  rw [kyV_i a b]
  simp only [Prod.mk.injEq]
theorem pfR_v (a : lnOk (t.I 106 k) (t.I 109 k)) (b : lnOk f n) : pfR t k = (f, h, l, n) ↔ kyR t k = kyV f h l n := by
  unfold kyR pfR
  rw [kyV_i a b]
  simp only [Prod.mk.injEq]
theorem pfR_u (hM : MV t) (hr : r < cR t) (hi : i < cN t r) (hj : j < cN t r) (e : pfR t (2700 * r + i) = pfR t (2700 * r + j)) : i = j := by
  have e := (pfR_k (hM.kl hr hi) (hM.kl hr hj)).mp e
  rcases Nat.lt_trichotomy i j with z | z | z
  · have := hM.ks hr z hj; omega
  · exact z
  · have := hM.ks hr z hi; omega
theorem Vt_some (hM : MV t) (hr : r < cR t) (hj : j < cN t r) (e : pfR t (2700 * r + j) = P) : Vt t r P = some (rvN t (2700 * r + j)) := by
  have hx : ∃ j, j < cN t r ∧ pfR t (2700 * r + j) = P := ⟨j, hj, e⟩
  unfold Vt
  rw [dif_pos hx]
  have := hx.choose_spec
  rw [pfR_u hM hr this.1 hj (this.2.trans e.symm)]
theorem Vt_none (e : ∀ j, j < cN t r → pfR t (2700 * r + j) ≠ P) : Vt t r P = none := by
  unfold Vt
  rw [dif_neg (fun z => by
    obtain ⟨j, h1, h2⟩ := z
    exact e j h1 h2)]
theorem rvN_mv (mi : ∀ g, g ∈ fRI → t'.I g k' = t.I g k) (mj : ∀ g, g ∈ fRJ → t'.J g k' = t.J g k) : rvN t' k' = rvN t k ∧ pfR t' k' = pfR t k := by
  unfold rvN pfR
  rw [mi 106 (by decide), mi 109 (by decide), mi 110 (by decide), mi 111 (by decide), mi 112 (by decide), mi 113 (by decide), mi 119 (by decide), mi 120 (by decide), mi 121 (by decide), mi 122 (by decide), mj 107 (by decide), mj 108 (by decide), mj 114 (by decide), mj 115 (by decide), mj 117 (by decide), mj 118 (by decide)]
  exact ⟨rfl, rfl⟩
/-- a row is another, at its place -/
theorem Vt_at (hM : MV t) (hM' : MV t') (hr : r < cR t) (hr' : r < cR t') (hn : cN t' r = cN t r) (hj : j < cN t r) (hp : ∀ i, i < cN t r → pfR t' (2700 * r + i) = pfR t (2700 * r + i)) (hv : ∀ i, i < cN t r → i ≠ j → rvN t' (2700 * r + i) = rvN t (2700 * r + i)) (e : pfR t (2700 * r + j) = P) : Vt t' r = fun P' => if P' = P then some (rvN t' (2700 * r + j)) else Vt t r P' := by
  funext P'
  by_cases c : ∃ i, i < cN t r ∧ pfR t (2700 * r + i) = P'
  · obtain ⟨i, h1, h2⟩ := c
    rw [Vt_some hM' hr' (j := i) (by rw [hn]; exact h1) (by rw [hp i h1]; exact h2)]
    by_cases c2 : P' = P
    · rw [if_pos c2, pfR_u hM hr h1 hj (by rw [h2, e, c2])]
    · rw [if_neg c2, Vt_some hM hr h1 h2, hv i h1 (fun z => c2 (by rw [← h2, ← e, z]))]
  · have c' : ∀ i, i < cN t r → pfR t (2700 * r + i) ≠ P' := fun i h1 h2 => c ⟨i, h1, h2⟩
    rw [Vt_none (t := t') (fun i hi => by rw [hn] at hi; rw [hp i hi]; exact c' i hi), if_neg (fun z => c' j hj (by rw [z]; exact e)), Vt_none c']
/-- a row more -/
theorem Vt_in (hM : MV t) (hM' : MV t') (hr : r < cR t) (hr' : r < cR t') (hn : cN t' r = cN t r + 1) (hi : i ≤ cN t r) (hp : ∀ j, j ≤ cN t r → j ≠ i → pfR t' (2700 * r + j) = pfR t (2700 * r + (if i < j then j - 1 else j)) ∧ rvN t' (2700 * r + j) = rvN t (2700 * r + (if i < j then j - 1 else j))) (e : pfR t' (2700 * r + i) = P) : Vt t' r = fun P' => if P' = P then some (rvN t' (2700 * r + i)) else Vt t r P' := by
  funext P'
  by_cases c2 : P' = P
  · rw [if_pos c2]
    exact Vt_some hM' hr' (by omega) (by rw [c2]; exact e)
  · rw [if_neg c2]
    by_cases c : ∃ y, y < cN t r ∧ pfR t (2700 * r + y) = P'
    · obtain ⟨y, h1, h2⟩ := c
      have hj : (if y < i then y else y + 1) ≤ cN t r ∧ (if y < i then y else y + 1) ≠ i ∧ (if i < (if y < i then y else y + 1) then (if y < i then y else y + 1) - 1 else (if y < i then y else y + 1)) = y := by
        by_cases z : y < i
        · rw [if_pos z]
          refine ⟨by omega, by omega, if_neg (by omega)⟩
        · rw [if_neg z]
          refine ⟨by omega, by omega, ?_⟩
          rw [if_pos (by omega)]; omega
      obtain ⟨q1, q2⟩ := hp _ hj.1 hj.2.1
      rw [hj.2.2] at q1 q2
      rw [Vt_some hM hr h1 h2, Vt_some hM' hr' (j := if y < i then y else y + 1) (by omega) (by rw [q1]; exact h2), q2]
    · have c' : ∀ y, y < cN t r → pfR t (2700 * r + y) ≠ P' := fun i h1 h2 => c ⟨i, h1, h2⟩
      rw [Vt_none c', Vt_none]
      intro j hj
      by_cases z : j = i
      · rw [z, e]; exact fun y => c2 y.symm
      · rw [(hp j (by omega) z).1]
        exact c' _ (by split <;> omega)
theorem isDu.uq {dk' dm' di' dt' : Int32} (a : isDu t r f h l n dk dm di dt) (b : isDu t r f h l n dk' dm' di' dt') : ((dk, dm, di, dt) : DU) = (dk', dm', di', dt') := by
  rcases a with ⟨p, h1, h2, h3, rfl, rfl, rfl, rfl⟩ | ⟨h1, k, h2, h3, h4, rfl, rfl, rfl, rfl⟩ <;> rcases b with ⟨p', g1, g2, g3, rfl, rfl, rfl, rfl⟩ | ⟨g1, k', g2, g3, g4, rfl, rfl, rfl, rfl⟩
  · have : p = p' := by
      rcases Nat.lt_trichotomy p p' with z | z | z
      · exact absurd h2 (g3 p z)
      · exact z
      · exact absurd g2 (h3 p' z)
    rw [this]
  · exact absurd h2 (g1 p h1)
  · exact absurd g2 (h1 p' g1)
  · have : k = k' := by
      rcases Nat.lt_trichotomy k k' with z | z | z
      · exact absurd h3 (g4 k z)
      · exact z
      · exact absurd g3 (h4 k' z)
    rw [this]
theorem dF_some (a : isDu t r f h l n dk dm di dt) : dF t r (f, h, l, n) = some (dk, dm, di, dt) := by
  have hx : ∃ q : DU, isDu t r f h l n q.1 q.2.1 q.2.2.1 q.2.2.2 := ⟨(dk, dm, di, dt), a⟩
  unfold dF
  rw [dif_pos hx]
  exact congrArg some (isDu.uq hx.choose_spec a)
theorem dF_none (a : noDu t r f h l n) : dF t r (f, h, l, n) = none := by
  unfold dF
  rw [dif_neg]
  rintro ⟨q, z⟩
  rcases z with ⟨p, h1, h2, -⟩ | ⟨-, k, h1, h2, -⟩
  · exact a.1 p h1 h2
  · exact a.2 k h1 h2
theorem isDu.fr (m : mfr Wrow t t') : isDu t' r f h l n dk dm di dt ↔ isDu t r f h l n dk dm di dt := by
  unfold isDu upN cI cSt kyS
  rw [m.I 22 (by decide), m.I 46 (by decide), m.I 47 (by decide), m.J 48 (by decide), m.J 49 (by decide), m.I 50 (by decide), m.I 51 (by decide), m.I 52 (by decide), m.I 70 (by decide), m.I 71 (by decide), m.I 72 (by decide), m.I 75 (by decide), m.J 76 (by decide), m.J 77 (by decide), m.I 78 (by decide)]
theorem dF_fr (m : mfr Wrow t t') : dF t' r = dF t r := by
  funext P
  obtain ⟨f, h, l, n⟩ := P
  by_cases c : ∃ q : DU, isDu t r f h l n q.1 q.2.1 q.2.2.1 q.2.2.2
  · obtain ⟨q, hq⟩ := c
    rw [dF_some hq, dF_some ((isDu.fr m).mpr hq)]
  · unfold dF
    rw [dif_neg c, dif_neg]
    rintro ⟨q, hq⟩
    exact c ⟨q, (isDu.fr m).mp hq⟩
theorem Vt_du (m : mfr Wdu t td) (hM : MV t) (hr : r < cR t) : Vt td r = Vt t r := by
  funext P
  have e1 : cN td r = cN t r := by unfold cN; rw [m.I 105 (by decide)]
  have e2 : ∀ k, rvN td k = rvN t k ∧ pfR td k = pfR t k := fun k => rvN_mv (fun g hg => by rw [m.I g (by revert hg; revert g; decide)]) fun g hg => by rw [m.J g (by revert hg; revert g; decide)]
  have hM' : MV td := hM.fr m rfl (hM.1.fr m rfl)
  have hr' : r < cR td := by rw [(mdu m).1]; exact hr
  by_cases c : ∃ j, j < cN t r ∧ pfR t (2700 * r + j) = P
  · obtain ⟨j, h1, h2⟩ := c
    rw [Vt_some hM hr h1 h2, Vt_some hM' hr' (j := j) (by rw [e1]; exact h1) (by rw [(e2 _).2]; exact h2), (e2 _).1]
  · rw [Vt_none (t := t) (fun j h1 h2 => c ⟨j, h1, h2⟩), Vt_none (t := td)]
    intro j h1 h2
    rw [e1] at h1
    rw [(e2 _).2] at h2
    exact c ⟨j, h1, h2⟩
theorem al_du (m : mfr Wdu t td) (hM : MV t) (hr : r < cR t) : al td r = al t r := by
  unfold al
  rw [Vt_du m hM hr, m.I 45 (by decide), m.I 44 (by decide)]
end Vw
