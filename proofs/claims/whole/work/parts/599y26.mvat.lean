/-! Rows of the model that are others: what holds of the model alone. -/
section Ma
variable {r j k : Nat} {t t' : moS} {dk dm di dt v : Int32}
theorem mv_at (hM : MV t) (hr : r < cR t) (ct : rwT r t t') (hn : t'.I 105 r = t.I 105 r) (oI : ∀ g, g ∈ fRI → ∀ i, i ≠ 2700 * r + j → t'.I g i = t.I g i) (oJ : ∀ g, g ∈ fRJ → ∀ i, i ≠ 2700 * r + j → t'.J g i = t.J g i) (ky : kyR t' (2700 * r + j) = kyR t (2700 * r + j)) (hmr : mRw t' r (2700 * r + j)) : MV t' := by
  have en : cN t' r = cN t r := by unfold cN; rw [hn]
  have ei : cI t' r = cI t r := by unfold cI; rw [ct.1.I 70 (by decide)]
  have kyo : ∀ i, kyR t' (2700 * r + i) = kyR t (2700 * r + i) := fun i => by
    by_cases e : i = j
    · rw [e]; exact ky
    · unfold kyR
      rw [oI 106 (by decide) _ (by omega), oI 109 (by decide) _ (by omega), oJ 107 (by decide) _ (by omega), oJ 108 (by decide) _ (by omega)]
  refine hM.rw hr ct ?_ (fun i hi => ?_) fun i i' h1 h2 => ?_
  · rw [hn]; exact (hM.r hr).2.2.2.2.2.2.2.2.2.2.2.2.1
  · rw [en] at hi
    by_cases e : i = j
    · rw [e]; exact hmr
    · exact ((hM.r hr).w hi).mv ei (fun g hg => oI g hg _ (by omega)) (fun g hg => oJ g hg _ (by omega))
  · rw [en] at h2
    rw [kyo, kyo]
    exact hM.ks hr h1 h2
theorem mv_mk (hM : MV t) (hr : r < cR t) (hj : j < cN t r) : MV (mkM t r (2700 * r + j)) := by
  have h9 := hM.nRo hr
  have mI : ∀ g, g ∈ fRI → g ≠ 119 → ∀ i, (mkM t r (2700 * r + j)).I g i = t.I g i := fun g hg h1 i => by rw [mkM_I hg, if_neg (fun z => h1 z.1)]
  refine mv_at hM hr (rwT.mk (by omega)) (by rw [mkM_5]) (fun g hg i hi => by rw [mkM_I hg, if_neg (fun z => hi z.2)]) (fun g hg i hi => by rw [mkM_J]) ?_ ?_
  · unfold kyR
    rw [mI 106 (by decide) (by decide), mI 109 (by decide) (by decide), mkM_J]
  · have := (hM.r hr).w hj
    have ei : cI (mkM t r (2700 * r + j)) r = cI t r := by unfold cI; rw [(rwT.mk (t := t) (r := r) (k := 2700 * r + j) (by omega)).1.I 70 (by decide)]
    unfold mRw at this ⊢
    rw [ei, mkM_J, mI 106 (by decide) (by decide), mI 109 (by decide) (by decide), mI 110 (by decide) (by decide), mI 111 (by decide) (by decide), mI 112 (by decide) (by decide), mI 113 (by decide) (by decide), mI 116 (by decide) (by decide), mkM_I (by decide), if_pos ⟨rfl, rfl⟩]
    obtain ⟨e1, e2, e3, e4, e5, e6, e7, e8, e9, e10, e11⟩ := this
    exact ⟨e1, e2, e3, e4, e5, e6, e7, e8, e9, Or.inr rfl, e11⟩
theorem mv_be (hM : MV t) (hr : r < cR t) (hj : j < cN t r) (hd : dueOk t r dk dm di dt) : MV (beM t (2700 * r + j) dk dm di dt) := by
  have h9 := hM.nRo hr
  have h6 := hM.nR
  have hm := (hM.r hr).w hj
  have dk2 : dk ≠ 2 := by rcases hd.1 with e | e <;> rw [e] <;> decide
  have ct : rwT r t (beM t (2700 * r + j) dk dm di dt) := rwT.be (by omega)
  refine mv_at hM hr ct (by rw [beM_I]; split <;> rfl) (fun g hg i hi => by rw [beM_I, if_neg hi]) (fun g hg i hi => by rw [beM_J, if_neg hi]) ?_ ?_
  · unfold kyR
    simp only [beM_I, beM_J, if_true]
    rfl
  · have ei : cI (beM t (2700 * r + j) dk dm di dt) r = cI t r := by unfold cI; rw [ct.1.I 70 (by decide)]
    obtain ⟨e1, e2, e3, e4, e5, e6, e7, e8, e9, e10, e11, e12⟩ := hm
    obtain ⟨y1, y2, y3, y4, y5⟩ := id hd
    have nn : ∀ q, q < 100 → nI q ≠ -1 := by decide +kernel
    have h4 := hM.nIf hr
    have v : ∀ g, (beM t (2700 * r + j) dk dm di dt).I g (2700 * r + j) = (if g = 122 then -1 else if g = 116 then -1 else if g = 112 then dt else if g = 113 then di else if g = 111 then dm else if g = 110 then dk else t.I g (2700 * r + j)) := fun g => by rw [beM_I, if_pos rfl]
    have vJ : ∀ g, (beM t (2700 * r + j) dk dm di dt).J g (2700 * r + j) = (if g = 115 then 0 else if g = 114 then 0 else t.J g (2700 * r + j)) := fun g => by rw [beM_J, if_pos rfl]
    unfold mRw
    rw [ei, v 106, v 109, v 110, v 111, v 112, v 113, v 116, v 119, vJ 114, vJ 115]
    refine ⟨e1, ?_, ?_, fun _ => y2, y3, hd.i, fun z => ?_, y5, fun _ => ⟨rfl, rfl⟩, e10, fun z => absurd z dk2, fun _ => rfl⟩
    · show rng dk 0 2
      rcases y1 with e | e <;> rw [e]
      · exact ⟨0, rfl, by omega, by omega⟩
      · exact ⟨1, rfl, by omega, by omega⟩
    · exact y2.wk (by omega) (by omega)
    · obtain ⟨q, q1, q2, q3⟩ := y4 z
      show di ≠ -1
      rw [q1]
      exact nn q (by omega)
/-- a route dead, not learned from anybody any more -/
def laM (t : moS) (k : Nat) (v : Int32) : moS := moSI (moSI (foM t k) 111 k 16) 122 k v
theorem laM_I {g i : Nat} : (laM t k v).I g i = if i = k then (if g = 122 then v else if g = 111 then 16 else if g = 116 then -1 else if g = 113 then -1 else if g = 112 then 0 else if g = 110 then 2 else t.I g i) else t.I g i := by
  unfold laM foM
  simp only [evMI]
  by_cases c : i = k
  · simp only [c, and_true, if_true]
  · simp only [c, and_false, if_false]
theorem rwT.la (hb : 2700 * r ≤ k ∧ k < 2700 * r + 2700) : rwT r t (laM t k v) := ((rwT.fo hb).tr (rwT.i (by decide) hb)).tr (rwT.i (by decide) hb)
theorem mv_la (hM : MV t) (hr : r < cR t) (hj : j < cN t r) : MV (laM t (2700 * r + j) v) := by
  have h9 := hM.nRo hr
  have h6 := hM.nR
  obtain ⟨e1, e2, e3, e4, e5, e6, e7, e8, e9, e10, e11, e12⟩ := (hM.r hr).w hj
  have ct : rwT r t (laM t (2700 * r + j) v) := rwT.la (by omega)
  have mv : ∀ g, (laM t (2700 * r + j) v).I g (2700 * r + j) = (if g = 122 then v else if g = 111 then 16 else if g = 116 then -1 else if g = 113 then -1 else if g = 112 then 0 else if g = 110 then 2 else t.I g (2700 * r + j)) := fun g => by rw [laM_I, if_pos rfl]
  have mJ : (laM t (2700 * r + j) v).J = t.J := rfl
  refine mv_at hM hr ct (by rw [laM_I]; split <;> rfl) (fun g hg i hi => by rw [laM_I, if_neg hi]) (fun g hg i hi => by rw [mJ]) ?_ ?_
  · unfold kyR
    rw [mv 106, mv 109, mJ]
    rfl
  · have ei : cI (laM t (2700 * r + j) v) r = cI t r := by unfold cI; rw [ct.1.I 70 (by decide)]
    unfold mRw
    rw [ei, mJ, mv 106, mv 109, mv 110, mv 111, mv 112, mv 113, mv 116, mv 119]
    exact ⟨e1, ⟨2, rfl, by omega, by omega⟩, ⟨16, rfl, by omega, by omega⟩, fun z => absurd rfl z, ⟨0, rfl, by omega, by omega⟩, Or.inl rfl, fun z => absurd (show (2 : Int32) = 0 from z) (by decide), fun z => absurd (show (2 : Int32) = 1 from z) (by decide), fun z => absurd rfl z, e10, fun _ => rfl, fun z => absurd rfl z⟩
end Ma
