/-! A learned route's time begins anew; what learning leaves. -/
section Tm
variable {G H : Nat → Nat → Nat} {sa : Nat → Nat} {x r p w a k j : Nat} {s : cS} {t t' : moS} {metric tag tm to : Int32} {h l : Int64}
theorem rr_tmo (hR : RR G H sa x s t) (hM : MV t) (hr : r < cR t) (hj : j < cN t r) (ea : a = G 4 (2700 * r + j)) (ek : k = 2700 * r + j) (h2 : t.I 110 k = 2) (h16 : t.I 111 k ≠ 16) : RR G H sa x (dlS (cSI (cSI s 168 a tm) 169 a to) (G 1 r) a (tm + to)) (moSI (moSI t 120 k tm) 121 k to) ∧ MV (moSI (moSI t 120 k tm) 121 k to) := by
  subst ek
  have hn' := hM.nRo hr
  have hq := hR.q.1
  have hT := hq.ty
  obtain ⟨b0, b1, b2⟩ := hq.tb hr
  obtain ⟨c1, c2, c3, w, cap, d1, d2, d3, d4, d5, d6, d7, d8⟩ := id b0
  have k1 := (hq.rt hr).1.1
  have ka : (s.K a).1 = 23 := by rw [ea]; exact (d6 j (by omega)).2
  have kw : (s.K w).1 = 135 := by rw [d2]
  have k9 := (hT.p ka 160 9).2
  have k10 := (hT.p ka 161 10).2
  have k11 := (hT.p ka 162 11).2
  have ktb := (hT.p k1 186 27).2
  have hra : G 1 r ≠ a := ne_ro k1 ka
  generalize hv : tm + to = v
  have sI : ∀ g b, (dlS (cSI (cSI s 168 a tm) 169 a to) (G 1 r) a v).I g b = if g = 199 ∧ b = G 1 r then (if v < s.I 199 (G 1 r) then v else s.I 199 (G 1 r)) else if g = 170 ∧ b = a then v else if g = 169 ∧ b = a then to else if g = 168 ∧ b = a then tm else s.I g b := fun g b => by
    have e199 : (cSI (cSI s 168 a tm) 169 a to).I 199 (G 1 r) = s.I 199 (G 1 r) := by rw [cSI_g (by decide), cSI_g (by decide)]
    unfold dlS
    rw [e199]
    by_cases c : v < s.I 199 (G 1 r)
    · rw [if_pos c, if_pos c, evI, evI, evI, evI]
    · rw [if_neg c, if_neg c, evI, evI, evI]
      by_cases c2 : g = 199 ∧ b = G 1 r
      · rw [if_pos c2, c2.1, c2.2, if_neg (by omega), if_neg (by omega), if_neg (by omega)]
      · rw [if_neg c2]
  obtain ⟨nK, nP, nE, nQ, nJ⟩ := dlS_k (s := cSI (cSI s 168 a tm) 169 a to) (rr := G 1 r) (a := a) (v := v)
  have c : rwC G H r a w s (dlS (cSI (cSI s 168 a tm) 169 a to) (G 1 r) a v) := ((rwC.i (Or.inr (Or.inl rfl))).tr (rwC.i (Or.inr (Or.inl rfl)))).tr (rwC.dl rfl)
  generalize hs' : dlS (cSI (cSI s 168 a tm) 169 a to) (G 1 r) a v = s' at sI nK nP nE nQ nJ c
  clear hs'
  have nJ : s'.J = s.J := nJ
  have nP : s'.P = s.P := nP
  have hRW := b1 j hj
  rw [← ea] at hRW
  have hmr := (hM.r hr).w hj
  have hb : 2700 * r ≤ 2700 * r + j ∧ 2700 * r + j < 2700 * r + 2700 := by omega
  have ct : rwT r t (moSI (moSI t 120 (2700 * r + j) tm) 121 (2700 * r + j) to) := (rwT.i (by decide) hb).tr (rwT.i (by decide) hb)
  have mI : ∀ g i, (moSI (moSI t 120 (2700 * r + j) tm) 121 (2700 * r + j) to).I g i = if i = 2700 * r + j then (if g = 121 then to else if g = 120 then tm else t.I g i) else t.I g i := fun g i => by
    rw [evMI, evMI]
    by_cases y : i = 2700 * r + j
    · simp only [y, and_true, if_true]
    · simp only [y, and_false, if_false]
  have mJ : (moSI (moSI t 120 (2700 * r + j) tm) 121 (2700 * r + j) to).J = t.J := rfl
  generalize moSI (moSI t 120 (2700 * r + j) tm) 121 (2700 * r + j) to = t' at mI mJ ct
  have iR : ∀ g, g ≠ 199 → s'.I g (G 1 r) = s.I g (G 1 r) := fun g hg => by
    rw [sI, if_neg (fun z => hg z.1), if_neg (fun z => hra z.2), if_neg (fun z => hra z.2), if_neg (fun z => hra z.2)]
  have i199 : s'.I 199 (G 1 r) = if v < s.I 199 (G 1 r) then v else s.I 199 (G 1 r) := by rw [sI, if_pos ⟨rfl, rfl⟩]
  have i170 : s'.I 170 a = v := by rw [sI, if_neg (by omega), if_pos ⟨rfl, rfl⟩]
  have oT : ∀ g b, b ≠ a → b ≠ G 1 r → s'.I g b = s.I g b := fun g b h1 h2 => by
    rw [sI, if_neg (fun z => h2 z.2), if_neg (fun z => h1 z.2), if_neg (fun z => h1 z.2), if_neg (fun z => h1 z.2)]
  have oA : ∀ g, g ≠ 170 → g ≠ 169 → g ≠ 168 → s'.I g a = s.I g a := fun g h1 h2 h3 => by
    rw [sI, if_neg (fun z => hra z.2.symm), if_neg (fun z => h1 z.1), if_neg (fun z => h2 z.1), if_neg (fun z => h3 z.1)]
  have mv : ∀ g, t'.I g (2700 * r + j) = (if g = 121 then to else if g = 120 then tm else t.I g (2700 * r + j)) := fun g => by rw [mI, if_pos rfl]
  refine rr_at hR hM hr hj ea d1 c nQ (oT 201 _ (ne_ro ktb ka) (ne_ro ktb k1)) ct (by rw [mI]; split <;> rfl) ⟨iR 190 (by decide), iR 192 (by decide)⟩ (rt_keep (hq.rt hr) hq hr c ka kw iR (by rw [nE]; rfl) ct.1 (by rw [mI]; split <;> rfl) fun i _ => by rw [mI]; split <;> rfl) ?_ (fun g hg i hi => by rw [mI, if_neg hi]) (fun g hg i hi => by rw [mJ]) ?_ (fun z => ?_) ?_ ?_
  · rw [i199]
    split
    · rename_i hc
      exact fun z => Int32.lt_irrefl (Int32.lt_trans z hc)
    · exact Int32.lt_irrefl
  · unfold RW PF at hRW ⊢
    obtain ⟨⟨e1, e2, e3, e4⟩, ⟨e5, e6, e7, e8⟩, e9, ⟨e10, e11, e12⟩, e13, e14, e15⟩ := hRW
    rw [mJ, nJ, nP, i170, mv 106, mv 109, mv 110, mv 111, mv 112, mv 113, mv 119, mv 120, mv 121, mv 122, oT 100 _ (ne_ro k9 ka) (ne_ro k9 k1), oT 103 _ (ne_ro k9 ka) (ne_ro k9 k1), oT 100 _ (ne_ro k10 ka) (ne_ro k10 k1), oT 100 _ (ne_ro k11 ka) (ne_ro k11 k1), oA 163 (by decide) (by decide) (by decide), oA 164 (by decide) (by decide) (by decide), oA 165 (by decide) (by decide) (by decide), oA 167 (by decide) (by decide) (by decide)]
    refine ⟨⟨e1, e2, e3, e4⟩, ⟨e5, e6, e7, e8⟩, e9, ⟨e10, e11, e12⟩, fun _ _ => ⟨?_, ?_, ?_⟩, fun _ z => absurd z h16, e15⟩
    · rw [sI, if_neg (by omega), if_neg (by omega), if_neg (by omega), if_pos ⟨rfl, rfl⟩]; rfl
    · rw [sI, if_neg (by omega), if_neg (by omega), if_pos ⟨rfl, rfl⟩]; rfl
    · exact hv.symm
  · rw [i170, i199]
    split
    · exact Int32.lt_irrefl
    · assumption
  · unfold kyR
    rw [mv 106, mv 109, mJ]
    rfl
  · have ei : cI t' r = cI t r := by unfold cI; rw [ct.1.I 70 (by decide)]
    unfold mRw at hmr ⊢
    rw [ei, mJ, mv 106, mv 109, mv 110, mv 111, mv 112, mv 113, mv 116, mv 119]
    exact hmr
/-- one learned route is another one, and learned -/
def ln1 (r k : Nat) (t t' : moS) : Prop := rwT r t t' ∧ t'.I 105 = t.I 105 ∧ (∀ g, g ∈ fRI → ∀ i, i ≠ k → t'.I g i = t.I g i) ∧ (∀ g, g ∈ fRJ → ∀ i, i ≠ k → t'.J g i = t.J g i) ∧ pfR t' k = pfR t k ∧ t'.I 110 k = 2
theorem ln1.ag (c : ln1 r k t t') (ek : k = 2700 * r + j) (hj : j < cN t r) (h2 : t.I 110 k = 2) (hM : MV t) (hM' : MV t') (hr : r < cR t) (hr' : r < cR t') : agR r t t' := by
  obtain ⟨a1, a2, a3, a4, a5, a6⟩ := c
  have hn : cN t' r = cN t r := by unfold cN; rw [a2]
  have ep : ∀ i, pfR t' i = pfR t i := fun i => by
    by_cases e : i = k
    · rw [e]; exact a5
    · unfold pfR
      rw [a3 106 (by decide) i e, a3 109 (by decide) i e, a4 107 (by decide) i e, a4 108 (by decide) i e]
  refine ⟨a1, fun P => Or.inl ?_, fun i hi => ⟨i, by rw [← hn]; exact hi, ep _⟩⟩
  by_cases c : ∃ i, i < cN t r ∧ pfR t (2700 * r + i) = P
  · obtain ⟨i, h1, hp⟩ := c
    rw [Vt_some hM hr h1 hp, Vt_some hM' hr' (j := i) (by rw [hn]; exact h1) (by rw [ep]; exact hp)]
    by_cases e : 2700 * r + i = k
    · rw [e]
      exact Or.inr ⟨_, _, rfl, rfl, h2, a6⟩
    · left
      unfold rvN
      rw [a3 110 (by decide) _ e, a3 111 (by decide) _ e, a3 112 (by decide) _ e, a3 113 (by decide) _ e, a3 119 (by decide) _ e, a3 120 (by decide) _ e, a3 121 (by decide) _ e, a3 122 (by decide) _ e, a4 114 (by decide) _ e, a4 115 (by decide) _ e, a4 117 (by decide) _ e, a4 118 (by decide) _ e]
  · left
    rw [Vt_none (t := t) (fun i h1 h2 => c ⟨i, h1, h2⟩), Vt_none (t := t')]
    intro i h1 h2
    rw [hn] at h1
    rw [ep] at h2
    exact c ⟨i, h1, h2⟩
theorem ln1.tr {t1 : moS} (a : ln1 r k t t1) (b : ln1 r k t1 t') : ln1 r k t t' := by
  obtain ⟨a1, a2, a3, a4, a5, a6⟩ := a
  obtain ⟨b1, b2, b3, b4, b5, b6⟩ := b
  exact ⟨a1.tr b1, b2.trans a2, fun g hg i hi => (b3 g hg i hi).trans (a3 g hg i hi), fun g hg i hi => (b4 g hg i hi).trans (a4 g hg i hi), b5.trans a5, b6⟩
theorem ln1_to {q : Int32} (hb : 2700 * r ≤ k ∧ k < 2700 * r + 2700) (h2 : t.I 110 k = 2) : ln1 r k t (toM t r k q metric tag h l) := by
  refine ⟨rwT_to hb, funext fun i => ?_, fun g hg i hi => by rw [toM_I, if_neg hi], fun g hg i hi => by rw [toM_J, if_neg hi], ?_, ?_⟩
  · rw [toM_I]; split <;> rfl
  · unfold pfR
    rw [toM_I, toM_I, toM_J, toM_J, if_pos rfl, if_pos rfl, if_pos rfl, if_pos rfl]
    rfl
  · rw [toM_I, if_pos rfl]
    exact h2
theorem ln1.mk (hb : 2700 * r ≤ k ∧ k < 2700 * r + 2700) (h2 : t.I 110 k = 2) : ln1 r k t (mkM t r k) := by
  refine ⟨rwT.mk hb, mkM_5, fun g hg i hi => by rw [mkM_I hg, if_neg (fun z => hi z.2)], fun g hg i hi => by rw [mkM_J], ?_, ?_⟩
  · unfold pfR
    rw [mkM_I (by decide), mkM_I (by decide), mkM_J, if_neg (by omega), if_neg (by omega)]
  · rw [mkM_I (by decide), if_neg (by omega)]
    exact h2
theorem ln1_tm (hb : 2700 * r ≤ k ∧ k < 2700 * r + 2700) (h2 : t.I 110 k = 2) : ln1 r k t (moSI (moSI t 120 k tm) 121 k to) := by
  have mI : ∀ g i, g ≠ 120 → g ≠ 121 → (moSI (moSI t 120 k tm) 121 k to).I g i = t.I g i := fun g i h1 h2 => by rw [moSI_n h2, moSI_n h1]
  refine ⟨(rwT.i (by decide) hb).tr (rwT.i (by decide) hb), funext fun i => mI _ _ (by decide) (by decide), fun g hg i hi => ?_, fun g hg i hi => rfl, ?_, ?_⟩
  · rw [evMI, if_neg (fun z => hi z.2), evMI, if_neg (fun z => hi z.2)]
  · unfold pfR
    rw [mI _ _ (by decide) (by decide), mI _ _ (by decide) (by decide)]
    rfl
  · rw [mI _ _ (by decide) (by decide)]; exact h2
theorem ag_to {q : Int32} (hA : AGs t) (hM : MV t) (hr : r < cR t) : AGs (toM t r k q metric tag h l) := fun i => by
  rw [toM_I, toM_I]
  by_cases c : i = k
  · rw [if_pos c, if_pos c]
    exact ⟨hM.1.2.1, (hM.r hr).2.2.1.2.1.wk (by omega) (by omega)⟩
  · rw [if_neg c, if_neg c]; exact hA i
theorem ag_mk (hA : AGs t) : AGs (mkM t r k) := fun i => by
  rw [mkM_I (by decide), mkM_I (by decide), if_neg (by omega), if_neg (by omega)]
  exact hA i
theorem ag_tm (hA : AGs t) (hM : MV t) (hr : r < cR t) (e1 : t.S 1 = tm) (e2 : t.I 41 r = to) : AGs (moSI (moSI t 120 k tm) 121 k to) := fun i => by
  rw [evMI, evMI, evMI, evMI]
  refine ⟨?_, ?_⟩
  · rw [if_neg (by omega)]
    split
    · rw [← e1]; exact hM.1.2.1
    · exact (hA i).1
  · split
    · rw [← e2]; exact (hM.r hr).2.2.1.2.1.wk (by omega) (by omega)
    · rw [if_neg (by omega)]; exact (hA i).2
end Tm
