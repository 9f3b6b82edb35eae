/-! A learned route dies: both sides. -/
section De
variable {G H : Nat → Nat → Nat} {sa : Nat → Nat} {x r w a k j kc ks : Nat} {s s' : cS} {t t' : moS}
theorem rr_dead (h : RR G H sa x s t) (hM : MV t) (hr : r < cR t) (hj : j < cN t r) (ea : a = G 4 (2700 * r + j)) (ek : k = 2700 * r + j) (h2 : t.I 110 k = 2) : RR G H sa x (dlS (cSI s 164 a 16) (G 1 r) a (s.I 225 x + s.E (H 195 (G 1 r)) 2)) (moSI (moSI t 111 k 16) 122 k (t.S 1 + t.I 42 r)) ∧ MV (moSI (moSI t 111 k 16) 122 k (t.S 1 + t.I 42 r)) := by
  subst ek
  have h6 := hM.nR
  have hn := hM.nRo hr
  have hq := h.q.1
  have hT := hq.ty
  obtain ⟨b0, b1, b2⟩ := hq.tb hr
  obtain ⟨c1, c2, c3, w, cap, d1, d2, d3, d4, d5, d6, d7, d8⟩ := id b0
  have k1 := (hq.rt hr).1.1
  have ka : (s.K a).1 = 23 := by rw [ea]; exact (d6 j (by omega)).2
  have kw : (s.K w).1 = 135 := by rw [d2]
  have k9 := (hT.p ka 160 9).2
  have k10 := (hT.p ka 161 10).2
  have k11 := (hT.p ka 162 11).2
  have ktb := (hT.p k1 186 27).2
  have hra : G 1 r ≠ a := ne_ro k1 ka
  have ev : s.I 225 x + s.E (H 195 (G 1 r)) 2 = t.S 1 + t.I 42 r := by rw [hq.2.2.1.2.1, (hq.rt hr).2.2.2.1.2.2]
  rw [ev]
  generalize hv : t.S 1 + t.I 42 r = v
  have sI : ∀ g b, (dlS (cSI s 164 a 16) (G 1 r) a v).I g b = if g = 199 ∧ b = G 1 r then (if v < s.I 199 (G 1 r) then v else s.I 199 (G 1 r)) else if g = 170 ∧ b = a then v else if g = 164 ∧ b = a then 16 else s.I g b := by
    intro g b
    have e199 : (cSI s 164 a 16).I 199 (G 1 r) = s.I 199 (G 1 r) := by rw [cSI_g (by decide)]
    have inn : (cSI s 164 a 16).I g b = if g = 164 ∧ b = a then 16 else s.I g b := by rw [evI]
    unfold dlS
    rw [e199]
    by_cases c : v < s.I 199 (G 1 r)
    · rw [if_pos c, if_pos c, evI, evI, inn]
    · rw [if_neg c, if_neg c, evI, inn]
      by_cases c2 : g = 199 ∧ b = G 1 r
      · rw [if_pos c2, c2.1, c2.2, if_neg (by omega), if_neg (by omega)]
      · rw [if_neg c2]
  obtain ⟨nK, nP, nE, nQ, nJ⟩ := dlS_k (s := cSI s 164 a 16) (rr := G 1 r) (a := a) (v := v)
  have c : rwC G H r a w s (dlS (cSI s 164 a 16) (G 1 r) a v) := (rwC.i (Or.inr (Or.inl rfl))).tr (rwC.dl rfl)
  generalize hs' : dlS (cSI s 164 a 16) (G 1 r) a v = s' at sI nK nP nE nQ nJ c
  clear hs'
  have P6 : s'.P 166 a = s.P 166 a := by rw [nP]; rfl
  have hRW := b1 j hj
  rw [← ea] at hRW
  have hm := (hM.r hr).w hj
  have mI : ∀ g i, (moSI (moSI t 111 (2700 * r + j) 16) 122 (2700 * r + j) v).I g i = if i = 2700 * r + j then (if g = 122 then v else if g = 111 then 16 else t.I g i) else t.I g i := fun g i => by
    simp only [evMI]
    by_cases c : i = 2700 * r + j
    · simp only [c, and_true, if_true]
    · simp only [c, and_false, if_false]
  have mJ : (moSI (moSI t 111 (2700 * r + j) 16) 122 (2700 * r + j) v).J = t.J := rfl
  have hb : 2700 * r ≤ 2700 * r + j ∧ 2700 * r + j < 2700 * r + 2700 := by omega
  have ct : rwT r t (moSI (moSI t 111 (2700 * r + j) 16) 122 (2700 * r + j) v) := (rwT.i (by decide) hb).tr (rwT.i (by decide) hb)
  generalize moSI (moSI t 111 (2700 * r + j) 16) 122 (2700 * r + j) v = t' at mI mJ ct
  have oI : ∀ g b, b ≠ a → b ≠ G 1 r → s'.I g b = s.I g b := fun g b h1 h2 => by
    rw [sI, if_neg (fun z => h2 z.2), if_neg (fun z => h1 z.2), if_neg (fun z => h1 z.2)]
  have iR : ∀ g, g ≠ 199 → s'.I g (G 1 r) = s.I g (G 1 r) := fun g hg => by
    rw [sI, if_neg (fun z => hg z.1), if_neg (fun z => hra z.2), if_neg (fun z => hra z.2)]
  have i199 : s'.I 199 (G 1 r) = if v < s.I 199 (G 1 r) then v else s.I 199 (G 1 r) := by rw [sI, if_pos ⟨rfl, rfl⟩]
  have i170 : s'.I 170 a = v := by rw [sI, if_neg (by omega), if_pos ⟨rfl, rfl⟩]
  have ia : ∀ g, g ≠ 170 → g ≠ 164 → g ≠ 199 → s'.I g a = s.I g a := fun g h1 h2 h3 => by rw [sI, if_neg (by omega), if_neg (by omega), if_neg (by omega)]
  have mv : ∀ g, t'.I g (2700 * r + j) = (if g = 122 then v else if g = 111 then 16 else t.I g (2700 * r + j)) := fun g => by rw [mI, if_pos rfl]
  have mo : ∀ g, g ≠ 122 → g ≠ 111 → t'.I g (2700 * r + j) = t.I g (2700 * r + j) := fun g h1 h2 => by rw [mv, if_neg h1, if_neg h2]
  refine rr_at h hM hr hj ea d1 c nQ (oI 201 _ (ne_ro ktb ka) (ne_ro ktb k1)) ct (by rw [mI]; split <;> rfl) ⟨iR 190 (by decide), iR 192 (by decide)⟩ (rt_keep (hq.rt hr) hq hr c ka kw iR (by rw [nE]; rfl) ct.1 (by rw [mI]; split <;> rfl) fun i _ => by rw [mI]; split <;> rfl) ?_ (fun g hg i hi => by rw [mI, if_neg hi]) (fun g hg i hi => by rw [mJ]) ?_ (fun z => ?_) ?_ ?_
  · rw [i199]
    split
    · rename_i hc
      exact fun z => Int32.lt_irrefl (Int32.lt_trans z hc)
    · exact Int32.lt_irrefl
  · unfold RW PF at hRW ⊢
    obtain ⟨⟨e1, e2, e3, e4⟩, ⟨e5, e6, e7, e8⟩, e9, ⟨e10, e11, e12⟩, e13, e14, e15⟩ := hRW
    have m11 : t'.I 111 (2700 * r + j) = 16 := by rw [mv]; rfl
    have m22 : t'.I 122 (2700 * r + j) = v := by rw [mv]; rfl
    have j1 : s'.J = s.J := nJ
    rw [mJ, j1, P6, i170, mo 106 (by decide) (by decide), mo 109 (by decide) (by decide), mo 110 (by decide) (by decide), m11, mo 112 (by decide) (by decide), mo 113 (by decide) (by decide), mo 119 (by decide) (by decide), m22, oI 100 _ (ne_ro k9 ka) (ne_ro k9 k1), oI 103 _ (ne_ro k9 ka) (ne_ro k9 k1), oI 100 _ (ne_ro k10 ka) (ne_ro k10 k1), oI 100 _ (ne_ro k11 ka) (ne_ro k11 k1), ia 163 (by decide) (by decide) (by decide), ia 165 (by decide) (by decide) (by decide), ia 167 (by decide) (by decide) (by decide)]
    refine ⟨⟨e1, e2, e3, e4⟩, ⟨e5, ?_, e7, e8⟩, e9, ⟨e10, e11, e12⟩, fun _ z => absurd rfl z, fun _ _ => rfl, e15⟩
    rw [sI, if_neg (by omega), if_neg (by omega), if_pos ⟨rfl, rfl⟩]
  · rw [i170, i199]
    split
    · exact Int32.lt_irrefl
    · assumption
  · unfold kyR
    rw [mo 106 (by decide) (by decide), mo 109 (by decide) (by decide), mJ]
  · have ei : cI t' r = cI t r := by unfold cI; rw [ct.1.I 70 (by decide)]
    obtain ⟨e1, e2, e3, e4, e5, e6, e7, e8, e9, e10, e11, e12⟩ := hm
    have m11 : t'.I 111 (2700 * r + j) = 16 := by rw [mv]; rfl
    unfold mRw
    rw [ei, mJ, mo 106 (by decide) (by decide), mo 109 (by decide) (by decide), mo 110 (by decide) (by decide), m11, mo 112 (by decide) (by decide), mo 113 (by decide) (by decide), mo 116 (by decide) (by decide), mo 119 (by decide) (by decide)]
    exact ⟨e1, e2, ⟨16, rfl, by omega, by omega⟩, fun z => absurd h2 z, e5, e6, e7, e8, e9, e10, e11, e12⟩
end De
