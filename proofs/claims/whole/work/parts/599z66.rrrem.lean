/-! A row is taken out of a table: both sides. -/
def rmG4 (G : Nat → Nat → Nat) (r i n : Nat) : Nat → Nat → Nat := fun b y => if b = 4 ∧ 2700 * r ≤ y ∧ y < 2700 * r + 2700 then (if y < 2700 * r + i then G 4 y else if y < 2700 * r + n then G 4 (y + 1) else if y = 2700 * r + n then G 4 (2700 * r + i) else G 4 y) else G b y
section Rr4
variable {G H : Nat → Nat → Nat} {sa : Nat → Nat} {x r i n w j b : Nat} {s : cS} {t t' : moS}
theorem rmG4_o (h : b ≠ 4) : rmG4 G r i n b = G b := funext fun y => by unfold rmG4; rw [if_neg (fun z => h z.1)]
theorem rmG4_4 (hj : j < 2700) : rmG4 G r i n 4 (2700 * r + j) = G 4 (2700 * r + (if j < i then j else if j < n then j + 1 else if j = n then i else j)) := by
  unfold rmG4
  rw [if_pos (by omega)]
  by_cases c1 : j < i
  · rw [if_pos (by omega), if_pos c1]
  · rw [if_neg (by omega), if_neg c1]
    by_cases c2 : j < n
    · rw [if_pos (by omega), if_pos c2]; rfl
    · rw [if_neg (by omega), if_neg c2]
      by_cases c3 : j = n
      · rw [if_pos (by omega), if_pos c3]
      · rw [if_neg (by omega), if_neg c3]
theorem rmG4_ne {r' : Nat} (hne : r' ≠ r) (hj : j < 2700) : rmG4 G r i n 4 (2700 * r' + j) = G 4 (2700 * r' + j) := by
  unfold rmG4
  rw [if_neg (by omega)]
theorem rmT.rw (o : rmT r i n t t') (hi : i ≤ n) (hn : n < 2700) : rwT r t t' := by
  obtain ⟨m, e5, oI, oJ⟩ := o
  refine ⟨m.wk (by decide), fun j _ => by rw [m.I 44 (by decide)], fun j _ => by rw [m.I 45 (by decide)], fun j hj => by rw [e5, upd_n hj], fun g hg y hy => ?_, fun g hg y hy => ?_⟩
  · rw [oI g hg y, if_neg (by omega)]
  · rw [oJ g hg y, if_neg (by omega)]
theorem mv_rem (hM : MV t) (hr : r < cR t) (hn : cN t r = n + 1) (hi : i ≤ n) (o : rmT r i n t t') : MV t' := by
  have h9 := hM.nRo hr
  have w := o.rw hi (by omega)
  obtain ⟨m, e5, oI, oJ⟩ := o
  have e105 : t'.I 105 r = nI n := by rw [e5, upd_s]
  have en : cN t' r = n := by unfold cN; rw [e105, nI_clamp (by omega)]
  have sk : ∀ j, j < n → (if 2700 * r + i ≤ 2700 * r + j ∧ 2700 * r + j < 2700 * r + n then 2700 * r + j + 1 else 2700 * r + j) = 2700 * r + (if j < i then j else j + 1) := fun j hj => by
    by_cases c : j < i
    · rw [if_neg (by omega), if_pos c]
    · rw [if_pos (by omega), if_neg c]; rfl
  refine hM.rw hr w ⟨n, e105, Nat.zero_le _, by omega⟩ (fun j hj => ?_) (fun a b hab hb => ?_)
  · rw [en] at hj
    have hm := (hM.r hr).w (show (if j < i then j else j + 1) < cN t r by split <;> omega)
    have ei : cI t' r = cI t r := by unfold cI; rw [m.I 70 (by decide)]
    unfold mRw at hm ⊢
    rw [ei, oI 106 (by decide), oI 109 (by decide), oI 110 (by decide), oI 111 (by decide), oI 112 (by decide), oI 113 (by decide), oI 116 (by decide), oI 119 (by decide), oJ 114 (by decide), oJ 115 (by decide), sk j hj]
    exact hm
  · rw [en] at hb
    have hs := (hM.r hr).2.2.2.2.2.2.2.2.2.2.2.2.2.2 (if a < i then a else a + 1) (if b < i then b else b + 1) (by split <;> split <;> omega) (by split <;> omega)
    unfold kyR
    rw [oI 106 (by decide), oI 109 (by decide), oJ 107 (by decide), oJ 108 (by decide), oI 106 (by decide), oI 109 (by decide), oJ 107 (by decide), oJ 108 (by decide), sk a (by omega), sk b hb]
    exact hs
theorem rr_rem (hR : RR G H sa x s t) (hM : MV t) (hr : r < cR t) (hn : cN t r = n + 1) (hi : i ≤ n) (hw : s.P 200 (H 186 (G 1 r)) = some w) (o : rmT r i n t t') : RR (rmG4 G r i n) H sa x (cQs (cSI s 201 (H 186 (G 1 r)) (nI n)) w (rmF (s.Q w) i n)) t' ∧ MV t' := by
  have hM' := mv_rem hM hr hn hi o
  have h6 := hM.nR
  have h9 := hM.nRo hr
  have wT := o.rw hi (by omega)
  obtain ⟨m, e5, oI, oJ⟩ := o
  have e105 : t'.I 105 r = nI n := by rw [e5, upd_s]
  have en : cN t' r = n := by unfold cN; rw [e105, nI_clamp (by omega)]
  have hq := hR.q.1
  have hT := hq.ty
  obtain ⟨b0, b1, b2⟩ := hq.tb hr
  obtain ⟨c1, c2, c3, w', cap, d1, d2, d3, d4, d5, d6, d7, d8⟩ := id b0
  rw [hw] at d1
  cases d1
  have k1 := (hq.rt hr).1.1
  have ktb := (hT.p k1 186 27).2
  have ka : (s.K (G 4 (2700 * r + i))).1 = 23 := (d6 i (by omega)).2
  have kw : (s.K w).1 = 135 := by rw [d2]
  have htb : H 186 (G 1 r) ≠ G 1 r := ne_ro ktb k1
  have c : rwC G H r (G 4 (2700 * r + i)) w s (cQs (cSI s 201 (H 186 (G 1 r)) (nI n)) w (rmF (s.Q w) i n)) := (rwC.i (Or.inl rfl)).tr rwC.q
  have sI : ∀ g b, (cQs (cSI s 201 (H 186 (G 1 r)) (nI n)) w (rmF (s.Q w) i n)).I g b = if g = 201 ∧ b = H 186 (G 1 r) then nI n else s.I g b := fun g b => evI
  have iR : ∀ g, g ≠ 199 → (cQs (cSI s 201 (H 186 (G 1 r)) (nI n)) w (rmF (s.Q w) i n)).I g (G 1 r) = s.I g (G 1 r) := fun g hg => by rw [sI, if_neg (fun z => htb z.2.symm)]
  have sQ : (cQs (cSI s 201 (H 186 (G 1 r)) (nI n)) w (rmF (s.Q w) i n)).Q w = rmF (s.Q w) i n := if_pos rfl
  have hG13 : rmG4 G r i n 13 = G 13 := rmG4_o (by decide)
  have sk : ∀ j, j < n → (if 2700 * r + i ≤ 2700 * r + j ∧ 2700 * r + j < 2700 * r + n then 2700 * r + j + 1 else 2700 * r + j) = 2700 * r + (if j < i then j else j + 1) := fun j hj => by
    by_cases c : j < i
    · rw [if_neg (by omega), if_pos c]
    · rw [if_pos (by omega), if_neg c]; rfl
  refine ⟨rr_row (a := G 4 (2700 * r + i)) hR hM hr (fun b h1 _ => rmG4_o h1) (fun r' hr' hne => ⟨by rw [hG13], fun j hj => rmG4_ne hne ?_⟩) c wT hw ka ⟨iR 190 (by decide), iR 192 (by decide)⟩ (rt_keep (hq.rt hr) hq hr c ka kw iR rfl wT.1 (by rw [m.I 44 (by decide)]) fun y _ => by rw [m.I 45 (by decide)]) ?_ ?_ ?_ ?_ ?_, hM'⟩
  · have := (hq.tb hr').1.2.2.1
    omega
  · rw [sI, if_neg (fun z => htb z.2.symm)]; exact Int32.lt_irrefl
  · rw [en, hG13]
    refine ⟨by rw [sI, if_pos ⟨rfl, rfl⟩], by omega, c3, w, cap, hw, d2, d3, d4, d5, fun j hj => ?_, fun j hj => ?_, fun j j' hj hj' e => ?_⟩
    · dsimp only
      rw [sQ, rmG4_4 (show j < 2700 by omega)]
      unfold rmF
      by_cases x1 : j < i
      · rw [if_pos x1, if_pos x1]; exact d6 j hj
      · rw [if_neg x1, if_neg x1]
        by_cases x2 : j < n
        · rw [if_pos x2, if_pos x2]; exact d6 (j + 1) (by omega)
        · rw [if_neg x2, if_neg x2]
          by_cases x3 : j = n
          · rw [if_pos x3, if_pos x3]; exact d6 i (by omega)
          · rw [if_neg x3, if_neg x3]; exact d6 j hj
    · rw [sQ]
      unfold rmF
      rw [if_neg (by omega), if_neg (by omega), if_neg (by omega)]
      exact d7 j hj
    · dsimp only at e
      rw [rmG4_4 (show j < 2700 by omega), rmG4_4 (show j' < 2700 by omega)] at e
      have := d8 _ _ (by split <;> (try split) <;> (try split) <;> omega) (by split <;> (try split) <;> (try split) <;> omega) e
      split at this <;> split at this <;> (try split at this) <;> (try split at this) <;> (try split at this) <;> (try split at this) <;> omega
  · intro r' j hr' hne hj e
    have := hq.2.1.2.2.2.2.1 r' r j i hr' hr hj (by omega) e
    have := (hq.tb hr').1.2.2.1
    omega
  · intro j hj
    rw [hG13] at hj
    rw [rmG4_4 (by omega)]
    exact Or.inr ⟨_, by split <;> (try split) <;> (try split) <;> omega, rfl⟩
  · intro j hj
    rw [en] at hj
    refine Or.inr ⟨if j < i then j else j + 1, by split <;> omega, fun e => ?_, ?_, fun g hg => by rw [oI g hg, sk j hj], fun g hg => by rw [oJ g hg, sk j hj]⟩
    · have := d8 _ _ (show (if j < i then j else j + 1) < G 13 r by split <;> omega) (show i < G 13 r by omega) e
      split at this <;> omega
    · rw [rmG4_4 (by omega)]
      by_cases x1 : j < i
      · rw [if_pos x1, if_pos x1]
      · rw [if_neg x1, if_pos hj, if_neg x1]
end Rr4
