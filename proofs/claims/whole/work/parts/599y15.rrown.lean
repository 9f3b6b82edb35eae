/-! A route becomes its router's own; one lapses: the relation. -/
/-- what is due for a prefix -/
def dueOk (t : moS) (r : Nat) (dk dm di dt : Int32) : Prop := bit dk ∧ rng dm 1 15 ∧ rng dt 0 65535 ∧ (dk = 0 → ∃ q, di = nI q ∧ 4 * r ≤ q ∧ q < 4 * r + cI t r) ∧ (dk = 1 → di = -1)
section Ow
variable {G H : Nat → Nat → Nat} {sa : Nat → Nat} {x r w a k j b g p1 p2 : Nat} {s s' : cS} {t t' : moS} {dk dm di dt kind metric tag : Int32} {port : Option Nat}
theorem boI : (boS s a p1 p2 kind metric tag port).I g b = if g = 103 ∧ b = p2 then bts (s.I 100 p1) else if g = 100 ∧ b = p2 then s.I 100 p1 else if g = 165 ∧ b = a then tag else if g = 164 ∧ b = a then metric else if g = 163 ∧ b = a then kind else s.I g b := by
  unfold boS
  rw [evSI]
  show (if g = 103 ∧ b = p2 then _ else if g = 100 ∧ b = p2 then _ else (cSI (cSI (cSI s 163 a kind) 164 a metric) 165 a tag).I g b) = _
  rw [evI, evI, evI]
theorem boJ : (boS s a p1 p2 kind metric tag port).J g b = if g = 102 ∧ b = p2 then 0 else if g = 101 ∧ b = p2 then 0 else s.J g b := by
  unfold boS
  rw [evSJ]
  rfl
theorem boP : (boS s a p1 p2 kind metric tag port).P g b = if g = 166 ∧ b = a then port else s.P g b := by
  show (cSP (cSI (cSI (cSI s 163 a kind) 164 a metric) 165 a tag) 166 a port).P g b = _
  exact evP
theorem beM_I {i : Nat} : (beM t k dk dm di dt).I g i = if i = k then (if g = 122 then -1 else if g = 116 then -1 else if g = 112 then dt else if g = 113 then di else if g = 111 then dm else if g = 110 then dk else t.I g i) else t.I g i := by
  unfold beM
  simp only [evMI, evIJ]
  by_cases c : i = k
  · simp only [c, and_true, if_true]
  · simp only [c, and_false, if_false]
theorem beM_J {i : Nat} : (beM t k dk dm di dt).J g i = if i = k then (if g = 115 then 0 else if g = 114 then 0 else t.J g i) else t.J g i := by
  unfold beM
  simp only [evMJ, evJI]
  by_cases c : i = k
  · simp only [c, and_true, if_true]
  · simp only [c, and_false, if_false]
theorem ifp_i (h : RIn G t) (hr : r < cR t) (h4 : cI t r ≤ 4) {i i' : Int32} (hi : i = -1 ∨ ∃ q, i = nI q ∧ 4 * r ≤ q ∧ q < 4 * r + cI t r) (hi' : i' = -1 ∨ ∃ q, i' = nI q ∧ 4 * r ≤ q ∧ q < 4 * r + cI t r) (h6 : r < 6) : ifp G i = ifp G i' ↔ i = i' := by
  have nn : ∀ q, q < 100 → nI q ≠ -1 := by decide +kernel
  refine ⟨fun z => ?_, fun z => by rw [z]⟩
  unfold ifp at z
  rcases hi with rfl | ⟨q, rfl, q1, q2⟩ <;> rcases hi' with rfl | ⟨q', rfl, q1', q2'⟩
  · rfl
  · rw [if_pos rfl, if_neg (nn q' (by omega))] at z
    cases z
  · rw [if_pos rfl, if_neg (nn q (by omega))] at z
    cases z
  · rw [if_neg (nn q (by omega)), if_neg (nn q' (by omega)), nI_clamp (by omega), nI_clamp (by omega)] at z
    injection z with z
    have := h.2.2.1 r r (q - 4 * r) (q' - 4 * r) hr hr (by omega) (by omega) (by rw [show 4 * r + (q - 4 * r) = q by omega, show 4 * r + (q' - 4 * r) = q' by omega]; exact z)
    rw [show q = q' by omega]
theorem dueOk.i (h : dueOk t r dk dm di dt) : di = -1 ∨ ∃ q, di = nI q ∧ 4 * r ≤ q ∧ q < 4 * r + cI t r := by
  rcases h.1 with e | e
  · exact Or.inr (h.2.2.2.1 e)
  · exact Or.inl (h.2.2.2.2 e)
/-- both see the same difference -/
theorem bo_be (h : RR G H sa x s t) (hM : MV t) (hr : r < cR t) (hj : j < cN t r) (hd : dueOk t r dk dm di dt) : boD s (G 4 (2700 * r + j)) (H 161 (G 4 (2700 * r + j))) dk dm dt (ifp G di) ↔ beD t (2700 * r + j) dk dm di dt := by
  have h6 := hM.nR
  have hq := h.q.1
  have hRW := (hq.tb hr).2.1 j hj
  have hm := (hM.r hr).w hj
  obtain ⟨-, ⟨-, e2, e3, -⟩, e4, ⟨-, e5, e6⟩, -⟩ := hRW
  unfold boD beD
  rw [e2, e3, e4, e5, e6, ifp_i hq.2.1 hr (hM.nIf hr) hm.2.2.2.2.2.1 hd.i (by omega)]
  constructor
  · exact fun z => ⟨z.1, z.2.1, z.2.2.1.1, z.2.2.1.2, z.2.2.2⟩
  · exact fun z => ⟨z.1, z.2.1, ⟨z.2.2.1, z.2.2.2.1⟩, z.2.2.2.2⟩
theorem rr_own (h : RR G H sa x s t) (hM : MV t) (hr : r < cR t) (hj : j < cN t r) (ea : a = G 4 (2700 * r + j)) (ek : k = 2700 * r + j) (hd : dueOk t r dk dm di dt) : RR G H sa x (boS s a (H 160 a) (H 161 a) dk dm dt (ifp G di)) (beM t k dk dm di dt) ∧ MV (beM t k dk dm di dt) := by
  subst ek
  have h6 := hM.nR
  have hn := hM.nRo hr
  have hq := h.q.1
  have hT := hq.ty
  obtain ⟨b0, b1, b2⟩ := hq.tb hr
  obtain ⟨c1, c2, c3, w, cap, d1, d2, d3, d4, d5, d6, d7, d8⟩ := id b0
  have k1 := (hq.rt hr).1.1
  have ka : (s.K a).1 = 23 := by rw [ea]; exact (d6 j (by omega)).2
  have kw : (s.K w).1 = 135 := by rw [d2]
  have k9 := (hT.p ka 160 9).2
  have k10 := (hT.p ka 161 10).2
  have k11 := (hT.p ka 162 11).2
  have ktb := (hT.p k1 186 27).2
  have oI : ∀ g b u, (s.K b).1 = u → u ≠ 10 → u ≠ 23 → (boS s a (H 160 a) (H 161 a) dk dm dt (ifp G di)).I g b = s.I g b := fun g b u hb h1 h2 => by
    have n1 : b ≠ H 161 a := ne_ro hb k10 h1
    have n2 : b ≠ a := ne_ro hb ka h2
    rw [boI, if_neg (fun z => n1 z.2), if_neg (fun z => n1 z.2), if_neg (fun z => n2 z.2), if_neg (fun z => n2 z.2), if_neg (fun z => n2 z.2)]
  have iR := fun g => oI g (G 1 r) 26 k1 (by decide) (by decide)
  have h10a : H 161 a ≠ a := ne_ro k10 ka
  have dk2 : dk ≠ 2 := by rcases hd.1 with e | e <;> rw [e] <;> decide
  have hRW := b1 j hj
  rw [← ea] at hRW
  have hm := (hM.r hr).w hj
  have ct : rwT r t (beM t (2700 * r + j) dk dm di dt) := rwT.be (by omega)
  have n5 : (beM t (2700 * r + j) dk dm di dt).I 105 r = t.I 105 r := by
    rw [beM_I]
    split <;> rfl
  refine rr_at h hM hr hj ea d1 rwC.bo rfl (oI 201 _ 27 ktb (by decide) (by decide)) ct n5 ⟨iR 190, iR 192⟩ (rt_keep (hq.rt hr) hq hr rwC.bo ka kw (fun g _ => iR g) rfl ct.1 ?_ fun i _ => ?_) (by rw [iR 199]; exact Int32.lt_irrefl) (fun g hg i hi => by rw [beM_I, if_neg hi]) (fun g hg i hi => by rw [beM_J, if_neg hi]) ?_ (fun z => ?_) ?_ ?_
  · rw [beM_I]; split <;> rfl
  · rw [beM_I]; split <;> rfl
  · unfold RW PF at hRW ⊢
    obtain ⟨⟨e1, e2, e3, e4⟩, ⟨e5, e6, e7, e8⟩, e9, ⟨e10, e11, e12⟩, e13, e14, e15⟩ := hRW
    simp only [beM_I, beM_J, if_true]
    simp only [show ¬ (106 = 122) by decide, show ¬ (106 = 116) by decide, show ¬ (106 = 112) by decide, show ¬ (106 = 113) by decide, show ¬ (106 = 111) by decide, show ¬ (106 = 110) by decide, if_false, show ¬ (107 = 115) by decide, show ¬ (107 = 114) by decide, show ¬ (108 = 115) by decide, show ¬ (108 = 114) by decide, show ¬ (109 = 122) by decide, show ¬ (109 = 116) by decide, show ¬ (109 = 112) by decide, show ¬ (109 = 113) by decide, show ¬ (109 = 111) by decide, show ¬ (109 = 110) by decide, show ¬ (110 = 122) by decide, show ¬ (110 = 116) by decide, show ¬ (110 = 112) by decide, show ¬ (110 = 113) by decide, show ¬ (110 = 111) by decide, show ¬ (111 = 122) by decide, show ¬ (111 = 116) by decide, show ¬ (111 = 112) by decide, show ¬ (111 = 113) by decide, show ¬ (112 = 122) by decide, show ¬ (112 = 116) by decide, show ¬ (113 = 122) by decide, show ¬ (113 = 116) by decide, show ¬ (113 = 112) by decide, show ¬ (119 = 122) by decide, show ¬ (119 = 116) by decide, show ¬ (119 = 112) by decide, show ¬ (119 = 113) by decide, show ¬ (119 = 111) by decide, show ¬ (119 = 110) by decide, show ¬ (114 = 115) by decide]
    rw [oI 100 _ 9 k9 (by decide) (by decide), oI 103 _ 9 k9 (by decide) (by decide)]
    refine ⟨⟨e1, ?_, ?_, e4⟩, ⟨?_, ?_, ?_, ?_⟩, ?_, ⟨?_, ?_, ?_⟩, fun z => absurd z dk2, fun z => absurd z dk2, fun z => absurd z dk2⟩
    · rw [boJ, if_neg (by omega), if_neg (fun z => (ne_ro k9 k10) z.2)]; exact e2
    · rw [boJ, if_neg (fun z => (ne_ro k9 k10) z.2), if_neg (by omega)]; exact e3
    · rw [boI, if_neg (by omega), if_neg (by omega), if_neg (by omega), if_neg (by omega), if_pos ⟨rfl, rfl⟩]
    · rw [boI, if_neg (by omega), if_neg (by omega), if_neg (by omega), if_pos ⟨rfl, rfl⟩]
    · rw [boI, if_neg (by omega), if_neg (by omega), if_pos ⟨rfl, rfl⟩]
    · rw [boI, if_neg (by omega), if_neg (by omega), if_neg (by omega), if_neg (by omega), if_neg (by omega)]; exact e8
    · rw [boP, if_pos ⟨rfl, rfl⟩]
    · rw [boI, if_neg (by omega), if_pos ⟨rfl, rfl⟩]; exact e1
    · rw [boJ, if_neg (by omega), if_pos ⟨rfl, rfl⟩]
    · rw [boJ, if_pos ⟨rfl, rfl⟩]
  · rw [beM_I, if_pos rfl] at z
    exact absurd z dk2
  · unfold kyR
    simp only [beM_I, beM_J, if_true]
    rfl
  · have ei : cI (beM t (2700 * r + j) dk dm di dt) r = cI t r := by unfold cI; rw [ct.1.I 70 (by decide)]
    obtain ⟨e1, e2, e3, e4, e5, e6, e7, e8, e9, e10, e11, e12⟩ := hm
    obtain ⟨y1, y2, y3, y4, y5⟩ := id hd
    have nn : ∀ q, q < 100 → nI q ≠ -1 := by decide +kernel
    have h4 := hM.nIf hr
    have v : ∀ g, (beM t (2700 * r + j) dk dm di dt).I g (2700 * r + j) = (if g = 122 then -1 else if g = 116 then -1 else if g = 112 then dt else if g = 113 then di else if g = 111 then dm else if g = 110 then dk else t.I g (2700 * r + j)) := fun g => by rw [beM_I, if_pos rfl]
    have vJ : ∀ g, (beM t (2700 * r + j) dk dm di dt).J g (2700 * r + j) = (if g = 115 then 0 else if g = 114 then 0 else t.J g (2700 * r + j)) := fun g => by rw [beM_J, if_pos rfl]
    unfold mRw
    rw [ei, v 106, v 109, v 110, v 111, v 112, v 113, v 116, v 119, vJ 114, vJ 115]
    refine ⟨e1, ?_, ?_, fun _ => y2, y3, hd.i, fun z => ?_, y5, fun _ => ⟨rfl, rfl⟩, e10, fun z => absurd z dk2, fun _ => rfl⟩
    · show rng dk 0 2
      rcases y1 with e | e <;> rw [e]
      · exact ⟨0, rfl, by omega, by omega⟩
      · exact ⟨1, rfl, by omega, by omega⟩
    · exact y2.wk (by omega) (by omega)
    · obtain ⟨q, q1, q2, q3⟩ := y4 z
      show di ≠ -1
      rw [q1]
      exact nn q (by omega)
/-- a route that lapses is dead; before it is marked -/
theorem rr_lap (h : RR G H sa x s t) (hM : MV t) (hr : r < cR t) (hj : j < cN t r) (ea : a = G 4 (2700 * r + j)) (ek : k = 2700 * r + j) : RR G H sa x (dlS (cSI (lpS s a) 164 a 16) (G 1 r) a (s.I 225 x + s.E (H 195 (G 1 r)) 2)) (moSI (moSI (foM t k) 111 k 16) 122 k (t.S 1 + t.I 42 r)) ∧ MV (moSI (moSI (foM t k) 111 k 16) 122 k (t.S 1 + t.I 42 r)) := by
  subst ek
  have h6 := hM.nR
  have hn := hM.nRo hr
  have hq := h.q.1
  have hT := hq.ty
  obtain ⟨b0, b1, b2⟩ := hq.tb hr
  obtain ⟨c1, c2, c3, w, cap, d1, d2, d3, d4, d5, d6, d7, d8⟩ := id b0
  have k1 := (hq.rt hr).1.1
  have ka : (s.K a).1 = 23 := by rw [ea]; exact (d6 j (by omega)).2
  have kw : (s.K w).1 = 135 := by rw [d2]
  have k9 := (hT.p ka 160 9).2
  have k10 := (hT.p ka 161 10).2
  have k11 := (hT.p ka 162 11).2
  have ktb := (hT.p k1 186 27).2
  have hra : G 1 r ≠ a := ne_ro k1 ka
  have ev : s.I 225 x + s.E (H 195 (G 1 r)) 2 = t.S 1 + t.I 42 r := by rw [hq.2.2.1.2.1, (hq.rt hr).2.2.2.1.2.2]
  rw [ev]
  generalize hv : t.S 1 + t.I 42 r = v
  -- the class's values
  have sI : ∀ g b, (dlS (cSI (lpS s a) 164 a 16) (G 1 r) a v).I g b = if g = 199 ∧ b = G 1 r then (if v < s.I 199 (G 1 r) then v else s.I 199 (G 1 r)) else if g = 170 ∧ b = a then v else if g = 164 ∧ b = a then 16 else if g = 165 ∧ b = a then 0 else if g = 163 ∧ b = a then 2 else s.I g b := by
    intro g b
    have e199 : (cSI (lpS s a) 164 a 16).I 199 (G 1 r) = s.I 199 (G 1 r) := by
      unfold lpS
      rw [cSI_g (by decide)]
      show (cSI (cSI s 163 a 2) 165 a 0).I 199 (G 1 r) = _
      rw [cSI_g (by decide), cSI_g (by decide)]
    have inn : (cSI (lpS s a) 164 a 16).I g b = if g = 164 ∧ b = a then 16 else if g = 165 ∧ b = a then 0 else if g = 163 ∧ b = a then 2 else s.I g b := by
      unfold lpS
      rw [evI]
      show (if g = 164 ∧ b = a then _ else (cSI (cSI s 163 a 2) 165 a 0).I g b) = _
      rw [evI, evI]
    unfold dlS
    rw [e199]
    by_cases c : v < s.I 199 (G 1 r)
    · rw [if_pos c, if_pos c, evI, evI, inn]
    · rw [if_neg c, if_neg c, evI, inn]
      by_cases c2 : g = 199 ∧ b = G 1 r
      · rw [if_pos c2, c2.1, c2.2, if_neg (by omega), if_neg (by omega), if_neg (by omega), if_neg (by omega)]
      · rw [if_neg c2]
  obtain ⟨nK, nP, nE, nQ, nJ⟩ := dlS_k (s := cSI (lpS s a) 164 a 16) (rr := G 1 r) (a := a) (v := v)
  have c : rwC G H r a w s (dlS (cSI (lpS s a) 164 a 16) (G 1 r) a v) := (rwC.lp.tr (rwC.i (Or.inr (Or.inl rfl)))).tr (rwC.dl rfl)
  generalize hs' : dlS (cSI (lpS s a) 164 a 16) (G 1 r) a v = s' at sI nK nP nE nQ nJ c
  clear hs'
  have P6 : s'.P 166 a = none := by rw [nP]; exact cSP_s
  have hRW := b1 j hj
  rw [← ea] at hRW
  have hm := (hM.r hr).w hj
  -- the model's
  have mI : ∀ g i, (moSI (moSI (foM t (2700 * r + j)) 111 (2700 * r + j) 16) 122 (2700 * r + j) v).I g i = if i = 2700 * r + j then (if g = 122 then v else if g = 111 then 16 else if g = 116 then -1 else if g = 113 then -1 else if g = 112 then 0 else if g = 110 then 2 else t.I g i) else t.I g i := fun g i => by
    unfold foM
    simp only [evMI]
    by_cases c : i = 2700 * r + j
    · simp only [c, and_true, if_true]
    · simp only [c, and_false, if_false]
  have mJ : (moSI (moSI (foM t (2700 * r + j)) 111 (2700 * r + j) 16) 122 (2700 * r + j) v).J = t.J := rfl
  have hb : 2700 * r ≤ 2700 * r + j ∧ 2700 * r + j < 2700 * r + 2700 := by omega
  have ct : rwT r t (moSI (moSI (foM t (2700 * r + j)) 111 (2700 * r + j) 16) 122 (2700 * r + j) v) := ((rwT.fo hb).tr (rwT.i (by decide) hb)).tr (rwT.i (by decide) hb)
  generalize moSI (moSI (foM t (2700 * r + j)) 111 (2700 * r + j) 16) 122 (2700 * r + j) v = t' at mI mJ ct
  have oI : ∀ g b, b ≠ a → b ≠ G 1 r → s'.I g b = s.I g b := fun g b h1 h2 => by
    rw [sI, if_neg (fun z => h2 z.2), if_neg (fun z => h1 z.2), if_neg (fun z => h1 z.2), if_neg (fun z => h1 z.2), if_neg (fun z => h1 z.2)]
  have iR : ∀ g, g ≠ 199 → s'.I g (G 1 r) = s.I g (G 1 r) := fun g hg => by
    rw [sI, if_neg (fun z => hg z.1), if_neg (fun z => hra z.2), if_neg (fun z => hra z.2), if_neg (fun z => hra z.2), if_neg (fun z => hra z.2)]
  have i199 : s'.I 199 (G 1 r) = if v < s.I 199 (G 1 r) then v else s.I 199 (G 1 r) := by rw [sI, if_pos ⟨rfl, rfl⟩]
  have i170 : s'.I 170 a = v := by rw [sI, if_neg (by omega), if_pos ⟨rfl, rfl⟩]
  have mv : ∀ g, t'.I g (2700 * r + j) = (if g = 122 then v else if g = 111 then 16 else if g = 116 then -1 else if g = 113 then -1 else if g = 112 then 0 else if g = 110 then 2 else t.I g (2700 * r + j)) := fun g => by rw [mI, if_pos rfl]
  refine rr_at h hM hr hj ea d1 c nQ (oI 201 _ (ne_ro ktb ka) (ne_ro ktb k1)) ct (by rw [mI]; split <;> rfl) ⟨iR 190 (by decide), iR 192 (by decide)⟩ (rt_keep (hq.rt hr) hq hr c ka kw iR (by rw [nE]; rfl) ct.1 (by rw [mI]; split <;> rfl) fun i _ => by rw [mI]; split <;> rfl) ?_ (fun g hg i hi => by rw [mI, if_neg hi]) (fun g hg i hi => by rw [mJ]) ?_ (fun z => ?_) ?_ ?_
  · rw [i199]
    split
    · rename_i hc
      exact fun z => Int32.lt_irrefl (Int32.lt_trans z hc)
    · exact Int32.lt_irrefl
  · unfold RW PF at hRW ⊢
    obtain ⟨⟨e1, e2, e3, e4⟩, ⟨e5, e6, e7, e8⟩, e9, ⟨e10, e11, e12⟩, e13, e14, e15⟩ := hRW
    rw [mJ, nJ, P6, i170, mv 106, mv 109, mv 110, mv 111, mv 112, mv 113, mv 119, mv 122, oI 100 _ (ne_ro k9 ka) (ne_ro k9 k1), oI 103 _ (ne_ro k9 ka) (ne_ro k9 k1), oI 100 _ (ne_ro k10 ka) (ne_ro k10 k1)]
    refine ⟨⟨e1, e2, e3, e4⟩, ⟨?_, ?_, ?_, ?_⟩, ?_, ⟨e10, e11, e12⟩, fun _ z => absurd rfl z, fun _ _ => rfl, fun _ z => absurd rfl z⟩
    · rw [sI, if_neg (by omega), if_neg (by omega), if_neg (by omega), if_neg (by omega), if_pos ⟨rfl, rfl⟩]; rfl
    · rw [sI, if_neg (by omega), if_neg (by omega), if_pos ⟨rfl, rfl⟩]; rfl
    · rw [sI, if_neg (by omega), if_neg (by omega), if_neg (by omega), if_pos ⟨rfl, rfl⟩]; rfl
    · rw [sI, if_neg (by omega), if_neg (by omega), if_neg (by omega), if_neg (by omega), if_neg (by omega)]; exact e8
    · rfl
  · rw [i170, i199]
    split
    · exact Int32.lt_irrefl
    · assumption
  · unfold kyR
    rw [mv 106, mv 109, mJ]
    rfl
  · have ei : cI t' r = cI t r := by unfold cI; rw [ct.1.I 70 (by decide)]
    obtain ⟨e1, e2, e3, e4, e5, e6, e7, e8, e9, e10, e11, e12⟩ := hm
    unfold mRw
    rw [ei, mJ, mv 106, mv 109, mv 110, mv 111, mv 112, mv 113, mv 116, mv 119]
    refine ⟨e1, ⟨2, rfl, by omega, by omega⟩, ⟨16, rfl, by omega, by omega⟩, fun z => absurd rfl z, ⟨0, rfl, by omega, by omega⟩, Or.inl rfl, fun z => absurd (show (2 : Int32) = 0 from z) (by decide), fun z => absurd (show (2 : Int32) = 1 from z) (by decide), fun z => absurd rfl z, e10, fun _ => rfl, fun z => absurd rfl z⟩
end Ow
