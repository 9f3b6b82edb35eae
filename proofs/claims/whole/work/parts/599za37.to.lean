/-! A learned route becomes what an entry says: the relation. -/
noncomputable def toS (s : cS) (rr a p1 p2 : Nat) (F : Int32) (gh gl : Int64) (gn : Int32) (h l : Int64) (hn : Int32) (port : Option Nat) (tag metric tm to ga : Int32) : cS := if metric = 16 then dlS (cSI (cSP (cSpf (cSpf (cSI s 164 a metric) p1 F gh gl gn) p2 F h l hn) 166 a port) 165 a tag) rr a (tm + ga) else dlS (cSI (cSI (cSI (cSP (cSpf (cSpf (cSI s 164 a metric) p1 F gh gl gn) p2 F h l hn) 166 a port) 165 a tag) 168 a tm) 169 a to) rr a (tm + to)
noncomputable def toM (t : moS) (r k : Nat) (q metric tag : Int32) (h l : Int64) : moS := moSI (moSI (moSI (moSJ (moSJ (moSI (moSI (moSJ (moSJ (moSI (moSI t 111 k metric) 113 k q) 114 k (t.Z 164)) 115 k (t.Z 165)) 112 k tag) 116 k q) 117 k h) 118 k l) 122 k (if metric = 16 then t.S 1 + t.I 42 r else -1)) 120 k (t.S 1)) 121 k (t.I 41 r)
section To
variable {G H : Nat → Nat → Nat} {sa : Nat → Nat} {x r p w a k j b g rr p1 p2 q : Nat} {s : cS} {t : moS} {F gn hn tag metric tm to ga : Int32} {gh gl h l : Int64} {port : Option Nat}
theorem toI : (toS s rr a p1 p2 F gh gl gn h l hn port tag metric tm to ga).I g b = if g = 199 ∧ b = rr then (if (if metric = 16 then tm + ga else tm + to) < s.I 199 rr then (if metric = 16 then tm + ga else tm + to) else s.I 199 rr) else if g = 170 ∧ b = a then (if metric = 16 then tm + ga else tm + to) else if metric ≠ 16 ∧ g = 169 ∧ b = a then to else if metric ≠ 16 ∧ g = 168 ∧ b = a then tm else if g = 165 ∧ b = a then tag else if g = 103 ∧ b = p2 then hn else if g = 100 ∧ b = p2 then F else if g = 103 ∧ b = p1 then gn else if g = 100 ∧ b = p1 then F else if g = 164 ∧ b = a then metric else s.I g b := by
  have inn : ∀ g b, (cSI (cSP (cSpf (cSpf (cSI s 164 a metric) p1 F gh gl gn) p2 F h l hn) 166 a port) 165 a tag).I g b = if g = 165 ∧ b = a then tag else if g = 103 ∧ b = p2 then hn else if g = 100 ∧ b = p2 then F else if g = 103 ∧ b = p1 then gn else if g = 100 ∧ b = p1 then F else if g = 164 ∧ b = a then metric else s.I g b := fun g b => by
    rw [evI]
    show (if g = 165 ∧ b = a then tag else (cSpf (cSpf (cSI s 164 a metric) p1 F gh gl gn) p2 F h l hn).I g b) = _
    rw [evSI, evSI, evI]
  have e199 : ∀ s' : cS, (∀ g, g = 199 → s'.I g rr = s.I g rr) → ∀ v g b, (dlS s' rr a v).I g b = if g = 199 ∧ b = rr then (if v < s.I 199 rr then v else s.I 199 rr) else if g = 170 ∧ b = a then v else s'.I g b := fun s' h9 v g b => by
    unfold dlS
    rw [h9 199 rfl]
    by_cases c : v < s.I 199 rr
    · rw [if_pos c, if_pos c, evI, evI]
    · rw [if_neg c, if_neg c, evI]
      by_cases c2 : g = 199 ∧ b = rr
      · rw [if_pos c2, c2.1, c2.2, if_neg (by omega), h9 199 rfl]
      · rw [if_neg c2]
  have i9 : ∀ g, g = 199 → (cSI (cSP (cSpf (cSpf (cSI s 164 a metric) p1 F gh gl gn) p2 F h l hn) 166 a port) 165 a tag).I g rr = s.I g rr := fun g e => by
    rw [inn, if_neg (by omega), if_neg (by omega), if_neg (by omega), if_neg (by omega), if_neg (by omega), if_neg (by omega)]
  unfold toS
  by_cases c : metric = 16
  · rw [if_pos c, if_pos c, e199 _ i9, inn, if_neg (fun z : metric ≠ 16 ∧ g = 169 ∧ b = a => z.1 c), if_neg (fun z : metric ≠ 16 ∧ g = 168 ∧ b = a => z.1 c)]
  · have i9' : ∀ g, g = 199 → (cSI (cSI (cSI (cSP (cSpf (cSpf (cSI s 164 a metric) p1 F gh gl gn) p2 F h l hn) 166 a port) 165 a tag) 168 a tm) 169 a to).I g rr = s.I g rr := fun g e => by
      rw [evI, if_neg (by omega), evI, if_neg (by omega)]
      exact i9 g e
    rw [if_neg c, if_neg c, e199 _ i9', evI, evI, inn]
    have n1 : (metric ≠ 16 ∧ g = 169 ∧ b = a) = (g = 169 ∧ b = a) := propext ⟨fun z => z.2, fun z => ⟨c, z⟩⟩
    have n2 : (metric ≠ 16 ∧ g = 168 ∧ b = a) = (g = 168 ∧ b = a) := propext ⟨fun z => z.2, fun z => ⟨c, z⟩⟩
    simp only [n1, n2]
theorem toK : (toS s rr a p1 p2 F gh gl gn h l hn port tag metric tm to ga).K = s.K ∧ (toS s rr a p1 p2 F gh gl gn h l hn port tag metric tm to ga).Q = s.Q ∧ (toS s rr a p1 p2 F gh gl gn h l hn port tag metric tm to ga).E = s.E ∧ (∀ g b, (toS s rr a p1 p2 F gh gl gn h l hn port tag metric tm to ga).P g b = if g = 166 ∧ b = a then port else s.P g b) ∧ ∀ g b, (toS s rr a p1 p2 F gh gl gn h l hn port tag metric tm to ga).J g b = if g = 102 ∧ b = p2 then l else if g = 101 ∧ b = p2 then h else if g = 102 ∧ b = p1 then gl else if g = 101 ∧ b = p1 then gh else s.J g b := by
  have base : ∀ s' : cS, s'.K = s.K → s'.Q = s.Q → s'.E = s.E → (∀ g b, s'.P g b = if g = 166 ∧ b = a then port else s.P g b) → (∀ g b, s'.J g b = if g = 102 ∧ b = p2 then l else if g = 101 ∧ b = p2 then h else if g = 102 ∧ b = p1 then gl else if g = 101 ∧ b = p1 then gh else s.J g b) → ∀ v, (dlS s' rr a v).K = s.K ∧ (dlS s' rr a v).Q = s.Q ∧ (dlS s' rr a v).E = s.E ∧ (∀ g b, (dlS s' rr a v).P g b = if g = 166 ∧ b = a then port else s.P g b) ∧ ∀ g b, (dlS s' rr a v).J g b = if g = 102 ∧ b = p2 then l else if g = 101 ∧ b = p2 then h else if g = 102 ∧ b = p1 then gl else if g = 101 ∧ b = p1 then gh else s.J g b := fun s' h1 h2 h3 h4 h5 v => by
    obtain ⟨d1, d2, d3, d4, d5⟩ := dlS_k (s := s') (rr := rr) (a := a) (v := v)
    rw [d1, d2, d3, d4, d5]
    exact ⟨h1, h2, h3, h4, h5⟩
  have eP : ∀ g b, (cSP (cSpf (cSpf (cSI s 164 a metric) p1 F gh gl gn) p2 F h l hn) 166 a port).P g b = if g = 166 ∧ b = a then port else s.P g b := fun g b => evP
  have eJ : ∀ g b, (cSpf (cSpf (cSI s 164 a metric) p1 F gh gl gn) p2 F h l hn).J g b = if g = 102 ∧ b = p2 then l else if g = 101 ∧ b = p2 then h else if g = 102 ∧ b = p1 then gl else if g = 101 ∧ b = p1 then gh else s.J g b := fun g b => by
    rw [evSJ, evSJ]
    rfl
  unfold toS
  split
  · exact base (cSI (cSP (cSpf (cSpf (cSI s 164 a metric) p1 F gh gl gn) p2 F h l hn) 166 a port) 165 a tag) rfl rfl rfl eP eJ _
  · exact base (cSI (cSI (cSI (cSP (cSpf (cSpf (cSI s 164 a metric) p1 F gh gl gn) p2 F h l hn) 166 a port) 165 a tag) 168 a tm) 169 a to) rfl rfl rfl eP eJ _
theorem rwC_to : rwC G H r a w s (toS s (G 1 r) a (H 161 a) (H 162 a) F gh gl gn h l hn port tag metric tm to ga) := by
  have b1 : rwC G H r a w s (cSI (cSP (cSpf (cSpf (cSI s 164 a metric) (H 161 a) F gh gl gn) (H 162 a) F h l hn) 166 a port) 165 a tag) := ((((rwC.i (Or.inr (Or.inl rfl))).tr (rwC.pf (Or.inr (Or.inl rfl)))).tr (rwC.pf (Or.inr (Or.inr (Or.inl rfl))))).tr rwC.p).tr (rwC.i (Or.inr (Or.inl rfl)))
  unfold toS
  split
  · exact b1.tr (rwC.dl rfl)
  · exact ((b1.tr (rwC.i (Or.inr (Or.inl rfl)))).tr (rwC.i (Or.inr (Or.inl rfl)))).tr (rwC.dl rfl)
theorem toM_I {g i : Nat} {q : Int32} : (toM t r k q metric tag h l).I g i = if i = k then (if g = 121 then t.I 41 r else if g = 120 then t.S 1 else if g = 122 then (if metric = 16 then t.S 1 + t.I 42 r else -1) else if g = 116 then q else if g = 112 then tag else if g = 113 then q else if g = 111 then metric else t.I g i) else t.I g i := by
  unfold toM
  simp only [evMI, evIJ]
  by_cases c : i = k
  · simp only [c, and_true, if_true]
  · simp only [c, and_false, if_false]
theorem toM_J {g i : Nat} {q : Int32} : (toM t r k q metric tag h l).J g i = if i = k then (if g = 118 then l else if g = 117 then h else if g = 115 then t.Z 165 else if g = 114 then t.Z 164 else t.J g i) else t.J g i := by
  unfold toM
  simp only [evMJ, evJI]
  by_cases c : i = k
  · simp only [c, and_true, if_true]
  · simp only [c, and_false, if_false]
theorem rwT_to {q : Int32} (hb : 2700 * r ≤ k ∧ k < 2700 * r + 2700) : rwT r t (toM t r k q metric tag h l) := ((((((((((rwT.i (by decide) hb).tr (rwT.i (by decide) hb)).tr (rwT.j (by decide) hb)).tr (rwT.j (by decide) hb)).tr (rwT.i (by decide) hb)).tr (rwT.i (by decide) hb)).tr (rwT.j (by decide) hb)).tr (rwT.j (by decide) hb)).tr (rwT.i (by decide) hb)).tr (rwT.i (by decide) hb)).tr (rwT.i (by decide) hb)
theorem rr_to (hR : RR G H sa x s t) (hM : MV t) (hr : r < cR t) (hj : j < cN t r) (ea : a = G 4 (2700 * r + j)) (ek : k = 2700 * r + j) (hp : p < cI t r) (hm : rng metric 1 16) (htg : rng tag 0 65535) (hF : F = fam (t.I 106 k)) (e164 : t.Z 164 = gh) (e165 : t.Z 165 = gl) (etm : t.S 1 = tm) (eto : t.I 41 r = to) (ega : t.I 42 r = ga) : RR G H sa x (toS (cSI s 163 a 2) (G 1 r) a (H 161 a) (H 162 a) F gh gl gn h l hn (some (G 2 (4 * r + p))) tag metric tm to ga) (toM (moSI t 110 k 2) r k (nI (4 * r + p)) metric tag h l) ∧ MV (toM (moSI t 110 k 2) r k (nI (4 * r + p)) metric tag h l) := by
  subst ek
  have h6 := hM.nR
  have hn' := hM.nRo hr
  have h4 := hM.nIf hr
  have hq := hR.q.1
  have hT := hq.ty
  obtain ⟨b0, b1, b2⟩ := hq.tb hr
  obtain ⟨c1, c2, c3, w, cap, d1, d2, d3, d4, d5, d6, d7, d8⟩ := id b0
  have k1 := (hq.rt hr).1.1
  have ka : (s.K a).1 = 23 := by rw [ea]; exact (d6 j (by omega)).2
  have kw : (s.K w).1 = 135 := by rw [d2]
  have k9 := (hT.p ka 160 9).2
  have k10 := (hT.p ka 161 10).2
  have k11 := (hT.p ka 162 11).2
  have ktb := (hT.p k1 186 27).2
  have hra : G 1 r ≠ a := ne_ro k1 ka
  have nq : nI (4 * r + p) ≠ -1 := nI_ne (by omega)
  generalize hv : (if metric = 16 then tm + ga else tm + to) = v
  have sI : ∀ g b, (toS (cSI s 163 a 2) (G 1 r) a (H 161 a) (H 162 a) F gh gl gn h l hn (some (G 2 (4 * r + p))) tag metric tm to ga).I g b = if g = 199 ∧ b = G 1 r then (if v < s.I 199 (G 1 r) then v else s.I 199 (G 1 r)) else if g = 170 ∧ b = a then v else if metric ≠ 16 ∧ g = 169 ∧ b = a then to else if metric ≠ 16 ∧ g = 168 ∧ b = a then tm else if g = 165 ∧ b = a then tag else if g = 103 ∧ b = H 162 a then hn else if g = 100 ∧ b = H 162 a then F else if g = 103 ∧ b = H 161 a then gn else if g = 100 ∧ b = H 161 a then F else if g = 164 ∧ b = a then metric else if g = 163 ∧ b = a then 2 else s.I g b := fun g b => by
    rw [toI, hv, evI, evI, if_neg (show ¬ (199 = 163 ∧ G 1 r = a) by omega)]
  obtain ⟨nK, nQ, nE, nP, nJ⟩ := toK (s := cSI s 163 a 2) (rr := G 1 r) (a := a) (p1 := H 161 a) (p2 := H 162 a) (F := F) (gh := gh) (gl := gl) (gn := gn) (h := h) (l := l) (hn := hn) (port := some (G 2 (4 * r + p))) (tag := tag) (metric := metric) (tm := tm) (to := to) (ga := ga)
  have c : rwC G H r a w s (toS (cSI s 163 a 2) (G 1 r) a (H 161 a) (H 162 a) F gh gl gn h l hn (some (G 2 (4 * r + p))) tag metric tm to ga) := (rwC.i (Or.inr (Or.inl rfl))).tr rwC_to
  generalize hs' : toS (cSI s 163 a 2) (G 1 r) a (H 161 a) (H 162 a) F gh gl gn h l hn (some (G 2 (4 * r + p))) tag metric tm to ga = s' at sI nK nP nE nQ nJ c
  clear hs'
  have hRW := b1 j hj
  rw [← ea] at hRW
  have hmr := (hM.r hr).w hj
  have hb : 2700 * r ≤ 2700 * r + j ∧ 2700 * r + j < 2700 * r + 2700 := by omega
  have ct : rwT r t (toM (moSI t 110 (2700 * r + j) 2) r (2700 * r + j) (nI (4 * r + p)) metric tag h l) := (rwT.i (by decide) hb).tr (rwT_to hb)
  have mI : ∀ g i, (toM (moSI t 110 (2700 * r + j) 2) r (2700 * r + j) (nI (4 * r + p)) metric tag h l).I g i = if i = 2700 * r + j then (if g = 121 then to else if g = 120 then tm else if g = 122 then (if metric = 16 then tm + ga else -1) else if g = 116 then nI (4 * r + p) else if g = 112 then tag else if g = 113 then nI (4 * r + p) else if g = 111 then metric else if g = 110 then 2 else t.I g i) else t.I g i := fun g i => by
    rw [toM_I, evMI, evMI, evMI, if_neg (show ¬ (41 = 110 ∧ r = 2700 * r + j) by omega), if_neg (show ¬ (42 = 110 ∧ r = 2700 * r + j) by omega), show (moSI t 110 (2700 * r + j) 2).S 1 = t.S 1 from rfl, etm, eto, ega]
    by_cases y : i = 2700 * r + j
    · simp only [y, and_true, if_true]
    · simp only [y, and_false, if_false]
  have mJ : ∀ g i, (toM (moSI t 110 (2700 * r + j) 2) r (2700 * r + j) (nI (4 * r + p)) metric tag h l).J g i = if i = 2700 * r + j then (if g = 118 then l else if g = 117 then h else if g = 115 then gl else if g = 114 then gh else t.J g i) else t.J g i := fun g i => by
    rw [toM_J, show (moSI t 110 (2700 * r + j) 2).Z 165 = t.Z 165 from rfl, show (moSI t 110 (2700 * r + j) 2).Z 164 = t.Z 164 from rfl, e164, e165]
    rfl
  generalize toM (moSI t 110 (2700 * r + j) 2) r (2700 * r + j) (nI (4 * r + p)) metric tag h l = t' at mI mJ ct
  have iR : ∀ g, g ≠ 199 → s'.I g (G 1 r) = s.I g (G 1 r) := fun g hg => by
    rw [sI, if_neg (fun z => hg z.1), if_neg (fun z => hra z.2), if_neg (fun z => hra z.2.2), if_neg (fun z => hra z.2.2), if_neg (fun z => hra z.2), if_neg (fun z => (ne_ro k1 k11) z.2), if_neg (fun z => (ne_ro k1 k11) z.2), if_neg (fun z => (ne_ro k1 k10) z.2), if_neg (fun z => (ne_ro k1 k10) z.2), if_neg (fun z => hra z.2), if_neg (fun z => hra z.2)]
  have i199 : s'.I 199 (G 1 r) = if v < s.I 199 (G 1 r) then v else s.I 199 (G 1 r) := by rw [sI, if_pos ⟨rfl, rfl⟩]
  have i170 : s'.I 170 a = v := by rw [sI, if_neg (by omega), if_pos ⟨rfl, rfl⟩]
  have oT : ∀ g b, b ≠ a → b ≠ G 1 r → b ≠ H 161 a → b ≠ H 162 a → s'.I g b = s.I g b := fun g b h1 h2 h3 h4 => by
    rw [sI, if_neg (fun z => h2 z.2), if_neg (fun z => h1 z.2), if_neg (fun z => h1 z.2.2), if_neg (fun z => h1 z.2.2), if_neg (fun z => h1 z.2), if_neg (fun z => h4 z.2), if_neg (fun z => h4 z.2), if_neg (fun z => h3 z.2), if_neg (fun z => h3 z.2), if_neg (fun z => h1 z.2), if_neg (fun z => h1 z.2)]
  have n9a : H 160 a ≠ a := ne_ro k9 ka
  have nja : H 161 a ≠ H 162 a := ne_ro k10 k11
  have mv : ∀ g, t'.I g (2700 * r + j) = (if g = 121 then to else if g = 120 then tm else if g = 122 then (if metric = 16 then tm + ga else -1) else if g = 116 then nI (4 * r + p) else if g = 112 then tag else if g = 113 then nI (4 * r + p) else if g = 111 then metric else if g = 110 then 2 else t.I g (2700 * r + j)) := fun g => by rw [mI, if_pos rfl]
  have mw : ∀ g, t'.J g (2700 * r + j) = (if g = 118 then l else if g = 117 then h else if g = 115 then gl else if g = 114 then gh else t.J g (2700 * r + j)) := fun g => by rw [mJ, if_pos rfl]
  refine rr_at hR hM hr hj ea d1 c nQ (oT 201 _ (ne_ro ktb ka) (ne_ro ktb k1) (ne_ro ktb k10) (ne_ro ktb k11)) ct (by rw [mI]; split <;> rfl) ⟨iR 190 (by decide), iR 192 (by decide)⟩ (rt_keep (hq.rt hr) hq hr c ka kw iR (by rw [nE]; rfl) ct.1 (by rw [mI]; split <;> rfl) fun i _ => by rw [mI]; split <;> rfl) ?_ (fun g hg i hi => by rw [mI, if_neg hi]) (fun g hg i hi => by rw [mJ, if_neg hi]) ?_ (fun z => ?_) ?_ ?_
  · rw [i199]
    split
    · rename_i hc
      exact fun z => Int32.lt_irrefl (Int32.lt_trans z hc)
    · exact Int32.lt_irrefl
  · unfold RW PF at hRW ⊢
    obtain ⟨⟨e1, e2, e3, e4⟩, ⟨e5, e6, e7, e8⟩, e9, ⟨e10, e11, e12⟩, e13, e14, e15⟩ := hRW
    rw [i170, mv 106, mv 109, mv 110, mv 111, mv 112, mv 113, mv 119, mv 120, mv 121, mv 122, mw 107, mw 108, mw 114, mw 115, mw 117, mw 118, oT 100 _ n9a (ne_ro k9 k1) (ne_ro k9 k10) (ne_ro k9 k11), oT 103 _ n9a (ne_ro k9 k1) (ne_ro k9 k10) (ne_ro k9 k11)]
    have q1 : ∀ g, s'.J g (H 160 a) = s.J g (H 160 a) := fun g => by
      rw [nJ, if_neg (fun z => (ne_ro k9 k11) z.2), if_neg (fun z => (ne_ro k9 k11) z.2), if_neg (fun z => (ne_ro k9 k10) z.2), if_neg (fun z => (ne_ro k9 k10) z.2)]
      rfl
    rw [q1, q1]
    refine ⟨⟨e1, e2, e3, e4⟩, ⟨?_, ?_, ?_, ?_⟩, ?_, ⟨?_, ?_, ?_⟩, fun _ z => ⟨?_, ?_, ?_⟩, fun _ z => ?_, fun _ _ => ⟨?_, ?_, ?_⟩⟩
    · rw [sI, if_neg (by omega), if_neg (by omega), if_neg (by omega), if_neg (by omega), if_neg (by omega), if_neg (by omega), if_neg (by omega), if_neg (by omega), if_neg (by omega), if_neg (by omega), if_pos ⟨rfl, rfl⟩]; rfl
    · rw [sI, if_neg (by omega), if_neg (by omega), if_neg (by omega), if_neg (by omega), if_neg (by omega), if_neg (by omega), if_neg (by omega), if_neg (by omega), if_neg (by omega), if_pos ⟨rfl, rfl⟩]; rfl
    · rw [sI, if_neg (by omega), if_neg (by omega), if_neg (by omega), if_neg (by omega), if_pos ⟨rfl, rfl⟩]; rfl
    · rw [sI, if_neg (by omega), if_neg (by omega), if_neg (by omega), if_neg (by omega), if_neg (by omega), if_neg (by omega), if_neg (by omega), if_neg (by omega), if_neg (by omega), if_neg (by omega), if_neg (by omega)]; exact e8
    · rw [nP, if_pos ⟨rfl, rfl⟩]
      show _ = ifp G (nI (4 * r + p))
      unfold ifp
      rw [if_neg nq, nI_clamp (by omega)]
    · rw [sI, if_neg (by omega), if_neg (by omega), if_neg (by omega), if_neg (by omega), if_neg (by omega), if_neg (by omega), if_neg (fun z => nja z.2), if_neg (by omega), if_pos ⟨rfl, rfl⟩]; exact hF
    · rw [nJ, if_neg (by omega), if_neg (fun z => nja z.2), if_neg (by omega), if_pos ⟨rfl, rfl⟩]; rfl
    · rw [nJ, if_neg (fun z => nja z.2), if_neg (by omega), if_pos ⟨rfl, rfl⟩]; rfl
    · have z : metric ≠ 16 := z
      rw [sI, if_neg (by omega), if_neg (by omega), if_neg (by omega), if_pos ⟨z, rfl, rfl⟩]; rfl
    · have z : metric ≠ 16 := z
      rw [sI, if_neg (by omega), if_neg (by omega), if_pos ⟨z, rfl, rfl⟩]; rfl
    · have z : metric ≠ 16 := z
      rw [← hv, if_neg z]; rfl
    · have z : metric = 16 := z
      rw [← hv, if_pos z]
      show _ = if metric = 16 then tm + ga else -1
      rw [if_pos z]
    · rw [sI, if_neg (by omega), if_neg (by omega), if_neg (by omega), if_neg (by omega), if_neg (by omega), if_neg (by omega), if_pos ⟨rfl, rfl⟩]; exact hF
    · rw [nJ, if_neg (by omega), if_pos ⟨rfl, rfl⟩]; rfl
    · rw [nJ, if_pos ⟨rfl, rfl⟩]; rfl
  · rw [i170, i199]
    split
    · exact Int32.lt_irrefl
    · assumption
  · unfold kyR
    rw [mv 106, mv 109, mw 107, mw 108]
    rfl
  · have ei : cI t' r = cI t r := by unfold cI; rw [ct.1.I 70 (by decide)]
    obtain ⟨e1, e2, e3, e4, e5, e6, e7, e8, e9, e10, e11, e12⟩ := hmr
    unfold mRw
    rw [ei, mv 106, mv 109, mv 110, mv 111, mv 112, mv 113, mv 116, mv 119]
    refine ⟨e1, ⟨2, rfl, by omega, by omega⟩, hm, fun z => absurd rfl z, htg, Or.inr ⟨4 * r + p, rfl, by omega, by omega⟩, fun z => absurd (show (2 : Int32) = 0 from z) (by decide), fun z => absurd (show (2 : Int32) = 1 from z) (by decide), fun z => absurd rfl z, e10, fun _ => rfl, fun z => absurd rfl z⟩
end To
