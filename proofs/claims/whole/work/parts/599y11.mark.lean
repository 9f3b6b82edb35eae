/-! A route is marked as changed, on both sides. -/
noncomputable def mkS (s : cS) (rr cnt x a : Nat) : cS := if s.I 198 rr = -1 then cSI (cSE (cSI s 167 a 1) cnt 7 (s.E cnt 7 + 1)) 198 rr (s.I 225 x + 1 + rem_I (s.I 182 rr + s.E cnt 6) 5) else cSE (cSI s 167 a 1) cnt 7 (s.E cnt 7 + 1)
noncomputable def mkM (t : moS) (r k : Nat) : moS := if t.I 44 r = -1 then moSI (moSI (moSI t 119 k 1) 45 (11 * r + 7) (t.I 45 (11 * r + 7) + 1)) 44 r (t.S 1 + 1 + rem_I (nI r + t.I 45 (11 * r + 6)) 5) else moSI (moSI t 119 k 1) 45 (11 * r + 7) (t.I 45 (11 * r + 7) + 1)
section Mk
variable {G H : Nat → Nat → Nat} {sa : Nat → Nat} {x kc ks rr cnt a r w k : Nat} {s s1 s2 : cS} {t t1 t2 : moS}
theorem rwC.rf : rwC G H r a w s s := ⟨rfl, fun _ _ _ => rfl, fun _ _ => rfl, fun _ _ => rfl, fun _ _ => rfl, fun _ _ _ _ _ _ _ _ _ => rfl, fun _ _ _ _ _ _ => rfl⟩
theorem rwC.tr (h : rwC G H r a w s s1) (h' : rwC G H r a w s1 s2) : rwC G H r a w s s2 := by
  obtain ⟨a1, a2, a3, a4, a5, a6, a7⟩ := h
  obtain ⟨b1, b2, b3, b4, b5, b6, b7⟩ := h'
  exact ⟨b1.trans a1, fun g b hg => (b2 g b hg).trans (a2 g b hg), fun b hb => (b3 b hb).trans (a3 b hb), fun b hb => (b4 b hb).trans (a4 b hb), fun b hb => (b5 b hb).trans (a5 b hb), fun b h1 h2 h3 h4 h5 h6 h7 g => (b6 b h1 h2 h3 h4 h5 h6 (by rw [a1]; exact h7) g).trans (a6 b h1 h2 h3 h4 h5 h6 h7 g), fun b h1 h2 h3 h4 g => (b7 b h1 h2 h3 (by rw [a1]; exact h4) g).trans (a7 b h1 h2 h3 h4 g)⟩
theorem rwC.i {g b : Nat} {v : Int32} (h : b = H 186 (G 1 r) ∨ b = a ∨ b = H 160 a ∨ b = H 161 a ∨ b = H 162 a ∨ b = G 1 r ∨ (s.K b).1 = 18) : rwC G H r a w s (cSI s g b v) := ⟨rfl, fun _ _ _ => rfl, fun _ _ => rfl, fun _ _ => rfl, fun _ _ => rfl, fun c h1 h2 h3 h4 h5 h6 h7 k => by
  refine cSI_o fun z => ?_
  subst z
  rcases h with z | z | z | z | z | z | z
  · exact h1 z
  · exact h2 z
  · exact h3 z
  · exact h4 z
  · exact h5 z
  · exact h6 z
  · exact h7 z, fun _ _ _ _ _ _ => rfl⟩
theorem rwC.j {g b : Nat} {v : Int64} (h : b = H 160 a ∨ b = H 161 a ∨ b = H 162 a ∨ (s.K b).1 = 18) : rwC G H r a w s (cSJ s g b v) := ⟨rfl, fun _ _ _ => rfl, fun _ _ => rfl, fun _ _ => rfl, fun _ _ => rfl, fun _ _ _ _ _ _ _ _ _ => rfl, fun c h1 h2 h3 h4 k => by
  rw [evJ, if_neg]
  rintro ⟨-, z⟩
  subst z
  rcases h with z | z | z | z
  · exact h1 z
  · exact h2 z
  · exact h3 z
  · exact h4 z⟩
theorem rwC.pf {b : Nat} {v1 v4 : Int32} {v2 v3 : Int64} (h : b = H 160 a ∨ b = H 161 a ∨ b = H 162 a ∨ (s.K b).1 = 18) : rwC G H r a w s (cSpf s b v1 v2 v3 v4) := by
  have h' : b = H 186 (G 1 r) ∨ b = a ∨ b = H 160 a ∨ b = H 161 a ∨ b = H 162 a ∨ b = G 1 r ∨ (s.K b).1 = 18 := by
    rcases h with z | z | z | z
    · exact Or.inr (Or.inr (Or.inl z))
    · exact Or.inr (Or.inr (Or.inr (Or.inl z)))
    · exact Or.inr (Or.inr (Or.inr (Or.inr (Or.inl z))))
    · exact Or.inr (Or.inr (Or.inr (Or.inr (Or.inr (Or.inr z)))))
  exact (((rwC.i h').tr (rwC.j h)).tr (rwC.j h)).tr (rwC.i h')
theorem rwC.p {v : Option Nat} : rwC G H r a w s (cSP s 166 a v) := ⟨rfl, fun _ _ hg => cSP_g hg, fun _ hb => cSP_a hb, fun _ _ => rfl, fun _ _ => rfl, fun _ _ _ _ _ _ _ _ _ => rfl, fun _ _ _ _ _ _ => rfl⟩
theorem rwC.e {i : Nat} {v : Int32} : rwC G H r a w s (cSE s (H 196 (G 1 r)) i v) := ⟨rfl, fun _ _ _ => rfl, fun _ _ => rfl, fun _ _ => rfl, fun _ hb => cSE_a hb, fun _ _ _ _ _ _ _ _ _ => rfl, fun _ _ _ _ _ _ => rfl⟩
theorem rwC.q {f : Nat → Option Nat} : rwC G H r a w s (cQs s w f) := ⟨rfl, fun _ _ _ => rfl, fun _ _ => rfl, fun _ hb => if_neg hb, fun _ _ => rfl, fun _ _ _ _ _ _ _ _ _ => rfl, fun _ _ _ _ _ _ => rfl⟩
theorem rwC.mk : rwC G H r a w s (mkS s (G 1 r) (H 196 (G 1 r)) x a) := by
  unfold mkS
  have h1 : rwC G H r a w s (cSE (cSI s 167 a 1) (H 196 (G 1 r)) 7 (s.E (H 196 (G 1 r)) 7 + 1)) := (rwC.i (Or.inr (Or.inl rfl))).tr rwC.e
  split
  · exact h1.tr (rwC.i (Or.inr (Or.inr (Or.inr (Or.inr (Or.inr (Or.inl rfl)))))))
  · exact h1
theorem rwT.rf : rwT r t t := ⟨mfr.rf, fun _ _ => rfl, fun _ _ => rfl, fun _ _ => rfl, fun _ _ _ _ => rfl, fun _ _ _ _ => rfl⟩
theorem rwT.tr (h : rwT r t t1) (h' : rwT r t1 t2) : rwT r t t2 := by
  obtain ⟨a1, a2, a3, a4, a5, a6⟩ := h
  obtain ⟨b1, b2, b3, b4, b5, b6⟩ := h'
  exact ⟨a1.tr b1, fun j hj => (b2 j hj).trans (a2 j hj), fun j hj => (b3 j hj).trans (a3 j hj), fun j hj => (b4 j hj).trans (a4 j hj), fun k hk j hj => (b5 k hk j hj).trans (a5 k hk j hj), fun k hk j hj => (b6 k hk j hj).trans (a6 k hk j hj)⟩
theorem rwT.i {g i : Nat} {v : Int32} (hg : g ∈ fRI) (hi : 2700 * r ≤ i ∧ i < 2700 * r + 2700) : rwT r t (moSI t g i v) := by
  have hW : ∀ g, g ∈ fRI → g ∈ Wrow ∧ g ≠ 44 ∧ g ≠ 45 ∧ g ≠ 105 := by decide
  obtain ⟨h1, h2, h3, h4⟩ := hW g hg
  refine ⟨mfr.si h1, fun j _ => ?_, fun j _ => ?_, fun j _ => ?_, fun k hk j hj => ?_, fun _ _ _ _ => rfl⟩
  · rw [moSI_n h2.symm]
  · rw [moSI_n h3.symm]
  · rw [moSI_n h4.symm]
  · rw [evMI, if_neg (fun z => by omega)]
theorem rwT.j {g i : Nat} {v : Int64} (hg : g ∈ fRJ) (hi : 2700 * r ≤ i ∧ i < 2700 * r + 2700) : rwT r t (moSJ t g i v) := by
  have hW : ∀ g, g ∈ fRJ → g ∈ Wrow := by decide
  refine ⟨mfr.sj (hW g hg), fun j _ => rfl, fun j _ => rfl, fun j _ => rfl, fun _ _ _ _ => rfl, fun k hk j hj => ?_⟩
  rw [evMJ, if_neg (fun z => by omega)]
theorem rwT.sc {g : Nat} {v : Int32} (hg : g ∈ [153, 154, 155, 156]) : rwT r t (moSS t g v) := by
  have hW : ∀ g, g ∈ [153, 154, 155, 156] → g ∈ Wrow := by decide
  exact ⟨mfr.ss (hW g hg), fun j _ => rfl, fun j _ => rfl, fun j _ => rfl, fun _ _ _ _ => rfl, fun _ _ _ _ => rfl⟩
theorem rwT.mk (hi : 2700 * r ≤ k ∧ k < 2700 * r + 2700) : rwT r t (mkM t r k) := by
  have h1 : rwT r t (moSI (moSI t 119 k 1) 45 (11 * r + 7) (t.I 45 (11 * r + 7) + 1)) := by
    refine (rwT.i (by decide) hi).tr ⟨mfr.si (by decide), fun j _ => ?_, fun j hj => ?_, fun j _ => ?_, fun k hk j hj => ?_, fun _ _ _ _ => rfl⟩
    · rw [moSI_n (by decide)]
    · rw [evMI, if_neg (fun z => by omega)]
    · rw [moSI_n (by decide)]
    · rw [moSI_n (fun z => by subst z; exact absurd hk (by decide))]
  unfold mkM
  split
  · refine h1.tr ⟨mfr.si (by decide), fun j hj => ?_, fun j hj => ?_, fun j _ => ?_, fun k hk j hj => ?_, fun _ _ _ _ => rfl⟩
    · rw [evMI, if_neg (fun z => hj z.2)]
    · rw [moSI_n (by decide)]
    · rw [moSI_n (by decide)]
    · rw [moSI_n (fun z => by subst z; exact absurd hk (by decide))]
  · exact h1
theorem w_mark {Qk : cS → Nat → Nat → Prop} (ho : okO s 9 rr) (ha : okO s 8 a) (hx : okO s 11 x) (h1 : s.P 196 rr = some cnt) (h2 : s.K cnt = (104, 11)) (h3 : s.P 180 rr = some x) (kk : Qk (mkS s rr cnt x a) kc ks) : C_Rr_markChanged sa rr (some a) s kc ks Qk := by
  have okA' : ∀ (s' : cS) i, s'.K = s.K → i < 11 → okA s' .int cnt (nI i) := fun s' i e hi => ⟨by rw [e, h2]; decide, by rw [e, h2]; decide, by rw [e, h2]; decide, by rw [e, h2]; exact vp_in_nI hi (by decide)⟩
  unfold C_Rr_markChanged
  refine ⟨a, rfl, _, gd_to ⟨ha, Or.inr rfl⟩, _, gd_to (show okO _ 9 rr from ho), cnt, h1, _, gd_to (okA' _ 7 rfl (by decide)), _, gd_to (okA' _ 7 rfl (by decide)), _, gd_to (show okO _ 9 rr from ho), ?_⟩
  unfold mkS at kk
  have e198 : (cSE (cSI s 167 a 1) cnt 7 (s.E cnt 7 + 1)).I (20 * 9 + 18) rr = s.I 198 rr := (cSI_g (s := s) (g := 167) (a := a) (v := 1) (by decide) : (cSI s 167 a 1).I 198 rr = s.I 198 rr)
  have e6 : (cSE (cSI s 167 a 1) cnt 7 (s.E cnt 7 + 1)).E cnt 6 = s.E cnt 6 := cSE_i (by decide)
  have st : (cSE (cSI s 167 a 1) cnt (Int32.toNatClampNeg 7) ((cSI s 167 a 1).E cnt (Int32.toNatClampNeg 7) + 1)) = cSE (cSI s 167 a 1) cnt 7 (s.E cnt 7 + 1) := rfl
  by_cases c : s.I 198 rr = -1
  · rw [if_pos c] at kk
    refine ifT (by exact e198.trans c) ⟨_, gd_to (show okO _ 9 rr from ho), x, h3, _, gd_to (show okO _ 11 x from hx), _, gd_to (show okO _ 9 rr from ho), _, gd_to (show okO _ 9 rr from ho), cnt, h1, _, gd_to (okA' _ 6 rfl (by decide)), _, gd_to (show okO _ 9 rr from ho), ?_⟩
    have e225 : (cSE (cSI s 167 a 1) cnt 7 (s.E cnt 7 + 1)).I (20 * 11 + 5) x = s.I 225 x := (cSI_g (s := s) (g := 167) (a := a) (v := 1) (by decide) : (cSI s 167 a 1).I 225 x = s.I 225 x)
    have e182 : (cSE (cSI s 167 a 1) cnt 7 (s.E cnt 7 + 1)).I (20 * 9 + 2) rr = s.I 182 rr := (cSI_g (s := s) (g := 167) (a := a) (v := 1) (by decide) : (cSI s 167 a 1).I 182 rr = s.I 182 rr)
    rw [← e225, ← e182, ← e6] at kk
    exact kk
  · rw [if_neg c] at kk
    exact ifF (fun z => c (e198.symm.trans z)) kk
theorem mkM_e (N19 : t.N 119 = 16200) (N45 : t.N 45 = 66) (N44 : t.N 44 = 6) (hr : r < 6) (hk : k < 16200) : M_markChanged t (nI r) (nI k) = some (mkM t r k) := by
  have a7 : (11 : Int32) * nI r + 7 = nI (11 * r + 7) := by rw [show (11 : Int32) = nI 11 from rfl, pk_mul, show (7 : Int32) = nI 7 from rfl, nI_add]
  have a6 : (11 : Int32) * nI r + 6 = nI (11 * r + 6) := by rw [show (11 : Int32) = nI 11 from rfl, pk_mul, show (6 : Int32) = nI 6 from rfl, nI_add]
  unfold M_markChanged
  rw [wrZ_n (n := 16200) N19 hk (by decide), a7, a6]
  simp only [Option.bind_some]
  rw [rdI_n (n := 66) (show (moSI t 119 k _).N 45 = 66 from N45) (by omega) (by decide)]
  simp only [Option.bind_some]
  rw [wrI_n (n := 66) (show (moSI t 119 k _).N 45 = 66 from N45) (by omega) (by decide)]
  simp only [Option.bind_some]
  rw [rdI_n (n := 6) (show (moSI (moSI t 119 k _) 45 _ _).N 44 = 6 from N44) (by omega) (by decide)]
  simp only [Option.bind_some]
  have e44 : ∀ v v', (moSI (moSI t 119 k v) 45 (11 * r + 7) v').I 44 r = t.I 44 r := fun v v' => by rw [moSI_n (by decide), moSI_n (by decide)]
  have e45 : ∀ v, (moSI t 119 k v).I 45 (11 * r + 7) = t.I 45 (11 * r + 7) := fun v => by rw [moSI_n (by decide)]
  rw [e44, e45]
  unfold mkM
  by_cases c : t.I 44 r = -1
  · rw [if_pos c, if_pos c, rdI_n (n := 66) (show (moSI (moSI t 119 k _) 45 _ _).N 45 = 66 from N45) (by omega) (by decide)]
    simp only [Option.bind_some]
    rw [wrI_n (n := 6) (show (moSI (moSI t 119 k _) 45 _ _).N 44 = 6 from N44) (by omega) (by decide)]
    have e6 : ∀ v v', (moSI (moSI t 119 k v) 45 (11 * r + 7) v').I 45 (11 * r + 6) = t.I 45 (11 * r + 6) := fun v v' => by
      rw [evMI, if_neg (fun z => by omega), moSI_n (by decide)]
    rw [e6]
    rfl
  · rw [if_neg c, if_neg c]
    rfl
/-- the counts and times agree behind it -/
theorem rt_mark (h : RRt G H sa x s t r) (hT : TY cNo H s) (hxK : (s.K x).1 = 30) (ht : s.I 225 x = t.S 1) (ka : (s.K a).1 = 23) : RRt G H sa x (mkS s (G 1 r) (H 196 (G 1 r)) x a) (mkM t r k) r := by
  obtain ⟨⟨a1, a2, a3⟩, ⟨nm, b1, b2, b3⟩, ⟨c1, c2, c3, c4, c5⟩, d2, d3⟩ := h
  have k123 : H 195 (G 1 r) ≠ H 196 (G 1 r) := ne_ro (u := 123) (v := 104) (by rw [(hT.r a1 195 123 3).2]) (by rw [(hT.r a1 196 104 11).2])
  have hra : G 1 r ≠ a := ne_ro a1 ka
  have q7 := d3 7 (by decide)
  have q6 := d3 6 (by decide)
  have eE : ∀ b, (mkS s (G 1 r) (H 196 (G 1 r)) x a).E b = (cSE s (H 196 (G 1 r)) 7 (s.E (H 196 (G 1 r)) 7 + 1)).E b := fun b => by
    unfold mkS
    split <;> rfl
  have eI : ∀ g, g ≠ 198 → (mkS s (G 1 r) (H 196 (G 1 r)) x a).I g (G 1 r) = s.I g (G 1 r) := fun g hg => by
    unfold mkS
    split
    · rw [evI, if_neg (fun z => hg z.1)]
      exact cSI_o hra
    · exact cSI_o hra
  have m45 : ∀ j, (mkM t r k).I 45 j = if j = 11 * r + 7 then t.I 45 (11 * r + 7) + 1 else t.I 45 j := fun j => by
    unfold mkM
    split
    · rw [moSI_n (by decide), evMI, moSI_n (by decide)]
      by_cases c : j = 11 * r + 7
      · rw [if_pos ⟨rfl, c⟩, if_pos c]
      · rw [if_neg (fun z => c z.2), if_neg c]
    · rw [evMI, moSI_n (by decide)]
      by_cases c : j = 11 * r + 7
      · rw [if_pos ⟨rfl, c⟩, if_pos c]
      · rw [if_neg (fun z => c z.2), if_neg c]
  have mO : ∀ g, g ≠ 44 → g ≠ 45 → g ≠ 119 → (mkM t r k).I g = t.I g := fun g h1 h2 h3 => by
    unfold mkM
    split
    · rw [moSI_n h1, moSI_n h2, moSI_n h3]
    · rw [moSI_n h2, moSI_n h3]
  have mJ : (mkM t r k).J = t.J := by unfold mkM; split <;> rfl
  have nP : ∀ g b, (mkS s (G 1 r) (H 196 (G 1 r)) x a).P g b = s.P g b := fun g b => by unfold mkS; split <;> rfl
  have nK : (mkS s (G 1 r) (H 196 (G 1 r)) x a).K = s.K := by unfold mkS; split <;> rfl
  have nQ : (mkS s (G 1 r) (H 196 (G 1 r)) x a).Q = s.Q := by unfold mkS; split <;> rfl
  unfold RRt
  rw [nK, nQ, mJ, mO 39 (by decide) (by decide) (by decide), mO 40 (by decide) (by decide) (by decide), mO 41 (by decide) (by decide) (by decide), mO 42 (by decide) (by decide) (by decide), mO 43 (by decide) (by decide) (by decide), mO 70 (by decide) (by decide) (by decide), eI 182 (by decide), eI 183 (by decide), eI 185 (by decide), eI 197 (by decide), eE, eE, cSE_a k123, nP]
  refine ⟨⟨a1, a2, a3⟩, ⟨nm, b1, ?_, b3⟩, ⟨c1, c2, c3, c4, ?_⟩, d2, fun i hi => ?_⟩
  · rcases b2 with ⟨e1, e2, v, e3, e4, e5, e6⟩ | ⟨e1, kk, e2, e3, e4⟩
    · have hz : H 181 (G 1 r) ≠ a := ne_ro e1 ka
      have hz2 : H 181 (G 1 r) ≠ G 1 r := ne_ro e1 a1
      refine Or.inl ⟨by rw [nK]; exact e1, ?_, v, by rw [nP]; exact e3, by rw [nK]; exact e4, e5, fun i hi => ?_⟩
      · rw [show (mkS s (G 1 r) (H 196 (G 1 r)) x a).I = fun g b => (mkS s (G 1 r) (H 196 (G 1 r)) x a).I g b from rfl]
        have : ∀ g, (mkS s (G 1 r) (H 196 (G 1 r)) x a).I g (H 181 (G 1 r)) = s.I g (H 181 (G 1 r)) := fun g => by
          unfold mkS
          split
          · rw [cSI_o hz2]; exact cSI_o hz
          · exact cSI_o hz
        simp only [this]
        exact e2
      · rw [eE, cSE_a (ne_ro (u := 118) (v := 104) (by rw [e4]) (by rw [(hT.r a1 196 104 11).2]))]
        exact e6 i hi
    · exact Or.inr ⟨by rw [nK]; exact e1, kk, e2, e3, e4⟩
  · unfold mkS mkM
    rw [c5]
    by_cases c : t.I 44 r = -1
    · rw [if_pos c, if_pos c, cSI_s, moSI_s]
      show _ = (if r = r then _ else _)
      rw [if_pos rfl, ht, c1, q6]
    · rw [if_neg c, if_neg c, moSI_n (by decide), moSI_n (by decide)]
      show (cSI s 167 a 1).I 198 (G 1 r) = _
      rw [cSI_g (by decide)]
      exact c5
  · rw [m45]
    show (cSE s (H 196 (G 1 r)) 7 (s.E (H 196 (G 1 r)) 7 + 1)).E (H 196 (G 1 r)) i = _
    by_cases c : i = 7
    · subst c
      rw [if_pos rfl, cSE_v, q7]
    · rw [if_neg (by omega), cSE_i c]
      exact d3 i hi
end Mk
