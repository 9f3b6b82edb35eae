/-! A datagram is seen on its link; one more is counted. -/
/-- what the row of the latest datagram of a link may still cost -/
def plC (s : cS) (G H : Nat → Nat → Nat) (l : Nat) : Nat := 1200 - capOf s (H 67 (G 0 l))
section Se
variable {G H : Nat → Nat → Nat} {sa : Nat → Nat} {x r l kc ks k0 m0 : Nat} {s s' : cS} {t : moS} {L : List Int32}
theorem rr_seen (hR : RR G H sa x s t) (hM : MV t) (hl : l < cL t) (hL6 : L.length ≤ 600) (hA : AP sa (H 67 (G 0 l)) 125 600 1200 (cSI (cSI s 65 (G 0 l) (s.I 65 (G 0 l) + 1)) 1 (H 67 (G 0 l)) 0) k0 m0 L s' kc ks) : RR G H sa x s' (seT t l L) ∧ fr [7, 2, 125] [(0, 2)] [] s s' ∧ ∀ i, i < cL t → i ≠ l → plC s' G H i = plC s G H i := by
  have hq := hR.q.1
  have hT := hq.ty
  have hx := hq.1.1
  have k7 := (hq.link hl).1.1
  have k2 := (hT.p k7 67 2).2
  have hg1 : RGl G H sa x (cSI s 65 (G 0 l) (s.I 65 (G 0 l) + 1)) := hq.1.v rfl rfl (fr.si (Rv := [7]) (Gp := []) (Rq := []) (by rw [k7]; decide)) rfl rfl rfl
  have hg2 : RGl G H sa x (cSI (cSI s 65 (G 0 l) (s.I 65 (G 0 l) + 1)) 1 (H 67 (G 0 l)) 0) := hg1.v rfl rfl (fr.si (Rv := [2]) (Gp := []) (Rq := []) (by show (s.K _).1 ∈ _; rw [k2]; decide)) rfl rfl rfl
  have hg := hg2.ap hA (u := 2) k2 (by decide) (by decide)
  have f2 : fr [2, 125] [(0, 2)] [] (cSI s 65 (G 0 l) (s.I 65 (G 0 l) + 1)) s' := (fr.si (by show (s.K _).1 ∈ _; rw [k2]; decide)).tr (hA.fr (u := 2) k2)
  have f1 : fr [7] [] [] s (cSI s 65 (G 0 l) (s.I 65 (G 0 l) + 1)) := fr.si (by rw [k7]; decide)
  have f : fr [7, 2, 125] [(0, 2)] [] s s' := (f1.wk).tr (f2.wk)
  obtain ⟨cap', ⟨bl, hcap'⟩, -, -, -, hfx, -⟩ := hA.bl
  have e65 := (hq.link hl).2.2.1.2.2.2.2.1
  have m := seT_m (t := t) (l := l) (L := L)
  have b0 : ∀ i, i < cL t → ∃ c, c ≤ 1200 ∧ BL s (H 67 (G 0 i)) 125 (tl (fun j => t.I 26 (700 * i + j)) (t.I 25 i).toNatClampNeg) c := fun i hi => (hq.link hi).2.2.2
  have neb : ∀ i, i < cL t → i ≠ l → H 67 (G 0 i) ≠ H 67 (G 0 l) := fun i hi hne z => hne (hq.2.1.1 i l hi hl (hT.i (hq.link hi).1.1 k7 67 (by decide) z))
  have keep : ∀ i c ll, i < cL t → i ≠ l → BL s (H 67 (G 0 i)) 125 ll c → BL s' (H 67 (G 0 i)) 125 ll c := fun i c ll hi hne hb => by
    have ki := (hT.p (hq.link hi).1.1 67 2).2
    have hb2 : BL (cSI (cSI s 65 (G 0 l) (s.I 65 (G 0 l) + 1)) 1 (H 67 (G 0 l)) 0) (H 67 (G 0 i)) 125 ll c := by
      obtain ⟨q1, q2, d, q3, q4, q5, q6⟩ := hb
      refine ⟨q1, q2, d, q3, q4, ?_, q6⟩
      rw [cSI_a (neb i hi hne), cSI_g (by decide)]
      exact q5
    refine hA.keep hb2 (neb i hi hne) (fun d e1 e2 => neb i hi hne ?_)
    exact hT.2.2 _ _ d hb.1 (okr k2 0) e1 e2
  refine ⟨?_, f, fun i hi hne => ?_⟩
  · refine rr_lk hR hM hg f (m.wk (by decide)) fun i hi => ?_
    have := rlk_si (g := 65) (k := 23) (v := s.I 65 (G 0 l) + 1) (hq.link hi) hT hq.tk hi hl hq.2.1 (Or.inr (Or.inl ⟨rfl, rfl⟩)) k7
    obtain ⟨⟨a1, a2⟩, ⟨nm, a3, a4, a5⟩, ⟨b1, b2, b3, b4, b5, b6⟩, -⟩ := this
    have v := f2.v (a := G 0 i) (u := 7) a1 (by decide)
    unfold RLk
    rw [v.1, v.1, v.1, v.1, v.1, v.1, m.I 19 (by decide), m.I 20 (by decide), m.I 21 (by decide), m.I 22 (by decide), m.I 24 (by decide), m.J 18 (by decide), seT_23, seT_25]
    rw [moSI_s, e65] at b5
    refine ⟨⟨f2.r a1, ?_⟩, ⟨nm, ?_, a4.fr f2 (by decide) (by decide) (by decide) hg.2.2.1, a5⟩, ⟨b1, b2, b3, b4, ?_, b6⟩, ?_⟩
    · rw [f2.q (a := H 226 x) (u := 130) (by show (s.K _).1 = _; rw [(hT.r hx 226 130 10).2]) (by decide)]; exact a2
    · rw [f2.p a1 (by decide)]; exact a3
    · rw [e65]; exact b5
    · by_cases c : i = l
      · subst c
        refine ⟨cap', hcap', ?_⟩
        have hlen : L.length < 2 ^ 31 := by
          obtain ⟨-, -, d, -, -, -, h1, -, h2, -⟩ := bl
          omega
        rw [upd_s, nI_clamp hlen, ← tl_of (l := L) (n := L.length) rfl (fun j hj => by rw [seT_26, if_pos (by omega)]; congr 1; omega)]
        exact bl
      · obtain ⟨c2, h1, h2⟩ := b0 i hi
        refine ⟨c2, h1, ?_⟩
        have h25 := (hM.2.1 i hi).2.2.2.2.2.2.1.n.2.2
        rw [upd_n c, tl_eq (g := fun j => t.I 26 (700 * i + j)) (fun j hj => by
          rw [seT_26, if_neg]
          omega)]
        exact keep i c2 _ hi c h2
  · obtain ⟨c2, h1, h2⟩ := b0 i hi
    unfold plC
    rw [h2.cap, (keep i c2 _ hi hne h2).cap]
/-- one more of a router's counts -/
theorem rr_cnt {i : Nat} {v : Int32} (hR : RR G H sa x s t) (hM : MV t) (hr : r < cR t) (hi : i < 11) : RR G H sa x (cSE s (H 196 (G 1 r)) i v) (moSI t 45 (11 * r + i) v) ∧ MV (moSI t 45 (11 * r + i) v) := by
  have hq := hR.q.1
  have hT := hq.ty
  have hx := hq.1.1
  have k26 := (hq.rt hr).1.1
  have k104 := (hT.r k26 196 104 11).2
  have f : fr [104] [] [] s (cSE s (H 196 (G 1 r)) i v) := fr.se (by rw [k104]; decide)
  have m : mfr [45] t (moSI t 45 (11 * r + i) v) := mfr.si (by decide)
  have hg : RGl G H sa x (cSE s (H 196 (G 1 r)) i v) := hq.1.v rfl rfl f rfl rfl rfl
  have h6 := hM.nR
  constructor
  · refine rr_tb hR hM (fun _ _ => rfl) hg (hq.2.1.fr m rfl) f.wk (m.wk (by decide)) (fun _ _ => ⟨rfl, rfl⟩) fun r' hr' => ?_
    obtain ⟨i1, i2, i3, -⟩ := hq.2.2.2.2.2.1 r' hr'
    refine ⟨?_, i2.fr hT i1.1.1 f rfl m rfl rfl rfl rfl, i3.fr hT i1.1.1 f m rfl rfl rfl rfl⟩
    obtain ⟨a1, ⟨nm, b1, b2, b3⟩, c, d, e⟩ := i1
    have n195 : H 195 (G 1 r') ≠ H 196 (G 1 r) := ne_ro (u := 123) (v := 104) (by rw [(hT.r a1.1 195 123 3).2]) (by rw [k104])
    unfold RRt
    rw [m.I 39 (by decide), m.I 40 (by decide), m.I 41 (by decide), m.I 42 (by decide), m.I 43 (by decide), m.I 44 (by decide), m.I 70 (by decide), m.J 38 (by decide), cSE_a n195]
    refine ⟨a1, ⟨nm, b1, b2.fr f (by decide) (by decide) (by decide) hg.2.2.1, b3⟩, c, d, fun j hj => ?_⟩
    rw [moSI_s]
    by_cases e1 : r' = r
    · subst e1
      by_cases e2 : j = i
      · subst e2
        rw [cSE_v, upd_s]
      · rw [cSE_i e2, upd_n (by omega)]
        exact e j hj
    · have : H 196 (G 1 r') ≠ H 196 (G 1 r) := fun z => e1 (hq.2.1.2.1 r' r hr' hr (hT.i a1.1 k26 196 (by decide) z))
      rw [cSE_a this, upd_n (by omega)]
      exact e j hj
  · refine hM.tb (m.wk (by decide)) (fun r' hr' => (hM.r hr').fr m rfl) fun r' h1 h2 => ?_
    obtain ⟨⟨w1, -, -, -, -, -, w7⟩, w8⟩ := hM.2.2.2.2.2.2.2.1 r' h1 h2
    rw [m.I 46 (by decide), m.I 105 (by decide), moSI_s]
    exact ⟨w1, w7, fun j hj => by rw [upd_n (by omega)]; exact w8 j hj⟩
end Se
theorem si_comm {t : moS} {a b i j : Nat} {v w : Int32} (h : a ≠ b) : moSI (moSI t a i v) b j w = moSI (moSI t b j w) a i v := by
  unfold moSI
  refine Prod.ext rfl (Prod.ext rfl (Prod.ext ?_ rfl))
  funext k
  show (if k = b then upd (if b = a then upd (t.I a) i v else t.I b) j w else if k = a then upd (t.I a) i v else t.I k) = (if k = a then upd (if a = b then upd (t.I b) j w else t.I a) i v else if k = b then upd (t.I b) j w else t.I k)
  rw [if_neg h, if_neg (Ne.symm h)]
  by_cases c1 : k = b
  · rw [if_pos c1, if_neg (by omega), if_pos c1]
  · rw [if_neg c1]
    by_cases c2 : k = a
    · rw [if_pos c2, if_pos c2]
    · rw [if_neg c2, if_neg c2, if_neg c1]
theorem ly_comm {t : moS} {a i n B : Nat} {v : Int32} {u : Nat → Int32} (h : a ≠ n) : ∀ k, lyT (moSI t a i v) n B u k = moSI (lyT t n B u k) a i v
  | 0 => rfl
  | k + 1 => by
    show moSI (lyT (moSI t a i v) n B u k) n (B + k) (u k) = moSI (moSI (lyT t n B u k) n (B + k) (u k)) a i v
    rw [ly_comm h k, si_comm h]
theorem se_comm {t : moS} {i l : Nat} {v : Int32} {L : List Int32} : seT (moSI t 45 i v) l L = moSI (seT t l L) 45 i v := by
  unfold seT
  rw [← ly_comm (a := 45) (n := 26) (by decide)]
  rw [si_comm (a := 45) (b := 23) (by decide), si_comm (a := 45) (b := 25) (by decide), moSI_n (show 23 ≠ 45 by decide)]
