/-! Lines: list: the entry. -/
section Lq
variable {G H G' H' : Nat → Nat → Nat} {sa : Nat → Nat} {rd x kc ks : Nat} {s : cS} {t : moS} {l : List Int32} {ws : List (Nat × Nat)}
theorem ls_tailM (hM : MV t) (hW : WX t l ws) {i k p q m : Nat} {f pm : Int32} {a b : Int64} {gv lv : Option Nat} (h4 : 4 ≤ ws.length) (hp : p < ws.length) (hq : q < ws.length) (hi : i < cS' t) (hk : t.I 29 i = nI k) (hk16 : k < 16) (hP : isP t f a b m) (hgv : p = 0 ∧ gv = none ∨ p ≠ 0 ∧ ∃ v, gv = some v ∧ wN l ws p = some v ∧ v ≤ 128) (hlv : q = 0 ∧ lv = none ∨ q ≠ 0 ∧ ∃ v, lv = some v ∧ wN l ws q = some v ∧ v ≤ 128) (hpm : bit pm) (epm : wC l ws 2 = 1652373180 ∧ pm = 1 ∨ wC l ws 2 ≠ 1652373180 ∧ pm = 0) : M_lineList_b223 t (nI p) (nI q) (nI i) = some (0, mLe t i k pm f (nI m) (oI gv) (oI lv) a b) ∧ MV (mLe t i k pm f (nI m) (oI gv) (oI lv) a b) := by
  have h8 : cS' t ≤ 8 := hM.1.2.2.2.2.2.2.1.n.2.2
  have hn := hW.2.2.2.2
  have N := hM.n
  have rg : ∀ {o : Option Nat} {w : Nat}, (w = 0 ∧ o = none ∨ w ≠ 0 ∧ ∃ v, o = some v ∧ wN l ws w = some v ∧ v ≤ 128) → (oI o = -1 ∨ rng (oI o) 0 128) := fun h => by
    rcases h with ⟨_, e⟩ | ⟨_, v, e, _, hv⟩
    · rw [e]; exact Or.inl rfl
    · rw [e]; exact Or.inr ⟨v, rfl, Nat.zero_le _, hv⟩
  refine ⟨?_, mv_le hM hi hk hk16 hpm hP.ln (rg hgv) (rg hlv)⟩
  obtain ⟨z1, -, z3, z4, z5, -⟩ := hP
  unfold M_lineList_b223
  rw [rdI_n (N.n 29 8) (show i < 8 by omega) (by decide), hk]
  simp only [Option.bind_some]
  rw [nI_1, wrI_n (N.n 29 8) (show i < 8 by omega) (by decide)]
  simp only [Option.bind_some]
  rw [show M_code (moSI t 29 i (nI (k + 1))) 2 = some (wC l ws 2) from (hW.mf (show mfr [29] t (moSI t 29 i (nI (k + 1))) from mfr.si (by decide)) rfl).code (i := 2) (by omega), show (16 : Int32) = nI 16 from rfl, pk_mul, nI_add]
  simp only [Option.bind_some]
  have ix : 16 * i + k < 128 := by omega
  have b272 : M_lineList_b272 (moSI t 29 i (nI (k + 1))) (nI p) (nI q) (nI (16 * i + k)) (nI (16 * i + k)) pm = some (0, mLe t i k pm f (nI m) (oI gv) (oI lv) a b) := by
    unfold M_lineList_b272
    rw [wrZ_n (t := moSI t 29 i (nI (k + 1))) (N.n 30 128) ix (by decide), show vp_nar .boolean pm = pm by rcases hpm with e | e <;> rw [e] <;> rfl]
    simp only [Option.bind_some]
    rw [show (moSI (moSI t 29 i (nI (k + 1))) 30 (16 * i + k) pm).S 12 = f from z1, wrI_n (t := moSI (moSI t 29 i (nI (k + 1))) 30 (16 * i + k) pm) (N.n 31 128) ix (by decide)]
    simp only [Option.bind_some]
    rw [show (moSI (moSI (moSI t 29 i (nI (k + 1))) 30 (16 * i + k) pm) 31 (16 * i + k) f).Z 13 = a from z3, wrJ_n (t := moSI (moSI (moSI t 29 i (nI (k + 1))) 30 (16 * i + k) pm) 31 (16 * i + k) f) (N.n 32 128) ix (by decide)]
    simp only [Option.bind_some]
    rw [show (moSJ (moSI (moSI (moSI t 29 i (nI (k + 1))) 30 (16 * i + k) pm) 31 (16 * i + k) f) 32 (16 * i + k) a).Z 14 = b from z4, wrJ_n (t := moSJ (moSI (moSI (moSI t 29 i (nI (k + 1))) 30 (16 * i + k) pm) 31 (16 * i + k) f) 32 (16 * i + k) a) (N.n 33 128) ix (by decide)]
    simp only [Option.bind_some]
    rw [show (moSJ (moSJ (moSI (moSI (moSI t 29 i (nI (k + 1))) 30 (16 * i + k) pm) 31 (16 * i + k) f) 32 (16 * i + k) a) 33 (16 * i + k) b).S 15 = nI m from z5, wrI_n (t := moSJ (moSJ (moSI (moSI (moSI t 29 i (nI (k + 1))) 30 (16 * i + k) pm) 31 (16 * i + k) f) 32 (16 * i + k) a) 33 (16 * i + k) b) (N.n 34 128) ix (by decide)]
    simp only [Option.bind_some]
    generalize ht5 : moSI (moSJ (moSJ (moSI (moSI (moSI t 29 i (nI (k + 1))) 30 (16 * i + k) pm) 31 (16 * i + k) f) 32 (16 * i + k) a) 33 (16 * i + k) b) 34 (16 * i + k) (nI m) = t5
    have m5 : mfr [29, 30, 31, 32, 33, 34] t t5 := by
      rw [← ht5]
      exact (((((mfr.si (by decide)).tr (mfr.si (by decide))).tr (mfr.si (by decide))).tr (mfr.sj (by decide))).tr (mfr.sj (by decide))).tr (mfr.si (by decide))
    have N5 : ∀ k n, k ∉ mG ∧ moN0 k = n → t5.N k = n := fun k n e => by rw [m5.2 k (Or.inr e.1)]; exact N.n k n e
    have b336 : M_lineList_b336 t5 (nI q) (nI (16 * i + k)) (nI (16 * i + k)) (oI gv) = some (0, mLe t i k pm f (nI m) (oI gv) (oI lv) a b) := by
      unfold M_lineList_b336 M_lineList_b358
      rw [wrI_n (N5 35 128 (by decide +kernel)) ix (by decide)]
      simp only [Option.bind_some]
      have m6 : mfr [29, 30, 31, 32, 33, 34, 35] t (moSI t5 35 (16 * i + k) (oI gv)) := (m5.wk (by decide)).tr (mfr.si (by decide))
      rcases hlv with ⟨q0, e⟩ | ⟨q0, v, e, ev, _⟩
      · rw [q0, if_neg (show ¬ (0 : Int32) < nI 0 by decide), wrI_n (t := moSI t5 35 (16 * i + k) (oI gv)) (N5 36 128 (by decide +kernel)) ix (by decide), e]
        unfold mLe
        rw [ht5]; rfl
      · have b3 := (hW.mf m6 rfl).num (i := q) hq
        rw [ev] at b3
        rw [if_pos (show (0 : Int32) < nI q from nI_lt (a := 0) (by omega) (by omega)), b3]
        simp only [Option.bind_some]
        rw [wrI_n (t := moSI t5 35 (16 * i + k) (oI gv)) (N5 36 128 (by decide +kernel)) ix (by decide), e]
        unfold mLe
        rw [ht5]; rfl
    rcases hgv with ⟨p0, e⟩ | ⟨p0, v, e, ev, _⟩
    · rw [p0, if_neg (show ¬ (0 : Int32) < nI 0 by decide)]
      rw [e] at b336 ⊢
      exact b336
    · have b3 := (hW.mf m5 rfl).num (i := p) hp
      rw [ev] at b3
      rw [if_pos (show (0 : Int32) < nI p from nI_lt (a := 0) (by omega) (by omega)), b3]
      simp only [Option.bind_some]
      rw [e] at b336 ⊢
      exact b336
  rcases epm with ⟨e, rfl⟩ | ⟨e, rfl⟩
  · rw [if_pos e]; exact b272
  · rw [if_neg e]; exact b272
theorem ls_tail (L : LX G H sa x rd s t l ws) {i k p q m : Nat} {f pm : Int32} {a b : Int64} {gv lv : Option Nat} (h4 : 4 ≤ ws.length) (hp : p < ws.length) (hq : q < ws.length) (hi : i < cS' t) (hk : t.I 29 i = nI k) (hk16 : k < 16) (hP : isP t f a b m) (hpf : PF s (H 146 rd) (fam f) a b (nI m)) (hpm : bit pm) (epm : wC l ws 2 = 1652373180 ∧ pm = 1 ∨ wC l ws 2 ≠ 1652373180 ∧ pm = 0) (hkc : 1 ≤ kc) (hks : 4 ≤ ks) : ∀ Q : Int32 → cS → Nat → Nat → Prop, (∀ s', RR G H sa x s' (mLe t i k pm f (nI m) (oI gv) (oI lv) a b) → fr Rc Pc Qc s s' → Q 0 s' (kc - 1) (ks - 4)) → C_Re_listLine_b240 sa rd (oI gv) (oI lv) (nI i) s kc ks Q := by
  intro Q kq
  have h8 : cS' t ≤ 8 := L.mv.1.2.2.2.2.2.2.1.n.2.2
  have hn := L.nw
  obtain ⟨-, ⟨o1, o2⟩, ⟨p1, p2⟩, -⟩ := id L.rc
  have p230 := L.q.ty.r L.q.1.1 230 132 8
  have hls := L.q.2.2.2.2.1 i hi
  have hpl := L.q.ty.pl hls.1.1
  have hc : s.I 125 (G 3 i) = nI k := by
    have := hls.2.2.1
    rw [hk, nI_clamp (by omega)] at this
    exact this
  obtain ⟨y1, y2, y3, y4, y5⟩ := L.px
  unfold C_Re_listLine_b240
  refine ⟨_, gd_to o1, _, p1, _, gd_to o2, _, p230.1, _, gd_to ⟨by rw [p230.2]; decide, by rw [p230.2]; decide, by rw [p230.2]; exact vp_in_nI (by omega) (by decide)⟩, _, gd_to o1, o1, ?_⟩
  rw [nI_clamp (by omega), hls.1.2, show s.P (20 * 7 + 6) rd = some (H 146 rd) from y1]
  have fin : ∀ r7 : Int32, r7 = pm → ob (some (G 3 i)) (fun b8 => okO s 6 b8 ∧ C_Pl_add sa b8 (some (H 146 rd)) r7 (oI gv) (oI lv) s kc ks (fun sr9 cr9 dr9 => Q 0 sr9 cr9 dr9)) := by
    intro r7 h7
    rw [h7]
    refine ⟨_, rfl, hpl.1, w_plAdd hpl hc hk16 y3 hpf hpm hkc hks fun z sP hz hK ex hPF => ?_⟩
    obtain ⟨R1, fx⟩ := rr_newP L.1 L.mv hz hK ex (Or.inr (Or.inr (Or.inr rfl)))
    obtain ⟨g1, g3⟩ := le_rr (pm := pm) (ge := oI gv) (le := oI lv) R1 L.mv hi hk hk16 (by rw [hK]) hPF
    exact kq _ g1 (fx.wk.tr g3.wk)
  refine w_isK L.rc L.tk (i := 2) 1652373180 (by omega) (by decide) (fun e => ?_) (fun e => ?_)
  · rcases epm with ⟨_, rfl⟩ | ⟨z, _⟩
    · exact fin 1 rfl
    · exact absurd e z
  · rcases epm with ⟨z, _⟩ | ⟨_, rfl⟩
    · exact absurd z e
    · exact fin 0 rfl
theorem fp_pf (y : Nat) (s : cS) (f : Int32) (a b : Int64) (n : Int32) : fp y s (cSpf s y f a b n) ∧ PF (cSpf s y f a b n) y f a b n := by
  refine ⟨?_, cSpf_v⟩
  unfold cSpf
  exact fp.si.tr (fp.sj.tr (fp.sj.tr fp.si))
theorem rdc_gh (h : RdC H x rd s l ws) (e : hA H H' s) : RdC H' x rd s l ws := by
  have ex := e 220 x h.2.1.2.n0
  have e1 := e 141 rd h.2.1.1.n0
  have e2 := e 142 rd h.2.1.1.n0
  unfold RdC RWw at h ⊢
  rw [ex, e1, e2]
  exact h
end Lq
