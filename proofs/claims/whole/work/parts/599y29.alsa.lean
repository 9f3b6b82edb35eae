/-! One prefix is settled in the model: what becomes of the map. -/
def mkV (w : NV) : NV := (w.1, w.2.1, w.2.2.1, w.2.2.2.1, 1, w.2.2.2.2.2)
section As
variable {t t1 td t2 : moS} {r j i k : Nat} {f n dk dm di dt v : Int32} {h l : Int64} {P : Pf}
theorem rvN_o {c : Int32} (dk2 : dk ≠ 2) (e0 : t.I 110 k = dk) (e1 : t.I 111 k = dm) (e2 : t.I 112 k = dt) (e3 : t.I 113 k = di) (e4 : t.I 119 k = c) (e5 : t.J 114 k = 0) (e6 : t.J 115 k = 0) : rvN t k = ownV (dk, dm, di, dt) c := by
  unfold rvN ownV
  rw [e0, e1, e2, e3, e4, e5, e6, if_neg (fun z => dk2 z.1), if_neg (fun z => dk2 z.1), if_neg (fun z => dk2 z.1)]
theorem rvN_be (dk2 : dk ≠ 2) : rvN (beM t k dk dm di dt) k = ownV (dk, dm, di, dt) (t.I 119 k) ∧ pfR (beM t k dk dm di dt) k = pfR t k := by
  have v : ∀ g, (beM t k dk dm di dt).I g k = (if g = 122 then -1 else if g = 116 then -1 else if g = 112 then dt else if g = 113 then di else if g = 111 then dm else if g = 110 then dk else t.I g k) := fun g => by rw [beM_I, if_pos rfl]
  have vJ : ∀ g, (beM t k dk dm di dt).J g k = (if g = 115 then 0 else if g = 114 then 0 else t.J g k) := fun g => by rw [beM_J, if_pos rfl]
  refine ⟨rvN_o dk2 (v 110) (v 111) (v 112) (v 113) (v 119) (vJ 114) (vJ 115), ?_⟩
  unfold pfR
  rw [v 106, v 109, vJ 107, vJ 108]
  rfl
theorem rvN_la : rvN (laM t k v) k = (2, 16, 0, -1, t.I 119 k, t.J 114 k, t.J 115 k, (0, 0), v, (0, 0)) ∧ pfR (laM t k v) k = pfR t k := by
  have vI : ∀ g, (laM t k v).I g k = (if g = 122 then v else if g = 111 then 16 else if g = 116 then -1 else if g = 113 then -1 else if g = 112 then 0 else if g = 110 then 2 else t.I g k) := fun g => by rw [laM_I, if_pos rfl]
  have vJ : (laM t k v).J = t.J := rfl
  unfold rvN pfR
  rw [vJ, vI 110, vI 111, vI 112, vI 113, vI 119, vI 120, vI 121, vI 122, vI 106, vI 109]
  exact ⟨rfl, rfl⟩
theorem rvN_set (dk2 : dk ≠ 2) (e1 : t.I 119 k = 0) (e2 : t.J 114 k = 0) (e3 : t.J 115 k = 0) : rvN (setM t k dk dm di dt) k = ownV (dk, dm, di, dt) 0 := by
  have v : ∀ g, (setM t k dk dm di dt).I g k = (if g = 112 then dt else if g = 113 then di else if g = 111 then dm else if g = 110 then dk else t.I g k) := fun g => by rw [setM_I, if_pos rfl]
  exact rvN_o dk2 (v 110) (v 111) (v 112) (v 113) ((v 119).trans e1) e2 e3
theorem rvN_mk : rvN (mkM t r k) k = mkV (rvN t k) ∧ pfR (mkM t r k) k = pfR t k := by
  have mI : ∀ g, g ∈ fRI → g ≠ 119 → (mkM t r k).I g k = t.I g k := fun g hg h1 => by rw [mkM_I hg, if_neg (fun z => h1 z.1)]
  have m9 : (mkM t r k).I 119 k = 1 := by rw [mkM_I (by decide), if_pos ⟨rfl, rfl⟩]
  unfold rvN pfR mkV
  rw [mkM_J, m9, mI 106 (by decide) (by decide), mI 109 (by decide) (by decide), mI 110 (by decide) (by decide), mI 111 (by decide) (by decide), mI 112 (by decide) (by decide), mI 113 (by decide) (by decide), mI 120 (by decide) (by decide), mI 121 (by decide) (by decide), mI 122 (by decide) (by decide)]
  exact ⟨rfl, rfl⟩
theorem mkM_c : (mkM t r k).I 45 (11 * r + 7) = t.I 45 (11 * r + 7) + 1 ∧ (∀ i, i ≠ 7 → (mkM t r k).I 45 (11 * r + i) = t.I 45 (11 * r + i)) ∧ (mkM t r k).I 44 r = if t.I 44 r = -1 then g0M t r else t.I 44 r := by
  unfold mkM
  by_cases c : t.I 44 r = -1
  · rw [if_pos c]
    refine ⟨?_, fun i hi => ?_, ?_⟩
    · rw [moSI_n (by decide), evMI, if_pos ⟨rfl, rfl⟩]
    · rw [moSI_n (by decide), evMI, if_neg (fun z => by omega), moSI_n (by decide)]
    · rw [evMI, if_pos ⟨rfl, rfl⟩, if_pos c]
  · rw [if_neg c]
    refine ⟨?_, fun i hi => ?_, ?_⟩
    · rw [evMI, if_pos ⟨rfl, rfl⟩]
    · rw [evMI, if_neg (fun z => by omega), moSI_n (by decide)]
    · rw [moSI_n (by decide), moSI_n (by decide), if_neg c]
/-- a mark, in the map -/
theorem al_mk (hM : MV t) (hr : r < cR t) (hj : j < cN t r) (e : pfR t (2700 * r + j) = P) : al (mkM t r (2700 * r + j)) r = ((fun P' => if P' = P then some (mkV (rvN t (2700 * r + j))) else Vt t r P'), t.I 45 (11 * r + 7) + 1, if t.I 44 r = -1 then g0M t r else t.I 44 r) := by
  have h9 := hM.nRo hr
  obtain ⟨c1, -, c3⟩ := mkM_c (t := t) (r := r) (k := 2700 * r + j)
  have hn : cN (mkM t r (2700 * r + j)) r = cN t r := by unfold cN; rw [mkM_5]
  have hr' : r < cR (mkM t r (2700 * r + j)) := by unfold cR; rw [(rwT.mk (t := t) (r := r) (k := 2700 * r + j) (by omega)).1.S 37 (by decide)]; exact hr
  have o : ∀ i, i ≠ j → rvN (mkM t r (2700 * r + j)) (2700 * r + i) = rvN t (2700 * r + i) ∧ pfR (mkM t r (2700 * r + j)) (2700 * r + i) = pfR t (2700 * r + i) := fun i hi => rvN_mv (fun g hg => by rw [mkM_I hg, if_neg (fun z => by omega)]) fun g hg => by rw [mkM_J]
  have hv := Vt_at hM (mv_mk hM hr hj) hr hr' hn hj (fun i _ => by
    by_cases c : i = j
    · rw [c]; exact rvN_mk.2
    · exact (o i c).2) (fun i _ c => (o i c).1) e
  unfold al
  rw [hv, c1, c3, rvN_mk.1]
theorem st1_e {d : Pf → Option DU} {tg g0 : Int32} {a b : AA} {v' : Option NV} {ch : Bool} (h1 : stp tg (d P) (a.1 P) = (v', ch)) (h2 : b.1 = fun P' => if P' = P then v' else a.1 P') (h3 : b.2.1 = cond ch (a.2.1 + 1) a.2.1) (h4 : b.2.2 = cond ch (if a.2.2 = -1 then g0 else a.2.2) a.2.2) : b = st1 d tg g0 P a := by
  unfold st1 st2
  rw [h1]
  exact Prod.ext h2 (Prod.ext h3 h4)
/-- one prefix is settled -/
theorem al_sa (hM : MV t) (hr : r < cR t) (hf : lnOk f n) (h8 : (∀ j, j < cN t r → kyR t (2700 * r + j) ≠ kyV f h l n) → cN t r < 880) : ∃ t', SA t r f h l n = some t' ∧ MV t' ∧ rwT r t t' ∧ al t' r = st1 (dF t r) (tgM t r) (g0M t r) (f, h, l, n) (al t r) ∧ ∀ i, i ≠ 7 → t'.I 45 (11 * r + i) = t.I 45 (11 * r + i) := by
  have h9 := hM.nRo hr
  have h6 := hM.nR
  rcases m_find (h := h) (l := l) hM hr hf with ⟨hnf, hF⟩ | ⟨j, hj, hk, hF⟩
  · have hV : Vt t r (f, h, l, n) = none := Vt_none fun j hj z => hnf j hj ((pfR_v (hM.kl hr hj) hf).mp z)
    rcases m_isDue (h := h) (l := l) hM hr hf with ⟨dk, dm, di, dt, td, hd, hD, m, e1, e2, e3, e4⟩ | ⟨hno, td, hD, m⟩
    · obtain ⟨n1, n2, n3, n4⟩ := mdu m
      have n3r := n3 r
      have hM' : MV td := hM.fr m rfl (hM.1.fr m rfl)
      have hr' : r < cR td := by rw [n1]; exact hr
      have hdo := hd.ok hM hr
      have dk2 : dk ≠ 2 := by rcases hdo.1 with e | e <;> rw [e] <;> decide
      obtain ⟨i, t2, hI, hins, hi, l1, l2⟩ := m_insert (h := h) (l := l) hM' hr' hf (by rw [n3]; exact h8 hnf)
      have hlt : ∀ j, j < i → kyR td (2700 * r + j) < kyV f h l n := fun j hj => by
        have := l1 j hj
        have h2 := hnf j (by omega)
        rw [n4] at this ⊢
        omega
      have hSA := sa_come (i := i) hM hr hF hD m e1 e2 e3 e4 (by omega) hI hins.1
      have hMi := mv_ins (dk := dk) (dm := dm) (di := di) (dt := dt) hM' hr' rfl (by rw [n3]; exact h8 hnf) hins hi hf hlt l2 (hdo.m m)
      obtain ⟨ct, e105, m44, m45, oI, oJ, ⟨v1, v2, v3, v4⟩, -⟩ := ins_mod (dk := dk) (dm := dm) (di := di) (dt := dt) hins rfl (by rw [n3]; exact h8 hnf) hi
      have hset : rvN (setM t2 (2700 * r + i) dk dm di dt) (2700 * r + i) = ownV (dk, dm, di, dt) 0 := by
        obtain ⟨-, -, -, -, -, -, w6, w7, w8, -⟩ := hins
        exact rvN_set dk2 w6 w7 w8
      have hpr : pfR (setM t2 (2700 * r + i) dk dm di dt) (2700 * r + i) = (f, h, l, n) := by
        unfold pfR
        rw [v1, v2, v3, v4]
      generalize setM t2 (2700 * r + i) dk dm di dt = t3 at *
      have hr3 : r < cR t3 := by unfold cR; rw [ct.1.S 37 (by decide)]; exact hr'
      have hn3 : cN t3 r = cN td r + 1 := by unfold cN; rw [e105, nI_clamp (by omega)]
      have hjb : i < cN t3 r := by omega
      have hv := Vt_in hM' hMi hr' hr3 hn3 hi (fun j h1 h2 => (rvN_mv (fun g hg => oI g hg j h2 h1) fun g hg => oJ g hg j h2 h1).symm) hpr
      have hb : 2700 * r ≤ 2700 * r + i ∧ 2700 * r + i < 2700 * r + 2700 := by omega
      refine ⟨_, hSA, mv_mk hMi hr3 hjb, ((rwT.m m).tr ct).tr (rwT.mk hb), ?_, fun y hy => ?_⟩
      · rw [al_mk hMi hr3 hjb hpr]
        have ha : (al t r).1 (f, h, l, n) = none := hV
        refine st1_e (v' := some (ownV (dk, dm, di, dt) 1)) (ch := true) (by rw [dF_some hd, ha]; rfl) ?_ ?_ ?_
        · show (fun P' => if P' = (f, h, l, n) then some (mkV (rvN t3 (2700 * r + i))) else Vt t3 r P') = _
          funext P'
          rw [hv, hset]
          by_cases c : P' = (f, h, l, n)
          · rw [if_pos c, if_pos c]; rfl
          · rw [if_neg c, if_neg c]
            show (if P' = (f, h, l, n) then _ else Vt td r P') = Vt t r P'
            rw [if_neg c, Vt_du m hM hr]
        · show t3.I 45 (11 * r + 7) + 1 = t.I 45 (11 * r + 7) + 1
          rw [m45, m.I 45 (by decide)]
        · show (if t3.I 44 r = -1 then g0M t3 r else t3.I 44 r) = if t.I 44 r = -1 then g0M t r else t.I 44 r
          unfold g0M
          rw [m44, m45, ct.1.S 1 (by decide), m.I 44 (by decide), m.I 45 (by decide), m.S 1 (by decide)]
      · rw [mkM_c.2.1 y hy, m45, m.I 45 (by decide)]
    · have hM' : MV td := hM.fr m rfl (hM.1.fr m rfl)
      refine ⟨td, sa_no hF hD, hM', rwT.m m, ?_, fun i _ => by rw [m.I 45 (by decide)]⟩
      rw [al_du m hM hr]
      have ha : (al t r).1 (f, h, l, n) = none := hV
      refine st1_e (v' := none) (ch := false) (by rw [dF_none hno, ha]; rfl) ?_ rfl rfl
      funext P'
      by_cases c : P' = (f, h, l, n)
      · rw [if_pos c, c]; exact hV
      · rw [if_neg c]
  · have hpr : pfR t (2700 * r + j) = (f, h, l, n) := (pfR_v (hM.kl hr hj) hf).mpr hk
    have hV : (al t r).1 (f, h, l, n) = some (rvN t (2700 * r + j)) := Vt_some hM hr hj hpr
    have hb : 2700 * r ≤ 2700 * r + j ∧ 2700 * r + j < 2700 * r + 2700 := by omega
    rcases m_isDue (h := h) (l := l) hM hr hf with ⟨dk, dm, di, dt, td, hd, hD, m, e1, e2, e3, e4⟩ | ⟨hno, td, hD, m⟩
    · obtain ⟨n1, n2, n3, n4⟩ := mdu m
      have hM' : MV td := hM.fr m rfl (hM.1.fr m rfl)
      have hr' : r < cR td := by rw [n1]; exact hr
      have hj' : j < cN td r := by rw [n3]; exact hj
      have hdo := hd.ok hM hr
      have dk2 : dk ≠ 2 := by rcases hdo.1 with e | e <;> rw [e] <;> decide
      obtain ⟨sa1, sa2⟩ := sa_own hM hr hj hF hD m e1 e2 e3 e4
      have hMb := mv_be hM' hr' hj' (hdo.m m)
      have ct : rwT r td (beM td (2700 * r + j) dk dm di dt) := rwT.be hb
      have hrb : r < cR (beM td (2700 * r + j) dk dm di dt) := by unfold cR; rw [ct.1.S 37 (by decide)]; exact hr'
      have b45 : ∀ y, (beM td (2700 * r + j) dk dm di dt).I 45 y = t.I 45 y := fun y => by rw [beM_I, m.I 45 (by decide)]; split <;> rfl
      have b44 : ∀ y, (beM td (2700 * r + j) dk dm di dt).I 44 y = t.I 44 y := fun y => by rw [beM_I, m.I 44 (by decide)]; split <;> rfl
      have hn5 : cN (beM td (2700 * r + j) dk dm di dt) r = cN td r := by
        unfold cN
        rw [show (beM td (2700 * r + j) dk dm di dt).I 105 r = td.I 105 r by rw [beM_I]; split <;> rfl]
      have o : ∀ i, i ≠ j → rvN (beM td (2700 * r + j) dk dm di dt) (2700 * r + i) = rvN td (2700 * r + i) ∧ pfR (beM td (2700 * r + j) dk dm di dt) (2700 * r + i) = pfR td (2700 * r + i) := fun i hi => rvN_mv (fun g hg => by rw [beM_I, if_neg (by omega)]) fun g hg => by rw [beM_J, if_neg (by omega)]
      obtain ⟨rb1, rb2⟩ := rvN_be (t := td) (k := 2700 * r + j) (dk := dk) (dm := dm) (di := di) (dt := dt) dk2
      have prd : pfR td (2700 * r + j) = (f, h, l, n) := by
        unfold pfR at hpr ⊢
        rw [m.I 106 (by decide), m.J 107 (by decide), m.J 108 (by decide), m.I 109 (by decide)]
        exact hpr
      have hv := Vt_at hM' hMb hr' hrb hn5 hj' (fun i _ => by
        by_cases c : i = j
        · rw [c]; exact rb2
        · exact (o i c).2) (fun i _ c => (o i c).1) prd
      have hbe : ownS (dk, dm, di, dt) (rvN t (2700 * r + j)) ↔ beD td (2700 * r + j) dk dm di dt := by
        unfold beD
        rw [m.I 111 (by decide), m.I 113 (by decide), m.J 114 (by decide), m.J 115 (by decide), m.I 112 (by decide)]
        exact Iff.rfl
      by_cases c : beD td (2700 * r + j) dk dm di dt
      · refine ⟨_, sa1 c, hMb, (rwT.m m).tr ct, ?_, fun y _ => b45 _⟩
        refine st1_e (v' := some (ownV (dk, dm, di, dt) (t.I 119 (2700 * r + j)))) (ch := false) ?_ ?_ (b45 _) (b44 _)
        · rw [dF_some hd, hV]
          show (if ownS (dk, dm, di, dt) (rvN t (2700 * r + j)) then _ else _) = _
          rw [if_pos (hbe.mpr c)]
          rfl
        · show Vt (beM td (2700 * r + j) dk dm di dt) r = _
          rw [hv, rb1, m.I 119 (by decide), Vt_du m hM hr]
          rfl
      · have hjb : j < cN (beM td (2700 * r + j) dk dm di dt) r := by rw [hn5]; exact hj'
        refine ⟨_, sa2 c, mv_mk hMb hrb hjb, ((rwT.m m).tr ct).tr (rwT.mk hb), ?_, fun y hy => by rw [mkM_c.2.1 y hy]; exact b45 _⟩
        rw [al_mk hMb hrb hjb (rb2.trans prd)]
        refine st1_e (v' := some (ownV (dk, dm, di, dt) 1)) (ch := true) ?_ ?_ ?_ ?_
        · rw [dF_some hd, hV]
          show (if ownS (dk, dm, di, dt) (rvN t (2700 * r + j)) then _ else _) = _
          rw [if_neg (fun z => c (hbe.mp z))]
        · funext P'
          rw [hv, rb1]
          show (if P' = (f, h, l, n) then some (mkV _) else if P' = (f, h, l, n) then _ else Vt td r P') = if P' = (f, h, l, n) then _ else Vt t r P'
          rw [Vt_du m hM hr]
          by_cases c2 : P' = (f, h, l, n)
          · rw [if_pos c2, if_pos c2]; rfl
          · rw [if_neg c2, if_neg c2, if_neg c2]
        · show (beM td (2700 * r + j) dk dm di dt).I 45 (11 * r + 7) + 1 = t.I 45 (11 * r + 7) + 1
          rw [b45]
        · show (if (beM td (2700 * r + j) dk dm di dt).I 44 r = -1 then g0M (beM td (2700 * r + j) dk dm di dt) r else (beM td (2700 * r + j) dk dm di dt).I 44 r) = if t.I 44 r = -1 then g0M t r else t.I 44 r
          unfold g0M
          rw [b44, b45, ct.1.S 1 (by decide), m.S 1 (by decide)]
    · obtain ⟨n1, n2, n3, n4⟩ := mdu m
      have hM' : MV td := hM.fr m rfl (hM.1.fr m rfl)
      have hr' : r < cR td := by rw [n1]; exact hr
      have hj' : j < cN td r := by rw [n3]; exact hj
      obtain ⟨sa1, sa2⟩ := sa_lap hM hr hj hF hD m
      by_cases c : td.I 110 (2700 * r + j) = 2
      · refine ⟨td, sa1 c, hM', rwT.m m, ?_, fun i _ => by rw [m.I 45 (by decide)]⟩
        rw [al_du m hM hr]
        have c' : (rvN t (2700 * r + j)).1 = 2 := by rw [m.I 110 (by decide)] at c; exact c
        refine st1_e (v' := some (rvN t (2700 * r + j))) (ch := false) ?_ ?_ rfl rfl
        · rw [dF_none hno, hV]
          show (if (rvN t (2700 * r + j)).1 = 2 then _ else _) = _
          rw [if_pos c']
        · funext P'
          by_cases c2 : P' = (f, h, l, n)
          · rw [if_pos c2, c2]; exact hV
          · rw [if_neg c2]
      · have hSA := sa2 c
        have hSA : SA t r f h l n = some (mkM (laM td (2700 * r + j) (td.S 1 + td.I 42 r)) r (2700 * r + j)) := hSA
        have c' : (rvN t (2700 * r + j)).1 ≠ 2 := by rw [m.I 110 (by decide)] at c; exact c
        have hMb := mv_la (v := td.S 1 + td.I 42 r) hM' hr' hj'
        have ct : rwT r td (laM td (2700 * r + j) (td.S 1 + td.I 42 r)) := rwT.la hb
        have hrb : r < cR (laM td (2700 * r + j) (td.S 1 + td.I 42 r)) := by unfold cR; rw [ct.1.S 37 (by decide)]; exact hr'
        have b45 : ∀ y, (laM td (2700 * r + j) (td.S 1 + td.I 42 r)).I 45 y = t.I 45 y := fun y => by rw [laM_I, m.I 45 (by decide)]; split <;> rfl
        have b44 : ∀ y, (laM td (2700 * r + j) (td.S 1 + td.I 42 r)).I 44 y = t.I 44 y := fun y => by rw [laM_I, m.I 44 (by decide)]; split <;> rfl
        have hn5 : cN (laM td (2700 * r + j) (td.S 1 + td.I 42 r)) r = cN td r := by
          unfold cN
          rw [show (laM td (2700 * r + j) (td.S 1 + td.I 42 r)).I 105 r = td.I 105 r by rw [laM_I]; split <;> rfl]
        have o : ∀ i, i ≠ j → rvN (laM td (2700 * r + j) (td.S 1 + td.I 42 r)) (2700 * r + i) = rvN td (2700 * r + i) ∧ pfR (laM td (2700 * r + j) (td.S 1 + td.I 42 r)) (2700 * r + i) = pfR td (2700 * r + i) := fun i hi => rvN_mv (fun g hg => by rw [laM_I, if_neg (by omega)]) fun g hg => rfl
        obtain ⟨rb1, rb2⟩ := rvN_la (t := td) (k := 2700 * r + j) (v := td.S 1 + td.I 42 r)
        have prd : pfR td (2700 * r + j) = (f, h, l, n) := by
          unfold pfR at hpr ⊢
          rw [m.I 106 (by decide), m.J 107 (by decide), m.J 108 (by decide), m.I 109 (by decide)]
          exact hpr
        have hv := Vt_at hM' hMb hr' hrb hn5 hj' (fun i _ => by
          by_cases c : i = j
          · rw [c]; exact rb2
          · exact (o i c).2) (fun i _ c => (o i c).1) prd
        have hjb : j < cN (laM td (2700 * r + j) (td.S 1 + td.I 42 r)) r := by rw [hn5]; exact hj'
        refine ⟨_, hSA, mv_mk hMb hrb hjb, ((rwT.m m).tr ct).tr (rwT.mk hb), ?_, fun y hy => by rw [mkM_c.2.1 y hy]; exact b45 _⟩
        rw [al_mk hMb hrb hjb (rb2.trans prd)]
        refine st1_e (v' := some (2, 16, 0, -1, 1, t.J 114 (2700 * r + j), t.J 115 (2700 * r + j), (0, 0), tgM t r, (0, 0))) (ch := true) ?_ ?_ ?_ ?_
        · rw [dF_none hno, hV]
          show (if (rvN t (2700 * r + j)).1 = 2 then _ else _) = _
          rw [if_neg c']
          rfl
        · funext P'
          rw [hv, rb1]
          show (if P' = (f, h, l, n) then some (mkV _) else if P' = (f, h, l, n) then _ else Vt td r P') = if P' = (f, h, l, n) then _ else Vt t r P'
          rw [Vt_du m hM hr, m.J 114 (by decide), m.J 115 (by decide), m.S 1 (by decide), m.I 42 (by decide)]
          by_cases c2 : P' = (f, h, l, n)
          · rw [if_pos c2, if_pos c2]; rfl
          · rw [if_neg c2, if_neg c2, if_neg c2]
        · show (laM td (2700 * r + j) (td.S 1 + td.I 42 r)).I 45 (11 * r + 7) + 1 = t.I 45 (11 * r + 7) + 1
          rw [b45]
        · show (if (laM td (2700 * r + j) (td.S 1 + td.I 42 r)).I 44 r = -1 then g0M (laM td (2700 * r + j) (td.S 1 + td.I 42 r)) r else (laM td (2700 * r + j) (td.S 1 + td.I 42 r)).I 44 r) = if t.I 44 r = -1 then g0M t r else t.I 44 r
          unfold g0M
          rw [b44, b45, ct.1.S 1 (by decide), m.S 1 (by decide)]
end As
