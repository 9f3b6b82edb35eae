/-! A learned route becomes what an entry says: class and model. -/
/-- an entry's tag -/
def tgF (g : Nat → Int32) (f i : Nat) : Int32 := Int64.toInt32 (nbF g (if f = 0 then i + 2 else i + 16) 2 0)
section Tk
variable {G H : Nat → Nat → Nat} {sa : Nat → Nat} {x kc ks r a A hp sp p1 p2 po rr cnt tmr f i k : Nat} {s : cS} {t : moS} {F metric : Int32} {gh gl h l : Int64} {L : List Int32} {Q : cS → Nat → Nat → Prop}
theorem w_tagA {Q : Int32 → cS → Nat → Nat → Prop} {b : Nat} (kA : (s.K A).1 = 6) (hf : f = 0 ∨ f = 1) (i44 : s.I 44 A = fam (nI f)) (p40 : s.P 40 A = some b) (kb : (s.K b).1 = 3) (hb : BL s b 129 L 600) (hi : i < 1000) (k : Q (tgF (fun j => L.getD j 0) f i) s kc ks) : C_Da_tagAt sa A (nI i) s kc ks Q := by
  have oA := okr kA 2
  unfold C_Da_tagAt C_Da_tagAt_b22
  refine ⟨_, gd_to oA, _, gd_to oA, ?_⟩
  rw [show s.I (20 * 2 + 4) A = fam (nI f) from i44, show s.P (20 * 2 + 0) A = some b from p40]
  unfold tgF at k
  rcases hf with rfl | rfl
  · rw [if_pos rfl] at k
    refine ifT rfl ⟨b, rfl, okr kb 0, ?_⟩
    rw [show nI i + 2 = nI (i + 2) from nI_add i 2]
    exact w_numAt (a := i + 2) (n := 2) hb (by omega) k
  · rw [if_neg (by decide)] at k
    refine ifF (by decide) ⟨b, rfl, okr kb 0, ?_⟩
    rw [show nI i + 16 = nI (i + 16) from nI_add i 16]
    exact w_numAt (a := i + 16) (n := 2) hb (by omega) k
/-- a learned route's time begins anew -/
theorem w_timeout (ho : okO s 9 rr) (ha : okO s 8 a) (hx : okO s 11 x) (h3 : s.P 180 rr = some x) (h4 : s.P 195 rr = some tmr) (h5 : s.K tmr = (123, 3)) (hra : rr ≠ a) (k : Q (dlS (cSI (cSI s 168 a (s.I 225 x)) 169 a (s.E tmr 1)) rr a (s.I 225 x + s.E tmr 1)) kc ks) : C_Rr_startTimeout sa rr (some a) s kc ks Q := by
  have rd : ∀ s' : cS, s'.K = s.K → s'.E = s.E → rE s' .int tmr 1 = some (s.E tmr 1) := fun s' h1 h2 => rd_E (i := 1) (M := 3) (by rw [h1]; exact h5) (by decide) (by decide) (by decide) (by rw [h2])
  unfold C_Rr_startTimeout
  refine ⟨_, gd_to ho, x, h3, _, gd_to hx, a, rfl, _, gd_to ha, _, gd_to (show okO (cSI s 168 a _) 9 rr from ho), tmr, h4, _, rd (cSI s 168 a _) rfl rfl, _, gd_to (show okO (cSI s 168 a _) 8 a from ha), _, gd_to (show okO (cSI (cSI s 168 a _) 169 a _) 9 rr from ho), tmr, h4, _, rd (cSI (cSI s 168 a _) 169 a _) rfl rfl, (show okO (cSI (cSI s 168 a _) 169 a _) 9 rr from ho), w_deadline (show okO (cSI (cSI s 168 a _) 169 a _) 9 rr from ho) (show okO (cSI (cSI s 168 a _) 169 a _) 8 a from ha) (show okO (cSI (cSI s 168 a _) 169 a _) 11 x from hx) h3 hra ?_⟩
  rw [show (cSI (cSI s 168 a (s.I 225 x)) 169 a (s.E tmr 1)).I 225 x = s.I 225 x by rw [cSI_g (by decide), cSI_g (by decide)]]
  exact k
theorem w_takeR {b : Nat} {gn hn : Int32} (kr : (s.K rr).1 = 26) (ka : (s.K a).1 = 23) (kx : (s.K x).1 = 30) (kh : (s.K hp).1 = 39) (k1 : (s.K p1).1 = 10) (k2 : (s.K p2).1 = 11) (ksp : (s.K sp).1 = 12) (kA : (s.K A).1 = 6) (kb : (s.K b).1 = 3) (h180 : s.P 180 rr = some x) (h239 : s.P 239 x = some hp) (h161 : s.P 161 a = some p1) (h162 : s.P 162 a = some p2) (h41 : s.P 41 A = some sp) (h40 : s.P 40 A = some b) (h195 : s.P 195 rr = some tmr) (k123 : s.K tmr = (123, 3)) (h196 : s.P 196 rr = some cnt) (k104 : s.K cnt = (104, 11)) (hf : f = 0 ∨ f = 1) (i44 : s.I 44 A = fam (nI f)) (hb : BL s b 129 L 600) (hi : i < 1000) (pf1 : PF s hp F gh gl gn) (pf2 : PF s sp F h l hn)
    (kk1 : ¬ (metric = s.I 164 a ∧ some po = s.P 166 a ∧ s.I 100 p1 = F ∧ s.J 101 p1 = gh ∧ s.J 102 p1 = gl) → Q (mkS (toS s rr a p1 p2 F gh gl gn h l hn (some po) (tgF (fun j => L.getD j 0) f i) metric (s.I 225 x) (s.E tmr 1) (s.E tmr 2)) rr cnt x a) kc ks) (kk0 : (metric = s.I 164 a ∧ some po = s.P 166 a ∧ s.I 100 p1 = F ∧ s.J 101 p1 = gh ∧ s.J 102 p1 = gl) → Q (toS s rr a p1 p2 F gh gl gn h l hn (some po) (tgF (fun j => L.getD j 0) f i) metric (s.I 225 x) (s.E tmr 1) (s.E tmr 2)) kc ks) : C_Rr_take sa rr (some a) (some A) (nI i) (some po) metric s kc ks Q := by
  obtain ⟨a1, a2, a3, a4⟩ := pf1
  obtain ⟨b1, b2, b3, b4⟩ := pf2
  have oa := okr ka 8
  have or' := okr kr 9
  have ox := okr kx 11
  have oh := okr kh 5
  have o1 := okr k1 5
  have o2 := okr k2 5
  have osp := okr ksp 5
  have oA := okr kA 2
  have n1 : sp ≠ p1 := ne_ro ksp k1
  -- the state behind all words
  have e40 : ∀ u : Int32, (u = 1 → Q (mkS (toS s rr a p1 p2 F gh gl gn h l hn (some po) (tgF (fun j => L.getD j 0) f i) metric (s.I 225 x) (s.E tmr 1) (s.E tmr 2)) rr cnt x a) kc ks) → (u = 0 → Q (toS s rr a p1 p2 F gh gl gn h l hn (some po) (tgF (fun j => L.getD j 0) f i) metric (s.I 225 x) (s.E tmr 1) (s.E tmr 2)) kc ks) → (u = 0 ∨ u = 1) → C_Rr_take_b40 sa rr (some a) (some A) (nI i) (some po) metric u s kc ks Q := fun u q1 q0 hu => by
    unfold C_Rr_take_b40
    refine ⟨a, rfl, _, gd_to oa, _, gd_to (show okO (cSI s 164 a metric) 8 a from oa), _, gd_to (show okO (cSI s 164 a metric) 9 rr from or'), x, h180, _, gd_to (show okO (cSI s 164 a metric) 11 x from ox), p1, h161, (show okO (cSI s 164 a metric) 5 p1 from o1), ?_⟩
    rw [show (cSI s (20 * 8 + 4) a metric).P (20 * 11 + 19) x = some hp from h239]
    refine w_copy (s := cSI s 164 a metric) o1 oh ?_
    rw [show (cSI s 164 a metric).I 100 hp = F by rw [cSI_g (by decide)]; exact a1, show (cSI s 164 a metric).J 101 hp = gh from a2, show (cSI s 164 a metric).J 102 hp = gl from a3, show (cSI s 164 a metric).I 103 hp = gn by rw [cSI_g (by decide)]; exact a4]
    refine ⟨_, gd_to (show okO (cSpf (cSI s 164 a metric) p1 F gh gl gn) 8 a from oa), A, rfl, _, gd_to (show okO (cSpf (cSI s 164 a metric) p1 F gh gl gn) 2 A from oA), p2, h162, (show okO (cSpf (cSI s 164 a metric) p1 F gh gl gn) 5 p2 from o2), ?_⟩
    rw [show (cSpf (cSI s (20 * 8 + 4) a metric) p1 F gh gl gn).P (20 * 2 + 1) A = some sp from h41]
    refine w_copy (s := cSpf (cSI s 164 a metric) p1 F gh gl gn) o2 osp ?_
    have v1 : (cSpf (cSI s 164 a metric) p1 F gh gl gn).I 100 sp = F := by
      rw [evSI, if_neg (fun z => n1 z.2), if_neg (fun z => n1 z.2), cSI_g (by decide)]
      exact b1
    have v4 : (cSpf (cSI s 164 a metric) p1 F gh gl gn).I 103 sp = hn := by
      rw [evSI, if_neg (fun z => n1 z.2), if_neg (fun z => n1 z.2), cSI_g (by decide)]
      exact b4
    have v2 : (cSpf (cSI s 164 a metric) p1 F gh gl gn).J 101 sp = h := by
      rw [evSJ, if_neg (fun z => n1 z.2), if_neg (fun z => n1 z.2)]
      exact b2
    have v3 : (cSpf (cSI s 164 a metric) p1 F gh gl gn).J 102 sp = l := by
      rw [evSJ, if_neg (fun z => n1 z.2), if_neg (fun z => n1 z.2)]
      exact b3
    rw [v1, v2, v3, v4]
    have fS : fr [10, 11, 23] [(166, 23)] [] s (cSP (cSpf (cSpf (cSI s 164 a metric) p1 F gh gl gn) p2 F h l hn) 166 a (some po)) := by
      have g1 : fr [10, 11, 23] [(166, 23)] [] s (cSI s 164 a metric) := fr.si (by rw [ka]; decide)
      have g2 : fr [10, 11, 23] [(166, 23)] [] (cSI s 164 a metric) (cSpf (cSI s 164 a metric) p1 F gh gl gn) := (((fr.si (by show (s.K p1).1 ∈ _; rw [k1]; decide)).tr (fr.sj (by show (s.K p1).1 ∈ _; rw [k1]; decide))).tr (fr.sj (by show (s.K p1).1 ∈ _; rw [k1]; decide))).tr (fr.si (by show (s.K p1).1 ∈ _; rw [k1]; decide))
      have g3 : fr [10, 11, 23] [(166, 23)] [] (cSpf (cSI s 164 a metric) p1 F gh gl gn) (cSpf (cSpf (cSI s 164 a metric) p1 F gh gl gn) p2 F h l hn) := (((fr.si (by show (s.K p2).1 ∈ _; rw [k2]; decide)).tr (fr.sj (by show (s.K p2).1 ∈ _; rw [k2]; decide))).tr (fr.sj (by show (s.K p2).1 ∈ _; rw [k2]; decide))).tr (fr.si (by show (s.K p2).1 ∈ _; rw [k2]; decide))
      exact ((g1.tr g2).tr g3).tr (fr.sp (by show (166, (s.K a).1) ∈ _; rw [ka]; decide))
    refine ⟨_, gd_to (show okO (cSpf (cSpf (cSI s 164 a metric) p1 F gh gl gn) p2 F h l hn) 8 a from oa), (show okO (cSP (cSpf (cSpf (cSI s 164 a metric) p1 F gh gl gn) p2 F h l hn) 166 a (some po)) 2 A from oA), ?_⟩
    refine w_tagA (s := cSP (cSpf (cSpf (cSI s 164 a metric) p1 F gh gl gn) p2 F h l hn) 166 a (some po)) (f := f) kA hf (by rw [(fS.v kA (by decide)).1]; exact i44) (by rw [cSP_g (by decide)]; exact h40) kb (hb.fr fS kb (by decide) (by decide) (by decide)) hi ?_
    generalize hS : cSI (cSP (cSpf (cSpf (cSI s 164 a metric) p1 F gh gl gn) p2 F h l hn) 166 a (some po)) 165 a (tgF (fun j => L.getD j 0) f i) = sg
    have f16 : fr [10, 11, 23] [(166, 23)] [] s sg := by
      rw [← hS]
      exact fS.tr (fr.si (by show (s.K a).1 ∈ _; rw [ka]; decide))
    have gK : sg.K = s.K := by rw [← hS]; rfl
    have gE : sg.E = s.E := by rw [← hS]; rfl
    have g225 : sg.I 225 x = s.I 225 x := (f16.v kx (by decide)).1 225
    have gP : ∀ g b, g ≠ 166 → sg.P g b = s.P g b := fun g b hg => by
      rw [← hS]
      show (cSP (cSpf (cSpf (cSI s 164 a metric) p1 F gh gl gn) p2 F h l hn) 166 a (some po)).P g b = _
      rw [cSP_g hg]
      rfl
    have ok : ∀ {c b}, okO s c b → okO sg c b := fun {c b} z => by unfold okO at z ⊢; rw [gK]; exact z
    have eT : toS s rr a p1 p2 F gh gl gn h l hn (some po) (tgF (fun j => L.getD j 0) f i) metric (s.I 225 x) (s.E tmr 1) (s.E tmr 2) = if metric = 16 then dlS sg rr a (s.I 225 x + s.E tmr 2) else dlS (cSI (cSI sg 168 a (s.I 225 x)) 169 a (s.E tmr 1)) rr a (s.I 225 x + s.E tmr 1) := by
      rw [← hS]
      rfl
    have ra : rr ≠ a := ne_ro kr ka
    have end1 : ∀ s9 : cS, s9 = toS s rr a p1 p2 F gh gl gn h l hn (some po) (tgF (fun j => L.getD j 0) f i) metric (s.I 225 x) (s.E tmr 1) (s.E tmr 2) → C_Rr_take_b114 sa rr (some a) u s9 kc ks Q := fun s9 e9 => by
      unfold C_Rr_take_b114
      rcases hu with rfl | rfl
      · exact ifT rfl (by rw [e9]; exact q0 rfl)
      · obtain ⟨t1, t2, t3, t4, t5⟩ := toK (s := s) (rr := rr) (a := a) (p1 := p1) (p2 := p2) (F := F) (gh := gh) (gl := gl) (gn := gn) (h := h) (l := l) (hn := hn) (port := some po) (tag := tgF (fun j => L.getD j 0) f i) (metric := metric) (tm := s.I 225 x) (to := s.E tmr 1) (ga := s.E tmr 2)
        rw [← e9] at t1 t2 t3 t4 t5
        have ok9 : ∀ {c b}, okO s c b → okO s9 c b := fun {c b} z => by unfold okO at z ⊢; rw [t1]; exact z
        refine ifF (by decide) ⟨ok9 or', w_mark (ok9 or') (ok9 oa) (ok9 ox) (cnt := cnt) (by rw [t4, if_neg (by omega)]; exact h196) (by rw [t1]; exact k104) (by rw [t4, if_neg (by omega)]; exact h180) ?_⟩
        rw [e9]
        exact q1 rfl
    refine ⟨_, gd_to (show okO (cSP (cSpf (cSpf (cSI s 164 a metric) p1 F gh gl gn) p2 F h l hn) 166 a (some po)) 8 a from oa), ?_⟩
    rw [show cSI (cSP (cSpf (cSpf (cSI s (20 * 8 + 4) a metric) p1 F gh gl gn) p2 F h l hn) (20 * 8 + 6) a (some po)) (20 * 8 + 5) a (tgF (fun j => L.getD j 0) f i) = sg from hS]
    by_cases c : metric = 16
    · rw [if_pos c] at eT
      refine ifT c ⟨_, gd_to (ok or'), tmr, by rw [gP _ _ (by decide)]; exact h195, _, rd_E (i := 2) (M := 3) (by rw [gK]; exact k123) (by decide) (by decide) (by decide) rfl, ok or', w_deadline (ok or') (ok oa) (ok ox) (by rw [gP _ _ (by decide)]; exact h180) ra ?_⟩
      rw [g225, gE]
      exact end1 _ eT.symm
    · rw [if_neg c] at eT
      refine ifF c ⟨ok or', w_timeout (ok or') (ok oa) (ok ox) (by rw [gP _ _ (by decide)]; exact h180) (by rw [gP _ _ (by decide)]; exact h195) (by rw [gK]; exact k123) ra ?_⟩
      rw [g225, gE]
      exact end1 _ eT.symm
  have yes := fun z => e40 1 (fun _ => kk1 z) (fun y => absurd y (by decide)) (Or.inr rfl)
  unfold C_Rr_take
  refine ⟨a, rfl, _, gd_to oa, ?_⟩
  by_cases c1 : metric = s.I 164 a
  rotate_left
  · exact ifF c1 (yes fun z => c1 z.1)
  refine ifT c1 ⟨_, gd_to oa, ?_⟩
  by_cases c2 : some po = s.P 166 a
  rotate_left
  · exact ifF c2 (yes fun z => c2 z.2.1)
  refine ifT c2 ⟨_, gd_to oa, _, gd_to or', x, h180, _, gd_to ox, p1, h161, o1, ?_⟩
  rw [show s.P (20 * 11 + 19) x = some hp from h239]
  refine w_same o1 oh (fun z => ?_) (fun z => ?_)
  · rw [a1, a2, a3] at z
    exact ifT rfl (yes fun y => z ⟨y.2.2.1, y.2.2.2⟩)
  · rw [a1, a2, a3] at z
    exact ifF (by decide) (e40 0 (fun y => absurd y (by decide)) (fun _ => kk0 ⟨c1, c2, z⟩) (Or.inl rfl))
/-- the model -/
theorem m_over {q tag : Int32} (hN : ∀ k, k ∈ fRA → t.N k = 16200) (N45 : t.N 45 = 66) (N44 : t.N 44 = 6) (N41 : t.N 41 = 6) (N42 : t.N 42 = 6) (hr : r < 6) (hk : k < 16200) : (t.I 111 k = metric ∧ t.I 113 k = q ∧ t.J 114 k = t.Z 164 ∧ t.J 115 k = t.Z 165 → M_takeOver t (nI r) q (nI k) metric tag h l = some (toM t r k q metric tag h l)) ∧ (¬ (t.I 111 k = metric ∧ t.I 113 k = q ∧ t.J 114 k = t.Z 164 ∧ t.J 115 k = t.Z 165) → M_takeOver t (nI r) q (nI k) metric tag h l = some (mkM (toM t r k q metric tag h l) r k)) := by
  have n : ∀ g, g ∈ fRA → t.N g = 16200 := hN
  have rI : ∀ {u : moS} {g : Nat}, u.N = t.N → g ∈ fRA → rdI u g (nI k) = some (u.I g k) := fun {u g} e hg => rdI_n (by rw [e]; exact n g hg) hk (by decide)
  have wI : ∀ {u : moS} {g : Nat} {v : Int32}, u.N = t.N → g ∈ fRA → wrI u g (nI k) v = some (moSI u g k v) := fun {u g v} e hg => wrI_n (by rw [e]; exact n g hg) hk (by decide)
  have wJ : ∀ {u : moS} {g : Nat} {v : Int64}, u.N = t.N → g ∈ fRA → wrJ u g (nI k) v = some (moSJ u g k v) := fun {u g v} e hg => wrJ_n (by rw [e]; exact n g hg) hk (by decide)
  have b54 : ∀ u : Int32, (u = 0 ∨ u = 1) → M_takeOver_b54 t (nI r) q (nI k) metric tag h l u = some (if u = 0 then toM t r k q metric tag h l else mkM (toM t r k q metric tag h l) r k) := fun u hu => by
    have e149 : ∀ (w8 : moS) (v : Int32), w8.N = t.N → moSI (moSI (moSI w8 122 k v) 120 k (w8.S 1)) 121 k (w8.I 41 r) = toM t r k q metric tag h l → M_takeOver_b149 w8 (nI r) (nI k) u (nI k) v = some (if u = 0 then toM t r k q metric tag h l else mkM (toM t r k q metric tag h l) r k) := fun w8 v e hw => by
      unfold M_takeOver_b149
      rw [wI e (by decide)]
      simp only [Option.bind_some]
      rw [wI (u := moSI w8 122 k v) e (by decide)]
      simp only [Option.bind_some]
      rw [rdI_n (t := moSI (moSI w8 122 k v) 120 k ((moSI w8 122 k v).S 1)) (k := 41) (i := r) (n := 6) (by show w8.N 41 = 6; rw [e]; exact N41) hr (by decide)]
      simp only [Option.bind_some]
      rw [show (moSI (moSI w8 122 k v) 120 k ((moSI w8 122 k v).S 1)).I 41 r = w8.I 41 r by rw [moSI_n (by decide), moSI_n (by decide)], show (moSI w8 122 k v).S 1 = w8.S 1 from rfl, wI (u := moSI (moSI w8 122 k v) 120 k (w8.S 1)) e (by decide)]
      simp only [Option.bind_some]
      rw [hw]
      rcases hu with rfl | rfl
      · rfl
      · rw [if_neg (by decide), if_neg (by decide), mkM_e (t := toM t r k q metric tag h l) (hN 119 (by decide)) N45 N44 hr hk]
        rfl
    unfold M_takeOver_b54
    rw [wI rfl (by decide)]
    simp only [Option.bind_some]
    rw [wI (u := moSI t 111 k metric) rfl (by decide)]
    simp only [Option.bind_some]
    rw [wJ (u := moSI (moSI t 111 k metric) 113 k q) rfl (by decide)]
    simp only [Option.bind_some]
    rw [wJ (u := moSJ (moSI (moSI t 111 k metric) 113 k q) 114 k _) rfl (by decide)]
    simp only [Option.bind_some]
    rw [wI (u := moSJ (moSJ (moSI (moSI t 111 k metric) 113 k q) 114 k _) 115 k _) rfl (by decide)]
    simp only [Option.bind_some]
    rw [wI (u := moSI (moSJ (moSJ (moSI (moSI t 111 k metric) 113 k q) 114 k _) 115 k _) 112 k tag) rfl (by decide)]
    simp only [Option.bind_some]
    rw [wJ (u := moSI (moSI (moSJ (moSJ (moSI (moSI t 111 k metric) 113 k q) 114 k _) 115 k _) 112 k tag) 116 k q) rfl (by decide)]
    simp only [Option.bind_some]
    rw [wJ (u := moSJ (moSI (moSI (moSJ (moSJ (moSI (moSI t 111 k metric) 113 k q) 114 k _) 115 k _) 112 k tag) 116 k q) 117 k h) rfl (by decide)]
    simp only [Option.bind_some]
    have eX : ∀ g, g ≠ 111 → g ≠ 112 → g ≠ 113 → g ≠ 116 → (moSJ (moSJ (moSI (moSI (moSJ (moSJ (moSI (moSI t 111 k metric) 113 k q) 114 k (t.Z 164)) 115 k (t.Z 165)) 112 k tag) 116 k q) 117 k h) 118 k l).I g = t.I g := fun g h1 h2 h3 h4 => by
      show (moSI (moSI (moSI (moSI t 111 k metric) 113 k q) 112 k tag) 116 k q).I g = t.I g
      rw [moSI_n h4, moSI_n h2, moSI_n h3, moSI_n h1]
    by_cases c : metric = 16
    · rw [if_pos c]
      refine (congrArg (fun y => Option.bind y (fun x9 => M_takeOver_b149 (moSJ (moSJ (moSI (moSI (moSJ (moSJ (moSI (moSI t 111 k metric) 113 k q) 114 k (t.Z 164)) 115 k (t.Z 165)) 112 k tag) 116 k q) 117 k h) 118 k l) (nI r) (nI k) u (nI k) (t.S 1 + x9))) (rdI_n (t := (moSJ (moSJ (moSI (moSI (moSJ (moSJ (moSI (moSI t 111 k metric) 113 k q) 114 k (t.Z 164)) 115 k (t.Z 165)) 112 k tag) 116 k q) 117 k h) 118 k l)) (k := 42) (i := r) (n := 6) N42 hr (by decide))).trans ?_
      show M_takeOver_b149 _ (nI r) (nI k) u (nI k) _ = _
      refine e149 (moSJ (moSJ (moSI (moSI (moSJ (moSJ (moSI (moSI t 111 k metric) 113 k q) 114 k (t.Z 164)) 115 k (t.Z 165)) 112 k tag) 116 k q) 117 k h) 118 k l) _ rfl ?_
      unfold toM
      rw [if_pos c, eX 41 (by decide) (by decide) (by decide) (by decide), eX 42 (by decide) (by decide) (by decide) (by decide)]
      rfl
    · rw [if_neg c]
      refine e149 (moSJ (moSJ (moSI (moSI (moSJ (moSJ (moSI (moSI t 111 k metric) 113 k q) 114 k (t.Z 164)) 115 k (t.Z 165)) 112 k tag) 116 k q) 117 k h) 118 k l) _ rfl ?_
      unfold toM
      rw [if_neg c, eX 41 (by decide) (by decide) (by decide) (by decide)]
      rfl
  have r114 : rdJ t 114 (nI k) = some (t.J 114 k) := rdJ_n (n 114 (by decide)) hk (by decide)
  have r115 : rdJ t 115 (nI k) = some (t.J 115 k) := rdJ_n (n 115 (by decide)) hk (by decide)
  unfold M_takeOver M_takeOver_b49
  rw [rI rfl (by decide), rI rfl (by decide), r114, r115, b54 0 (Or.inl rfl), b54 1 (Or.inr rfl)]
  simp only [Option.bind_some]
  constructor
  · rintro ⟨c1, c2, c3, c4⟩
    rw [if_pos c1, if_pos c2, if_pos c3, if_pos c4]
    rfl
  · intro no
    by_cases c1 : t.I 111 k = metric
    · rw [if_pos c1]
      by_cases c2 : t.I 113 k = q
      · rw [if_pos c2]
        by_cases c3 : t.J 114 k = t.Z 164
        · rw [if_pos c3, if_neg (fun c4 => no ⟨c1, c2, c3, c4⟩)]
          rfl
        · rw [if_neg c3]; rfl
      · rw [if_neg c2]; rfl
    · rw [if_neg c1]; rfl
end Tk
