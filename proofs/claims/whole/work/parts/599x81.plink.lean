/-! Lines: link. -/
abbrev Rg : List Nat := 30 :: Rc
abbrev Qg : List Nat := 130 :: 131 :: 132 :: Qc
abbrev Wg : List Nat := 17 :: 18 :: 19 :: 20 :: 21 :: 22 :: 27 :: 28 :: 37 :: 38 :: 39 :: 43 :: 44 :: Wc
/-- both sides do a line that may make something new -/
def LG (G H : Nat → Nat → Nat) (sa : Nat → Nat) (x : Nat) (s : cS) (t : moS) (kc ks : Nat) (o : Option (Int32 × moS)) (C : (Int32 → cS → Nat → Nat → Prop) → Prop) : Prop := ∃ r t', o = some (r, t') ∧ MV t' ∧ mfr Wg t t' ∧ ∀ Q : Int32 → cS → Nat → Nat → Prop, (∀ G' H' s' kc' ks', RR G' H' sa x s' t' → gA G G' t → hA H H' s → fr Rg Pc Qg s s' → kc ≤ kc' + 64 → ks ≤ ks' + 1200 → Q r s' kc' ks') → C Q
section Pk
variable {G H : Nat → Nat → Nat} {sa : Nat → Nat} {rd x kc ks : Nat} {s : cS} {t : moS} {l : List Int32} {ws : List (Nat × Nat)}
theorem LO.g {o : Option (Int32 × moS)} {C : (Int32 → cS → Nat → Nat → Prop) → Prop} (h : LO G H sa x s t kc ks o C) : LG G H sa x s t kc ks o C := by
  obtain ⟨r, t', e, h1, h2, h3⟩ := h
  exact ⟨r, t', e, h1, h2.wk (by decide), fun Q k => h3 Q fun s' kc' ks' hR hX => k G H s' kc' ks' hR gA.rf hA.rf hX.1.wk hX.2.1 hX.2.2⟩
/-- a word is a name -/
theorem wM_z (h : LX G H sa x rd s t l ws) {i : Nat} (hi : i < ws.length) : (wM l ws i = 0 ∧ ¬ ((ws.getD i (0, 0)).2 - (ws.getD i (0, 0)).1 ≤ 12 ∧ ∀ j, (ws.getD i (0, 0)).1 ≤ j → j < (ws.getD i (0, 0)).2 → alC (vc l j))) ∨ (nmL (wU (vc l) (ws.getD i (0, 0)).1 ((ws.getD i (0, 0)).2 - (ws.getD i (0, 0)).1)) (wM l ws i) ∧ (ws.getD i (0, 0)).2 - (ws.getD i (0, 0)).1 ≤ 12 ∧ ∀ j, (ws.getD i (0, 0)).1 ≤ j → j < (ws.getD i (0, 0)).2 → alC (vc l j)) := by
  have hb := h.b hi
  unfold wM nmW
  generalize (ws.getD i (0, 0)).1 = a at hb
  generalize (ws.getD i (0, 0)).2 = b at hb
  by_cases c : b - a ≤ 12 ∧ ∀ k, k < b - a → alC (vc l (a + k))
  · right
    rw [if_pos c]
    refine ⟨⟨rfl, by rw [wU_len]; omega, by rw [wU_len]; exact c.1, fun y hy => ?_⟩, c.1, fun j h1 h2 => ?_⟩
    · obtain ⟨k, hk, rfl⟩ := wU_mem hy
      exact alC_nm (c.2 k hk)
    · have := c.2 (j - a) (by omega)
      rw [show a + (j - a) = j by omega] at this
      exact this
  · left
    rw [if_neg c]
    exact ⟨rfl, fun z => c ⟨z.1, fun k hk => z.2 (a + k) (by omega) (by omega)⟩⟩
theorem own_j : M_own 1048352218 = 1 := by
  unfold M_own M_own_b34
  rw [if_neg (by decide), if_neg (by decide), if_neg (by decide), if_neg (by decide)]
theorem own_m : M_own 21621 = 1 := by
  unfold M_own M_own_b34
  rw [if_neg (by decide), if_neg (by decide), if_neg (by decide), if_neg (by decide)]
theorem P_link (h : LX G H sa x rd s t l ws) (hkc : 64 ≤ kc) (hks : 1200 ≤ ks) : LG G H sa x s t kc ks (M_lineLink t) (C_Re_linkLine sa rd s kc ks) := by
  have hn := h.nw
  have h10 := h.mv.nL
  have e17 : t.S 17 = nI (cL t) := h.mv.1.2.2.2.2.2.1.n.1
  have no : ∀ r, M_lineLink t = some (r, t) → (∀ Q : Int32 → cS → Nat → Nat → Prop, (∀ s1, fo rd s s1 → Q r s1 kc ks) → C_Re_linkLine sa rd s kc ks Q) → LG G H sa x s t kc ks (M_lineLink t) (C_Re_linkLine sa rd s kc ks) := fun r e k => (LO.no h r e k).g
  cases ho : oP (wC l ws) 1048352218 21621 ws.length 3 with
  | none =>
    refine no 2 ?_ fun Q kq => ?_
    · unfold M_lineLink
      rw [h.ww]
      by_cases c3 : ws.length < 3
      · rw [if_pos (show nI _ < (3 : Int32) from nI_lt (b := 3) c3 (by decide))]
      · rw [if_neg (show ¬ nI _ < (3 : Int32) from nI_nlt (b := 3) (by omega) (by omega)), show M_areOptions t 3 1048352218 21621 0 0 0 0 = _ from m_are2 h (f := 3) 1048352218 21621 (by omega) ⟨by decide, by decide, own_j, Or.inr own_m⟩, if_neg (show ¬ (21621 : Int64) = 0 by decide), ho]
        rfl
    · unfold C_Re_linkLine
      exact ⟨h.or, w_has2 h (f := 3) 1048352218 21621 (by decide) (by decide) (fun _ s1 f1 => ifT rfl (kq s1 f1)) (fun p q e => by rw [ho] at e; cases e)⟩
  | some pq =>
  obtain ⟨p, q⟩ := pq
  have hs := oP_s ho
  have mo := m_opt2 h (f := 3) 1048352218 21621 ⟨by decide, own_j, own_m⟩ ho
  have c3 : ¬ nI ws.length < (3 : Int32) := nI_nlt (b := 3) (by omega) (by omega)
  have em : M_lineLink t = if wM l ws 1 = 0 then some (3, t) else if oI (nmF (t.J 18) (wM l ws 1) (cL t) 0) = -1 then (Option.bind (M_isNumber t 2 1 5) (fun x6 => if x6 = 0 then some (4, t) else if 0 < nI p then Option.bind (M_isNumber t (nI p) 0 4) (fun x7 => if x7 = 0 then some (4, t) else M_lineLink_b94 t (wM l ws 1) (nI p) (nI q)) else M_lineLink_b94 t (wM l ws 1) (nI p) (nI q))) else some (3, t) := by
    unfold M_lineLink
    rw [h.ww, if_neg c3, show M_areOptions t 3 1048352218 21621 0 0 0 0 = _ from m_are2 h (f := 3) 1048352218 21621 (by omega) ⟨by decide, by decide, own_j, Or.inr own_m⟩, if_neg (show ¬ (21621 : Int64) = 0 by decide), ho]
    simp only [Option.bind_some]
    rw [if_neg (by simp), show M_name t 1 = some (wM l ws 1) from h.name (i := 1) (by omega)]
    simp only [Option.bind_some, m_linkNamed h.mv]
    rw [show M_option t 1048352218 3 = some (nI p) from mo.1, show M_option t 21621 3 = some (nI q) from mo.2]
    simp only [Option.bind_some]
  -- the class up to the numbers
  have ec : ∀ Q : Int32 → cS → Nat → Nat → Prop, (∀ s1, fo rd s s1 → s1.I 144 rd = nI p → s1.I 145 rd = nI q → ((wM l ws 1 = 0 → Q 3 s1 kc ks) ∧ (nmL (wU (vc l) (ws.getD 1 (0, 0)).1 ((ws.getD 1 (0, 0)).2 - (ws.getD 1 (0, 0)).1)) (wM l ws 1) → (ws.getD 1 (0, 0)).2 - (ws.getD 1 (0, 0)).1 ≤ 12 → (∀ j, (ws.getD 1 (0, 0)).1 ≤ j → j < (ws.getD 1 (0, 0)).2 → alC (vc l j)) → if oI (nmF (t.J 18) (wM l ws 1) (cL t) 0) = -1 then C_Re_linkLine_b89 sa rd (oI (nmR (wN l ws 2) 1 5)) (oI (if p = 0 then some 0 else nmR (wN l ws p) 0 4)) (oI (if q = 0 then some 576 else nmR (wN l ws q) 84 576)) s1 kc ks Q else Q 3 s1 kc ks))) → C_Re_linkLine sa rd s kc ks Q := by
    intro Q k
    unfold C_Re_linkLine
    refine ⟨h.or, w_has2 h (f := 3) 1048352218 21621 (by decide) (by decide) (fun e => by rw [ho] at e; cases e) (fun p' q' e s1 f1 i4 i5 => ifF (by decide) ?_)⟩
    rw [ho] at e
    cases e
    have L := h.fo f1
    obtain ⟨k0, k1⟩ := k s1 f1 i4 i5
    refine ⟨L.or, w_isName L.rc (i := 1) (by decide) (fun _ _ z1 z2 => ifF (by decide) ?_) (fun z => ifT rfl (k0 ?_))⟩
    · rcases wM_z h (i := 1) (by omega) with ⟨_, z⟩ | ⟨z, z3, z4⟩
      · exact absurd ⟨z1, z2⟩ z
      have k1 := k1 z z3 z4
      refine ⟨L.or, w_linkNamed L.q L.mv L.rc (i := 1) (by omega) (by decide) ?_⟩
      show if oI (nmF (t.J 18) (wM l ws 1) (cL t) 0) = -1 then _ else _
      by_cases e : oI (nmF (t.J 18) (wM l ws 1) (cL t) 0) = -1
      rotate_left
      · rw [if_neg e] at k1; exact ifF e k1
      rw [if_pos e] at k1
      refine ifT e ⟨L.or, w_number L.rc (i := 2) (lo := 1) (hi := 5) (by decide) (by decide) (by decide) (fun _ _ => ?_) (fun z => absurd ⟨by omega, by decide⟩ z)⟩
      have b62 : ∀ u0 : Int32, u0 = oI (if p = 0 then some 0 else nmR (wN l ws p) 0 4) → C_Re_linkLine_b62 sa rd (oI (nmR (wN l ws 2) 1 5)) u0 s1 kc ks Q := by
        intro u0 hu
        rw [hu]
        unfold C_Re_linkLine_b62
        refine ⟨_, gd_to L.or, ?_⟩
        rw [show s1.I (20 * 7 + 5) rd = nI q from i5]
        by_cases q0 : q = 0
        · rw [if_pos q0] at k1
          exact ifT (by rw [q0]; rfl) k1
        · rw [if_neg q0] at k1
          refine ifF (fun z => q0 ((nI_eq (b := 0) (by omega) (by decide)).mp z)) ⟨_, gd_to L.or, L.or, ?_⟩
          rw [show s1.I (20 * 7 + 5) rd = nI q from i5]
          exact w_number L.rc (i := q) (lo := 84) (hi := 576) (by omega) (by decide) (by decide) (fun _ _ => k1) (fun z => absurd ⟨by omega, by omega⟩ z)
      refine ⟨_, gd_to L.or, ?_⟩
      rw [show s1.I (20 * 7 + 4) rd = nI p from i4]
      by_cases p0 : p = 0
      · exact ifT (by rw [p0]; rfl) (b62 0 (by rw [if_pos p0]; rfl))
      · refine ifF (fun z => p0 ((nI_eq (b := 0) (by omega) (by decide)).mp z)) ⟨_, gd_to L.or, L.or, ?_⟩
        rw [show s1.I (20 * 7 + 4) rd = nI p from i4]
        exact w_number L.rc (i := p) (lo := 0) (hi := 4) (by omega) (by decide) (by decide) (fun _ _ => b62 _ (by rw [if_neg p0]; rfl)) (fun z => absurd ⟨by omega, by omega⟩ z)
    · rcases wM_z h (i := 1) (by omega) with ⟨z1, _⟩ | ⟨_, z3, z4⟩
      · exact z1
      · exact absurd ⟨by omega, by decide, z3, z4⟩ z
  rcases wM_z h (i := 1) (by omega) with ⟨z0, zn⟩ | ⟨znm, zl, za⟩
  · rw [if_pos z0] at em
    exact no 3 em fun Q kq => ec Q fun s1 f1 _ _ => ⟨fun _ => kq s1 f1, fun _ y1 y2 => absurd ⟨y1, y2⟩ zn⟩
  rw [if_neg (nmL_n0 znm)] at em
  have ec : ∀ Q : Int32 → cS → Nat → Nat → Prop, (∀ s1, fo rd s s1 → if oI (nmF (t.J 18) (wM l ws 1) (cL t) 0) = -1 then C_Re_linkLine_b89 sa rd (oI (nmR (wN l ws 2) 1 5)) (oI (if p = 0 then some 0 else nmR (wN l ws p) 0 4)) (oI (if q = 0 then some 576 else nmR (wN l ws q) 84 576)) s1 kc ks Q else Q 3 s1 kc ks) → C_Re_linkLine sa rd s kc ks Q := fun Q k => ec Q fun s1 f1 _ _ => ⟨fun z => absurd z (nmL_n0 znm), fun _ _ _ => k s1 f1⟩
  by_cases el : oI (nmF (t.J 18) (wM l ws 1) (cL t) 0) = -1
  rotate_left
  · rw [if_neg el] at em
    simp only [if_neg el] at ec
    exact no 3 em fun Q kq => ec Q fun s1 f1 => kq s1 f1
  rw [if_pos el] at em
  simp only [if_pos el] at ec
  rw [show M_isNumber t 2 1 5 = _ from h.isn (i := 2) (lo := 1) (hi := 5) (by omega) (by decide) (by decide)] at em
  simp only [Option.bind_some] at em
  cases e2 : nmR (wN l ws 2) 1 5 with
  | none =>
    rw [e2] at em ec
    exact no 4 (em.trans (if_pos rfl)) fun Q kq => ec Q fun s1 f1 => by unfold C_Re_linkLine_b89; exact ifT rfl (kq s1 f1)
  | some dl =>
  have hdl := nmR_i e2
  rw [e2, if_neg (show ¬ (if (some dl).isSome = true then (1 : Int32) else 0) = 0 by simp)] at em
  rw [e2] at ec
  have em : M_lineLink t = if p ≠ 0 ∧ nmR (wN l ws p) 0 4 = none then some (4, t) else M_lineLink_b94 t (wM l ws 1) (nI p) (nI q) := by
    rw [em]
    by_cases p0 : p = 0
    · rw [if_neg (show ¬ (p ≠ 0 ∧ _) from fun z => z.1 p0), p0, if_neg (show ¬ (0 : Int32) < nI 0 by decide)]
    · rw [if_pos (show (0 : Int32) < nI p from nI_lt (a := 0) (by omega) (by omega)), show M_isNumber t (nI p) 0 4 = _ from h.isn (i := p) (lo := 0) (hi := 4) (by omega) (by decide) (by decide)]
      simp only [Option.bind_some]
      cases nmR (wN l ws p) 0 4 with
      | none => simp [p0]
      | some v => simp
  cases ej : (if p = 0 then some 0 else nmR (wN l ws p) 0 4) with
  | none =>
    have p0 : p ≠ 0 := fun z => by rw [if_pos z] at ej; cases ej
    rw [if_neg p0] at ej
    rw [if_pos ⟨p0, ej⟩] at em
    exact no 4 em fun Q kq => ec Q fun s1 f1 => by
      unfold C_Re_linkLine_b89
      rw [if_neg p0, ej]
      exact ifF (oI_n1 dl (by omega)) (ifT rfl (kq s1 f1))
  | some jt =>
  have hjt : jt ≤ 4 ∧ (p = 0 ∧ jt = 0 ∨ p ≠ 0 ∧ wN l ws p = some jt) := by
    by_cases p0 : p = 0
    · rw [if_pos p0] at ej
      cases ej
      exact ⟨by decide, Or.inl ⟨p0, rfl⟩⟩
    · rw [if_neg p0] at ej
      have := nmR_i ej
      exact ⟨by omega, Or.inr ⟨p0, this.1⟩⟩
  rw [if_neg (fun z => by rw [if_neg z.1, z.2] at ej; cases ej)] at em
  rw [ej] at ec
  have em : M_lineLink t = if q ≠ 0 ∧ nmR (wN l ws q) 84 576 = none then some (4, t) else M_lineLink_b115 t (wM l ws 1) (nI p) (nI q) := by
    rw [em]
    unfold M_lineLink_b94
    by_cases q0 : q = 0
    · rw [if_neg (show ¬ (q ≠ 0 ∧ _) from fun z => z.1 q0), q0, if_neg (show ¬ (0 : Int32) < nI 0 by decide)]
    · rw [if_pos (show (0 : Int32) < nI q from nI_lt (a := 0) (by omega) (by omega)), show M_isNumber t (nI q) 84 576 = _ from h.isn (i := q) (lo := 84) (hi := 576) (by omega) (by decide) (by decide)]
      simp only [Option.bind_some]
      cases nmR (wN l ws q) 84 576 with
      | none => simp [q0]
      | some v => simp
  cases eq : (if q = 0 then some 576 else nmR (wN l ws q) 84 576) with
  | none =>
    have q0 : q ≠ 0 := fun z => by rw [if_pos z] at eq; cases eq
    rw [if_neg q0] at eq
    rw [if_pos ⟨q0, eq⟩] at em
    exact no 4 em fun Q kq => ec Q fun s1 f1 => by
      unfold C_Re_linkLine_b89
      rw [if_neg q0, eq]
      exact ifF (oI_n1 dl (by omega)) (ifF (oI_n1 jt (by omega)) (ifT rfl (kq s1 f1)))
  | some mt =>
  have hmt : 84 ≤ mt ∧ mt ≤ 576 ∧ (q = 0 ∧ mt = 576 ∨ q ≠ 0 ∧ wN l ws q = some mt) := by
    by_cases q0 : q = 0
    · rw [if_pos q0] at eq
      cases eq
      exact ⟨by decide, by decide, Or.inl ⟨q0, rfl⟩⟩
    · rw [if_neg q0] at eq
      have := nmR_i eq
      exact ⟨by omega, by omega, Or.inr ⟨q0, this.1⟩⟩
  rw [if_neg (fun z => by rw [if_neg z.1, z.2] at eq; cases eq)] at em
  rw [eq] at ec
  generalize hnn : cL t = n at h10 e17
  have ec : ∀ Q : Int32 → cS → Nat → Nat → Prop, (∀ s1, fo rd s s1 → if nI n < (10 : Int32) then (ob (gP s1 11 6 x) (fun v6 => (nwO sa s1 kc ks 3 8 (fun q10 sq10 cq10 dq10 => (okO sq10 7 rd ∧ C_Re_nameAt sa rd (nI 1) sq10 cq10 dq10 (fun r11 sr11 cr11 dr11 => (okO sr11 3 q10 ∧ C_Li_init sa q10 r11 (nI dl) (nI jt) (nI mt) sr11 cr11 dr11 (fun sr12 cr12 dr12 => (ob v6 (fun b13 => (ob (wQ sr12 b13 (nI n) (some q10)) (fun s14 => (ob (gP s14 7 0 rd) (fun v15 => (ob v15 (fun b16 => (ob (gI s14 11 7 b16) (fun v17 => (ob (pI s14 11 7 b16 (v17 + (1 : Int32))) (fun s18 => (Q (0 : Int32) s18 cr12 dr12))))))))))))))))))))) else Q 6 s1 kc ks) → C_Re_linkLine sa rd s kc ks Q := by
    intro Q k
    refine ec Q fun s1 f1 => ?_
    have L := h.fo f1
    obtain ⟨-, ⟨o1, o2⟩, ⟨p1, p2⟩, -⟩ := id L.rc
    have k := k s1 f1
    have i227 : s1.I (20 * 11 + 7) x = nI n := by rw [← hnn]; exact L.q.nL L.mv
    unfold C_Re_linkLine_b89
    refine ifF (oI_n1 dl (by omega)) (ifF (oI_n1 jt (by omega)) (ifF (oI_n1 mt (by omega)) ⟨_, gd_to o1, _, p1, _, gd_to o2, ?_⟩))
    rw [i227]
    by_cases c : nI n < (10 : Int32)
    · rw [if_pos c] at k
      obtain ⟨v6, hv6, k⟩ := k
      refine ifT c ⟨_, gd_to o1, _, p1, v6, hv6, _, gd_to o1, _, p1, _, gd_to o2, ?_⟩
      rw [i227]
      exact k
    · rw [if_neg c] at k
      exact ifF c k
  by_cases n10 : n = 10
  · refine no 6 ?_ fun Q kq => ec Q fun s1 f1 => by rw [if_neg (by rw [n10]; decide)]; exact kq s1 f1
    rw [em]
    unfold M_lineLink_b115
    rw [e17, n10]
    rfl
  have hn10 : n < 10 := by omega
  have N := h.mv.n
  have emF : M_lineLink t = some (0, mLk t n (wM l ws 1) (nI dl) (nI jt) (nI mt)) := by
    rw [em]
    unfold M_lineLink_b115
    rw [e17, if_neg (show ¬ nI n = (10 : Int32) from fun z => n10 ((nI_eq (b := 10) (by omega) (by decide)).mp z)), wrJ_n (N.n 18 10) hn10 (by decide)]
    simp only [Option.bind_some]
    have m1 : mfr [18] t (moSJ t 18 n (wM l ws 1)) := mfr.sj (by decide)
    have b2 := (h.wx.mf m1 rfl).num (i := 2) (by omega)
    rw [hdl.1] at b2
    rw [show M_number (moSJ t 18 n (wM l ws 1)) 2 = some (nI dl) from b2]
    simp only [Option.bind_some]
    rw [show (moSJ t 18 n (wM l ws 1)).S 17 = nI n from e17, wrI_n (t := moSJ t 18 n (wM l ws 1)) (N.n 19 10) hn10 (by decide)]
    simp only [Option.bind_some]
    have m2 : mfr [18, 19] t (moSI (moSJ t 18 n (wM l ws 1)) 19 n (nI dl)) := (mfr.sj (by decide)).tr (mfr.si (by decide))
    have m3 : mfr [18, 19, 20] t (moSI (moSI (moSJ t 18 n (wM l ws 1)) 19 n (nI dl)) 20 n (nI jt)) := ((mfr.sj (by decide)).tr (mfr.si (by decide))).tr (mfr.si (by decide))
    have b198 : M_lineLink_b198 (moSI (moSI (moSJ t 18 n (wM l ws 1)) 19 n (nI dl)) 20 n (nI jt)) (nI n) (nI mt) = some (0, mLk t n (wM l ws 1) (nI dl) (nI jt) (nI mt)) := by
      unfold M_lineLink_b198
      rw [wrI_n (t := moSI (moSI (moSJ t 18 n (wM l ws 1)) 19 n (nI dl)) 20 n (nI jt)) (N.n 21 10) hn10 (by decide)]
      simp only [Option.bind_some]
      rw [show (moSI (moSI (moSI (moSJ t 18 n (wM l ws 1)) 19 n (nI dl)) 20 n (nI jt)) 21 n (nI mt)).S 17 = nI n from e17, wrZ_n (t := moSI (moSI (moSI (moSJ t 18 n (wM l ws 1)) 19 n (nI dl)) 20 n (nI jt)) 21 n (nI mt)) (N.n 22 10) hn10 (by decide)]
      simp only [Option.bind_some]
      unfold letS
      rw [show (moSI (moSI (moSI (moSI (moSJ t 18 n (wM l ws 1)) 19 n (nI dl)) 20 n (nI jt)) 21 n (nI mt)) 22 n (vp_nar .boolean 1)).S 17 = nI n from e17, nI_1]
      rfl
    have b172 : M_lineLink_b172 (moSI (moSJ t 18 n (wM l ws 1)) 19 n (nI dl)) (nI q) (nI n) (nI jt) = some (0, mLk t n (wM l ws 1) (nI dl) (nI jt) (nI mt)) := by
      unfold M_lineLink_b172
      rw [wrI_n (t := moSI (moSJ t 18 n (wM l ws 1)) 19 n (nI dl)) (N.n 20 10) hn10 (by decide)]
      simp only [Option.bind_some]
      rw [show (moSI (moSI (moSJ t 18 n (wM l ws 1)) 19 n (nI dl)) 20 n (nI jt)).S 17 = nI n from e17]
      rcases hmt.2.2 with ⟨q0, e⟩ | ⟨q0, e⟩
      · rw [q0, if_neg (show ¬ (0 : Int32) < nI 0 by decide)]
        rw [e] at b198
        rw [e]
        exact b198
      · have b3 := (h.wx.mf m3 rfl).num (i := q) (by omega)
        rw [e] at b3
        rw [if_pos (show (0 : Int32) < nI q from nI_lt (a := 0) (by omega) (by omega)), b3]
        simp only [Option.bind_some]
        exact b198
    rw [show (moSI (moSJ t 18 n (wM l ws 1)) 19 n (nI dl)).S 17 = nI n from e17]
    rcases hjt.2 with ⟨p0, e⟩ | ⟨p0, e⟩
    · rw [p0, if_neg (show ¬ (0 : Int32) < nI 0 by decide)]
      rw [e] at b172 ⊢
      exact b172
    · have b3 := (h.wx.mf m2 rfl).num (i := p) (by omega)
      rw [e] at b3
      rw [if_pos (show (0 : Int32) < nI p from nI_lt (a := 0) (by omega) (by omega)), b3]
      simp only [Option.bind_some]
      exact b172
  refine ⟨0, _, emF, mv_lk h.mv hnn.symm hn10 ⟨_, znm⟩ ⟨dl, rfl, hdl.2⟩ ⟨jt, rfl, Nat.zero_le _, hjt.1⟩ ⟨mt, rfl, hmt.1, hmt.2.1⟩, mLk_e.1.wk (by decide), fun Q kq => ec Q fun s1 f1 => ?_⟩
  have L := h.fo f1
  rw [if_pos (show nI n < (10 : Int32) from nI_lt (b := 10) hn10 (by decide))]
  obtain ⟨-, ⟨o1, o2⟩, ⟨p1, p2⟩, -⟩ := id L.rc
  have p226 := L.q.ty.r L.q.1.1 226 130 10
  refine ⟨_, gd_to o2, by omega, by omega, 7, by decide, fun lk hlk => ?_⟩
  have n1 : fr [] [] [] s1 (cNw s1 lk (7, 0)) := fr.nw hlk.1
  have R1 := rdc_ext L.rc n1
  refine ⟨R1.2.1.1, w_nameAt R1 (i := 1) (by omega) (by decide) zl za (by omega) (by omega) fun c z v s2 hc hz hv cz cv zv ex kc' kz kv htx kc2 ks2 hkc2 hks2 => ?_⟩
  have un : ∀ {a : Nat}, cFr sa (cNw s1 lk (7, 0)) a → a ≠ lk ∧ cFr sa s1 a := fun {a} ha => by
    have hne : a ≠ lk := fun e => by have := ha.1; rw [e, cNw_ks] at this; exact absurd this (by decide)
    exact ⟨hne, by have := ha.1; rw [cNw_kn hne] at this; exact this, ha.2⟩
  have hc' := un hc
  have hz' := un hz
  have hv' := un hv
  have lkn : lk ∉ [c, z, v] := by
    simp only [List.mem_cons, List.not_mem_nil, or_false, not_or]
    exact ⟨fun e => hc'.1 e.symm, fun e => hz'.1 e.symm, fun e => hv'.1 e.symm⟩
  have klk : s2.K lk = (7, 0) := ((ex lk lkn).1).trans cNw_ks
  have olk : okO s2 3 lk := by unfold okO; rw [klk]; decide
  refine ⟨olk, w_Li olk (by omega) (by omega) fun b d s3 hb hd hbd ex3 k1 kb kd p0 ib i64 i65 i66 p67 p60 i61 i62 i63 => ?_⟩
  have fresh : ∀ {a : Nat}, cFr sa s2 a → a ∉ [c, z, v] ∧ a ≠ lk ∧ cFr sa s1 a := fun {a} ha => by
    have hm : a ∉ [c, z, v] := by
      intro hm
      simp only [List.mem_cons, List.not_mem_nil, or_false] at hm
      have h0 := ha.1
      rcases hm with rfl | rfl | rfl
      · rw [kc'] at h0; exact absurd (show (117 : Nat) = 0 from h0) (by decide)
      · rw [kz] at h0; exact absurd h0 (by decide)
      · rw [kv] at h0; exact absurd (show (118 : Nat) = 0 from h0) (by decide)
    have hne : a ≠ lk := fun e => by have := ha.1; rw [e, klk] at this; exact absurd this (by decide)
    refine ⟨hm, hne, ?_, ha.2⟩
    have := ha.1
    rw [(ex a hm).1, cNw_kn hne] at this
    exact this
  have hb' := fresh hb
  have hd' := fresh hd
  have exT : exA [lk, c, z, v, b, d] s1 s3 := ((exA.nw (by simp)).tr (ex.wk (fun a ha => by simp only [List.mem_cons, List.not_mem_nil, or_false] at ha ⊢; omega))).tr (ex3.wk (fun a ha => by simp only [List.mem_cons, List.not_mem_nil, or_false] at ha ⊢; omega))
  have inN : ∀ {a : Nat}, a ∈ [c, z, v] → a ∉ [lk, b, d] := fun {a} ha hm => by
    simp only [List.mem_cons, List.not_mem_nil, or_false] at hm
    rcases hm with rfl | rfl | rfl
    · exact lkn ha
    · exact hb'.1 ha
    · exact hd'.1 ha
  have kc3 : s3.K c = (117, (ws.getD 1 (0, 0)).2 - (ws.getD 1 (0, 0)).1) := ((ex3 c (inN (by simp))).1).trans kc'
  have kz3 : s3.K z = (31, 0) := ((ex3 z (inN (by simp))).1).trans kz
  have kv3 : s3.K v = (118, (ws.getD 1 (0, 0)).2 - (ws.getD 1 (0, 0)).1) := ((ex3 v (inN (by simp))).1).trans kv
  have htx3 : isTx sa s3 z (wU (vc l) (ws.getD 1 (0, 0)).1 ((ws.getD 1 (0, 0)).2 - (ws.getD 1 (0, 0)).1)) := by
    rcases htx with ⟨t1, t2, v', t3, t4, t5, t6⟩ | ⟨t1, _⟩
    · have t4' := t4
      have vv : v' ∉ [lk, b, d] := fun hm => by
        simp only [List.mem_cons, List.not_mem_nil, or_false] at hm
        rcases hm with rfl | rfl | rfl
        · rw [klk] at t4; exact absurd (congrArg Prod.fst t4) (show ¬ (7 : Nat) = 118 by decide)
        · have := hb.1; rw [t4] at this; exact absurd (show (118 : Nat) = 0 from this) (by decide)
        · have := hd.1; rw [t4] at this; exact absurd (show (118 : Nat) = 0 from this) (by decide)
      obtain ⟨y1, y2, y3, y4, y5, y6⟩ := ex3 z (inN (by simp))
      obtain ⟨w1, w2, w3, w4, w5, w6⟩ := ex3 v' vv
      exact Or.inl ⟨by rw [y1]; exact t1, by rw [y2]; exact t2, v', by rw [y4]; exact t3, by rw [w1]; exact t4', t5, fun i hi => by rw [w5]; exact t6 i hi⟩
    · rw [kz] at t1; exact absurd t1 (by decide)
  obtain ⟨R3, f3⟩ := lk_new (G := G) (H := H) (n := n) L.1 L.mv exT (fun a ha => by
    simp only [List.mem_cons, List.not_mem_nil, or_false] at ha
    rcases ha with rfl | rfl | rfl | rfl | rfl | rfl
    · exact hlk
    · exact hc'.2
    · exact hz'.2
    · exact hv'.2
    · exact hb'.2.2
    · exact hd'.2.2) ⟨hbd, fun e => hb'.2.1 e.symm⟩ (k1.trans klk) kc3 kz3 kv3 kb kd p0 p67 hnn.symm
  have eG : upG G 0 n lk 0 n = lk := if_pos ⟨rfl, rfl⟩
  have eH60 : upH H lk (fun g => if g = 60 then z else b) 60 lk = z := (if_pos rfl).trans (if_pos rfl)
  have eH67 : upH H lk (fun g => if g = 60 then z else b) 67 lk = b := (if_pos rfl).trans (if_neg (by decide))
  have xlk : x ≠ lk := fun e => by have := hlk.1; rw [← e, L.q.1.1] at this; exact absurd this (by decide)
  have eH226 : upH H lk (fun g => if g = 60 then z else b) 226 x = H 226 x := if_neg xlk
  have fin := lk_rr (n := n) (c := wM l ws 1) (dl := nI dl) (jt := nI jt) (mt := nI mt) (cap := 16) R3 L.mv hnn.symm hn10 (by rw [eG, k1, klk]) (fun i hi e => by
    rw [eG] at e
    have hli := (L.q.link (show i < cL t by omega)).1.1
    have : upG G 0 n lk 0 i = G 0 i := if_neg (by omega)
    rw [this] at e
    rw [e] at hli
    have := hlk.1
    rw [hli] at this
    exact absurd this (by decide)) (by rw [eG, eH60]; exact p60) (by rw [eG, eH60]; exact htx3) znm (by rw [eG, i61]; exact show mxI (nI dl) 1 = nI dl from (by
      unfold mxI
      by_cases c : nI dl < (1 : Int32)
      · exact absurd c (nI_nlt (b := 1) (by omega) (by omega))
      · rw [if_neg c])) (by rw [eG, i62]; exact show mxI (nI jt) 0 = nI jt from (by
      unfold mxI
      rw [if_neg (nI_pos (by omega))])) (by rw [eG]; exact i63) (by rw [eG]; exact i64) (by rw [eG]; exact i65) (by rw [eG]; exact i66) (by decide) (by
      rw [eG, eH67]
      exact ⟨by unfold okO; rw [kb]; decide, by decide, d, p0, kd, ib, Nat.zero_le _, by decide, by decide, fun i hi => absurd hi (Nat.not_lt_zero _)⟩)
  rw [eG, eH226] at fin
  have x3 : s3.K x = s1.K x ∧ _ := ⟨(f3 x (by rw [L.q.1.1]; decide)).1, trivial⟩
  have o11 : okO s3 11 x := okr (show (s3.K x).1 = 30 by rw [x3.1]; exact L.q.1.1) 11
  have hrd0 : (s1.K rd).1 ≠ 0 := o1.n0
  have o7 : okO s3 7 rd := by unfold okO at o1 ⊢; rw [(f3 rd hrd0).1]; exact o1
  have k226 : s3.K (H 226 x) = (130, 10) := by rw [(f3 (H 226 x) (by rw [p226.2]; decide)).1]; exact p226.2
  have i227 : s3.I (20 * 11 + 7) x = nI n := by
    have := ((f3 x (by rw [L.q.1.1]; decide)).2.1 (by simp)).1 227
    rw [show s3.I (20 * 11 + 7) x = s1.I 227 x from this, ← hnn]
    exact L.q.nL L.mv
  refine ⟨_, p226.1, _, gd_to ⟨⟨by rw [k226]; decide, by rw [k226]; decide, by rw [k226]; exact vp_in_nI hn10 (by decide)⟩, by rw [k226]; decide, fun b' hb' => by cases hb'; rw [k226]; exact (show okO s3 3 lk by unfold okO; rw [k1, klk]; decide)⟩, ?_⟩
  rw [nI_clamp (by omega)]
  refine ⟨_, gd_to o7, _, (((f3 rd hrd0).2.2.1 140 (by simp))).trans p1, _, gd_to o11, ?_⟩
  rw [show (cSQ s3 (H 226 x) n (some lk)).I (20 * 11 + 7) x = nI n from i227]
  dsimp only
  rw [nI_1]
  refine ⟨_, gd_to o11, kq _ _ _ _ _ fin.1 ?_ ?_ ?_ ?_ ?_⟩
  · refine ⟨fun i hi => upG_n (by omega), fun r hr => ⟨upG_n (by omega), fun p hp => ⟨upG_n (by omega), fun k hk => upG_n (by omega)⟩, ⟨upG_n (by omega), fun j hj => upG_n (by omega)⟩, ⟨upG_n (by omega), upG_n (by omega)⟩, ⟨upG_n (by omega), fun j hj => upG_n (by omega), fun j hj => upG_n (by omega)⟩, fun k hk => ⟨upG_n (by omega), upG_n (by omega)⟩⟩, fun i hi => upG_n (by omega), fun i => upG_n (by omega), fun i => upG_n (by omega), upG_n (by omega), fun i => upG_n (by omega)⟩
  · exact hA_up (by rw [← f1.1]; exact hlk.1)
  · exact ((fo_cf f1 h.2.2.1.2).wk.tr f3.wk).tr fin.2.wk
  · omega
  · omega
end Pk
