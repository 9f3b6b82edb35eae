/-! Lines: default. -/
/-- both sides do a line -/
def LO (G H : Nat → Nat → Nat) (sa : Nat → Nat) (x : Nat) (s : cS) (t : moS) (kc ks : Nat) (o : Option (Int32 × moS)) (C : (Int32 → cS → Nat → Nat → Prop) → Prop) : Prop := SO G H sa x t Wc o C (fun s' kc' ks' => fr Rc Pc Qc s s' ∧ kc ≤ kc' + 64 ∧ ks ≤ ks' + 1200)
section Df
variable {G H : Nat → Nat → Nat} {sa : Nat → Nat} {rd x kc ks : Nat} {s s1 : cS} {t : moS} {l : List Int32} {ws : List (Nat × Nat)} {Q : Int32 → cS → Nat → Nat → Prop} {o : Option (Int32 × moS)} {C : (Int32 → cS → Nat → Nat → Prop) → Prop}
theorem w_isD (h : RdC H x rd s l ws) (ht : TK sa s) {i k : Nat} (c : Int64) (h24 : i < 24) (kq : Q (if i < ws.length ∧ wC l ws i = c then 1 else 0) s kc ks) (hk : kOk k = true ∧ cdL (cT k) = c := by decide +kernel) : C_Re_is sa rd (nI i) (some (sa k)) s kc ks Q := by
  by_cases hi : i < ws.length
  · refine w_isK h ht c hi h24 (fun e => ?_) (fun e => ?_) hk
    · rw [if_pos ⟨hi, e⟩] at kq; exact kq
    · rw [if_neg (fun z => e z.2)] at kq; exact kq
  · rw [if_neg (fun z => hi z.1)] at kq
    exact w_isO h ht (by omega) (fun z => hi z.1) kq hk.1
theorem fo_cf (f : fo rd s s1) (hr : (s.K rd).1 = 22) : fr Rc Pc Qc s s1 := (f.fr hr).wk
theorem LO.no (h : LX G H sa x rd s t l ws) (r : Int32) (e : o = some (r, t)) (hC : ∀ Q : Int32 → cS → Nat → Nat → Prop, (∀ s1, fo rd s s1 → Q r s1 kc ks) → C Q) : LO G H sa x s t kc ks o C :=
  ⟨r, t, e, h.mv, mfr.rf, fun Q k => hC Q fun s1 f => k s1 kc ks (h.fo f).1 ⟨fo_cf f h.2.2.1.2, by omega, by omega⟩⟩
theorem w_tot (h : LX G H sa x rd s t l ws) : s.I (20 * 7 + 3) rd = nI ws.length := h.wt
/-- an interface's default -/
theorem dflt_rr (h : RR G H sa x s t) (hM : MV t) {r p : Nat} {v w : Int32} (hr : r < cR t) (hp : p < cI t r) (hv : rng v 0 15) (hw : bit w) : RR G H sa x (cSI (cSI s 93 (G 2 (4 * r + p)) v) 94 (G 2 (4 * r + p)) w) (moSI (moSI t 99 (4 * r + p) v) 100 (4 * r + p) w) ∧ MV (moSI (moSI t 99 (4 * r + p) v) 100 (4 * r + p) w) ∧ fr [8] [] [] s (cSI (cSI s 93 (G 2 (4 * r + p)) v) 94 (G 2 (4 * r + p)) w) ∧ mfr [99, 100] t (moSI (moSI t 99 (4 * r + p) v) 100 (4 * r + p) w) := by
  have hq := h.q.1
  have hk := (hq.po hr hp).1.1
  have f : fr [8] [] [] s (cSI (cSI s 93 (G 2 (4 * r + p)) v) 94 (G 2 (4 * r + p)) w) := (fr.si (by rw [hk]; decide)).tr (fr.si (by show (s.K _).1 ∈ _; rw [hk]; decide))
  have m : mfr [99, 100] t (moSI (moSI t 99 (4 * r + p) v) 100 (4 * r + p) w) := (mfr.si (by decide)).tr (mfr.si (by decide))
  have e99 : ∀ i, (moSI (moSI t 99 (4 * r + p) v) 100 (4 * r + p) w).I 99 i = if i = 4 * r + p then v else t.I 99 i := fun i => by rw [moSI_n (by decide), moSI_s]; rfl
  have e100 : ∀ i, (moSI (moSI t 99 (4 * r + p) v) 100 (4 * r + p) w).I 100 i = if i = 4 * r + p then w else t.I 100 i := fun i => by rw [moSI_s, moSI_n (by decide)]; rfl
  refine ⟨rr_po h hM (hq.1.v rfl rfl f rfl rfl rfl) f.wk (m.wk (by decide)) fun r' p' hr' hp' => ?_, hM.po (m.wk (by decide)) (fun r' p' hr' hp' => ?_) (fun r' p' h6 hp' h4 => ?_), f, m⟩
  · have hP := hq.po hr' hp'
    have hin : G 2 (4 * r' + p') = G 2 (4 * r + p) ↔ 4 * r' + p' = 4 * r + p := ⟨fun e => hq.2.1.2.2.1 r' r p' p hr' hr hp' hp e, fun e => by rw [e]⟩
    have o1 : ∀ g, g ≠ 93 → g ≠ 94 → (cSI (cSI s 93 (G 2 (4 * r + p)) v) 94 (G 2 (4 * r + p)) w).I g (G 2 (4 * r' + p')) = s.I g (G 2 (4 * r' + p')) := fun g h1 h2 => by rw [cSI_g h2, cSI_g h1]
    have o93 : (cSI (cSI s 93 (G 2 (4 * r + p)) v) 94 (G 2 (4 * r + p)) w).I 93 (G 2 (4 * r' + p')) = if 4 * r' + p' = 4 * r + p then v else s.I 93 (G 2 (4 * r' + p')) := by
      rw [cSI_g (by decide)]
      by_cases c : 4 * r' + p' = 4 * r + p
      · rw [if_pos c, hin.mpr c, cSI_s]
      · rw [if_neg c, cSI_a (fun z => c (hin.mp z))]
    have o94 : (cSI (cSI s 93 (G 2 (4 * r + p)) v) 94 (G 2 (4 * r + p)) w).I 94 (G 2 (4 * r' + p')) = if 4 * r' + p' = 4 * r + p then w else s.I 94 (G 2 (4 * r' + p')) := by
      by_cases c : 4 * r' + p' = 4 * r + p
      · rw [if_pos c, hin.mpr c, cSI_s]
      · rw [if_neg c, cSI_a (fun z => c (hin.mp z)), cSI_g (by decide)]
    obtain ⟨-, -, -, ⟨c1, c2, c3, c4, c5, c6, c7, c8⟩, -⟩ := id hP
    refine rpo_sc hP hq.ty (hq.rt hr').1.1 ((hM.r hr').i hp').2.2.2.2.2.2.2.2.2.2.1.n.2.2 f (m.wk (by decide)) (o1 98 (by decide) (by decide)) ⟨?_, ?_, ?_, ?_, ?_, ?_, ?_, ?_⟩
    · rw [o1 83 (by decide) (by decide), m.I 72 (by decide)]; exact c1
    · rw [o1 84 (by decide) (by decide), m.J 73 (by decide)]; exact c2
    · rw [o1 85 (by decide) (by decide), m.I 74 (by decide)]; exact c3
    · rw [o1 88 (by decide) (by decide), m.I 90 (by decide)]; exact c4
    · rw [o1 92 (by decide) (by decide), m.I 95 (by decide)]; exact c5
    · rw [o93, e99, c6]
    · rw [o94, e100, c7]
    · rw [o1 95 (by decide) (by decide), m.I 89 (by decide)]; exact c8
  · have := (hM.r hr').i hp'
    unfold mVi cL at this ⊢
    simp only [m.I 71 (by decide), m.S 17 (by decide), m.I 72 (by decide), m.J 73 (by decide), m.I 74 (by decide), m.I 75 (by decide), m.I 78 (by decide), m.I 79 (by decide), m.I 80 (by decide), m.I 82 (by decide), m.I 83 (by decide), m.I 84 (by decide), m.I 85 (by decide), m.I 87 (by decide), m.I 88 (by decide), m.I 90 (by decide), m.I 91 (by decide), m.I 94 (by decide), m.I 95 (by decide), m.I 96 (by decide), e99, e100]
    obtain ⟨b1, b2, b3, b4, b5, b6, b7, b8, b9, b10, b11, b12, b13, b14, b15, b16, b17, b18, b19⟩ := this
    refine ⟨b1, b2, b3, b4, b5, b6, b7, b8, b9, b10, b11, b12, b13, b14, b15, b16, b17, ?_, ?_⟩
    · split
      · exact hv
      · exact b18
    · split
      · exact hw
      · exact b19
  · have := hM.2.2.2.2.2.2.2.2.1 r' p' h6 hp' h4
    unfold mZi at this ⊢
    have hne : ¬ 4 * r' + p' = 4 * r + p := by
      have h4' := hM.nIf hr
      intro e
      have : r' = r := by omega
      subst this
      omega
    simp only [m.I 74 (by decide), m.I 75 (by decide), m.I 79 (by decide), m.I 82 (by decide), m.I 89 (by decide), m.I 90 (by decide), m.I 95 (by decide), e99, e100, if_neg hne]
    exact this
theorem P_default (h : LX G H sa x rd s t l ws) : LO G H sa x s t kc ks (M_lineDefault t) (C_Re_defaultLine sa rd s kc ks) := by
  have hn := h.nw
  have h6 := h.mv.nR
  have cl : ∀ Q : Int32 → cS → Nat → Nat → Prop, (if nI ws.length = (4 : Int32) then C_Re_defaultLine_b44 sa rd (if 3 < ws.length ∧ wC l ws 3 = 24246 then 1 else 0) (if 4 < ws.length ∧ wC l ws 4 = 982905 then 1 else 0) s kc ks Q else (if nI ws.length = (5 : Int32) then (if (if 4 < ws.length ∧ wC l ws 4 = 982905 then 1 else 0 : Int32) = 0 then Q 2 s kc ks else (if (if 3 < ws.length ∧ wC l ws 3 = 24246 then 1 else 0 : Int32) = 0 then C_Re_defaultLine_b44 sa rd (if 3 < ws.length ∧ wC l ws 3 = 24246 then 1 else 0) (if 4 < ws.length ∧ wC l ws 4 = 982905 then 1 else 0) s kc ks Q else Q 2 s kc ks)) else Q 2 s kc ks)) → C_Re_defaultLine sa rd s kc ks Q := by
    intro Q k
    unfold C_Re_defaultLine
    refine ⟨h.or, w_isD h.rc h.tk (i := 3) 24246 (by decide) ⟨h.or, w_isD h.rc h.tk (i := 4) 982905 (by decide) ⟨_, gd_to h.or, ?_⟩⟩⟩
    rw [w_tot h]
    by_cases c4 : nI ws.length = (4 : Int32)
    · rw [if_pos c4] at k; exact ifT c4 k
    · rw [if_neg c4] at k
      refine ifF c4 ⟨_, gd_to h.or, ?_⟩
      rw [w_tot h]; exact k
  have bad : M_lineDefault t = some (2, t) → (∀ Q : Int32 → cS → Nat → Nat → Prop, Q 2 s kc ks → C_Re_defaultLine sa rd s kc ks Q) → LO G H sa x s t kc ks (M_lineDefault t) (C_Re_defaultLine sa rd s kc ks) := fun e k => LO.no h 2 e fun Q kq => k Q (kq s fo.rf)
  have good : ∀ d : Int32, bit d → (if ws.length = 5 then (1 : Int32) else 0) = d → (if 4 < ws.length ∧ wC l ws 4 = 982905 then (1 : Int32) else 0) = d → 4 ≤ ws.length → M_lineDefault t = M_lineDefault_b50 t → (∀ Q : Int32 → cS → Nat → Nat → Prop, C_Re_defaultLine_b44 sa rd (if 3 < ws.length ∧ wC l ws 3 = 24246 then 1 else 0) d s kc ks Q → C_Re_defaultLine sa rd s kc ks Q) → LO G H sa x s t kc ks (M_lineDefault t) (C_Re_defaultLine sa rd s kc ks) := by
    intro d hd hd5 hd4 hn4 em ec
    have c3 : M_code t 3 = some (wC l ws 3) := h.code (i := 3) (by omega)
    have n3 : M_number t 3 = some (oI (wN l ws 3)) := h.num (i := 3) (by omega)
    have i3 : M_isNumber t 3 1 15 = some (if (nmR (wN l ws 3) 1 15).isSome then 1 else 0) := h.isn (i := 3) (lo := 1) (hi := 15) (by omega) (by decide) (by decide)
    have iw := m_iw h (by omega)
    rw [em]
    cases ep : pN t (wM l ws 1) (wM l ws 2) with
    | none =>
      rw [ep] at iw
      refine LO.no h 3 ?_ fun Q kq => ec Q ?_
      · unfold M_lineDefault_b50
        rw [iw]
        simp only [Option.bind_some]
        rw [if_pos (show oI none = -1 from rfl)]
      · unfold C_Re_defaultLine_b44
        refine ⟨h.or, w_portNamed h (by omega) ?_⟩
        rw [ep]
        exact ifT rfl (kq s fo.rf)
    | some q =>
      rw [ep] at iw
      obtain ⟨r, p, hr, hp, rfl⟩ := pN_s ep
      have h4 := h.mv.nIf hr
      have fin : ∀ v, rng v 0 15 → M_lineDefault_b113 t (nI (4 * r + p)) (nI (4 * r + p)) v = some (0, moSI (moSI t 99 (4 * r + p) v) 100 (4 * r + p) d) := by
        intro v hv
        unfold M_lineDefault_b113 M_lineDefault_b132
        rw [wrI_n (n := 24) (h.mv.n.n 99 24) (by omega) (by decide)]
        simp only [Option.bind_some]
        rw [show (moSI t 99 (4 * r + p) v).S 11 = nI ws.length from h.ww]
        by_cases c5 : ws.length = 5
        · rw [if_pos c5] at hd5
          rw [if_pos (by rw [c5]; rfl), wrZ_n (t := moSI t 99 (4 * r + p) v) (n := 24) (h.mv.n.n 100 24) (by omega) (by decide), ← hd5]; rfl
        · rw [if_neg c5] at hd5
          rw [if_neg (show ¬ nI ws.length = (5 : Int32) from fun z => c5 ((nI_eq (b := 5) (by omega) (by decide)).mp z)), wrZ_n (t := moSI t 99 (4 * r + p) v) (n := 24) (h.mv.n.n 100 24) (by omega) (by decide), ← hd5]; rfl
      have cfin : ∀ v, rng v 0 15 → ∀ Q : Int32 → cS → Nat → Nat → Prop, Q 0 (cSI (cSI s 93 (G 2 (4 * r + p)) v) 94 (G 2 (4 * r + p)) d) kc ks → C_Re_defaultLine_b71 sa d (some (G 2 (4 * r + p))) v s kc ks Q := by
        intro v hv Q kq
        have hk := (h.q.po hr hp).1.1
        obtain ⟨n, rfl, -, hn15⟩ := hv
        unfold C_Re_defaultLine_b71
        exact ifF (oI_n1 n (by omega)) ⟨_, rfl, _, gd_to (okr hk 4), _, gd_to ⟨okr hk 4, hd⟩, kq⟩
      have ok : ∀ v, rng v 0 15 → M_lineDefault_b50 t = M_lineDefault_b113 t (nI (4 * r + p)) (nI (4 * r + p)) v → (∀ Q : Int32 → cS → Nat → Nat → Prop, C_Re_defaultLine_b71 sa d (some (G 2 (4 * r + p))) v s kc ks Q → C_Re_defaultLine_b44 sa rd (if 3 < ws.length ∧ wC l ws 3 = 24246 then 1 else 0) d s kc ks Q) → LO G H sa x s t kc ks (M_lineDefault_b50 t) (C_Re_defaultLine sa rd s kc ks) := by
        intro v hv e1 e2
        obtain ⟨g1, g2, g3, g4⟩ := dflt_rr h.1 h.mv hr hp hv hd
        exact ⟨0, _, e1.trans (fin v hv), g2, g4.wk (by decide), fun Q k => ec Q (e2 Q (cfin v hv Q (k _ _ _ g1 ⟨g3.wk, by omega, by omega⟩)))⟩
      have m50 : M_lineDefault_b50 t = if wC l ws 3 = 24246 then M_lineDefault_b113 t (nI (4 * r + p)) (nI (4 * r + p)) 0 else if (nmR (wN l ws 3) 1 15).isSome then M_lineDefault_b113 t (nI (4 * r + p)) (nI (4 * r + p)) (oI (wN l ws 3)) else some (4, t) := by
        unfold M_lineDefault_b50 M_lineDefault_b87
        rw [iw]
        simp only [Option.bind_some]
        rw [if_neg (oI_n1 (4 * r + p) (by omega)), c3]
        simp only [Option.bind_some]
        rw [show oI (some (4 * r + p)) = nI (4 * r + p) from rfl]
        by_cases co : wC l ws 3 = 24246
        · simp only [if_pos co]
        · simp only [if_neg co]
          rw [i3]
          simp only [Option.bind_some]
          by_cases cn : (nmR (wN l ws 3) 1 15).isSome
          · rw [if_pos cn, if_neg (by decide), if_pos cn, n3]
            rfl
          · rw [if_neg cn, if_pos rfl, if_neg cn]
      have c44 : ∀ Q : Int32 → cS → Nat → Nat → Prop, (if wC l ws 3 = 24246 then C_Re_defaultLine_b71 sa d (some (G 2 (4 * r + p))) 0 s kc ks Q else C_Re_defaultLine_b71 sa d (some (G 2 (4 * r + p))) (oI (nmR (wN l ws 3) 1 15)) s kc ks Q) → C_Re_defaultLine_b44 sa rd (if 3 < ws.length ∧ wC l ws 3 = 24246 then 1 else 0) d s kc ks Q := by
        intro Q k
        unfold C_Re_defaultLine_b44
        refine ⟨h.or, w_portNamed h (by omega) ?_⟩
        rw [ep]
        refine ifF (by simp) ?_
        by_cases co : wC l ws 3 = 24246
        · rw [if_pos co] at k
          rw [show (if 3 < ws.length ∧ wC l ws 3 = 24246 then (1 : Int32) else 0) = 1 from if_pos ⟨by omega, co⟩]
          exact ifF (by decide) k
        · rw [if_neg co] at k
          rw [show (if 3 < ws.length ∧ wC l ws 3 = 24246 then (1 : Int32) else 0) = 0 from if_neg (fun z => co z.2)]
          exact ifT rfl ⟨h.or, w_number h.rc (i := 3) (lo := 1) (hi := 15) (by decide) (by decide) (by decide) (fun _ _ => k) (fun z => absurd ⟨by omega, by decide⟩ z)⟩
      by_cases co : wC l ws 3 = 24246
      · rw [if_pos co] at m50
        exact ok 0 ⟨0, rfl, Nat.le_refl _, by decide⟩ m50 (fun Q k => c44 Q (by rw [if_pos co]; exact k))
      · rw [if_neg co] at m50
        by_cases cn : (nmR (wN l ws 3) 1 15).isSome
        · rw [if_pos cn] at m50
          cases ew : wN l ws 3 with
          | none => rw [ew] at cn; cases cn
          | some v =>
            rw [ew] at cn m50
            have cn : (if 1 ≤ v ∧ v ≤ 15 then some v else none).isSome = true := cn
            by_cases cv : 1 ≤ v ∧ v ≤ 15
            · refine ok (nI v) ⟨v, rfl, by omega, cv.2⟩ m50 (fun Q k => c44 Q ?_)
              rw [if_neg co, ew, show nmR (some v) 1 15 = some v from if_pos cv]
              exact k
            · rw [if_neg cv] at cn; cases cn
        · rw [if_neg cn] at m50
          refine LO.no h 4 m50 fun Q kq => ec Q (c44 Q ?_)
          rw [if_neg co]
          have : nmR (wN l ws 3) 1 15 = none := Option.not_isSome_iff_eq_none.mp cn
          rw [this]
          unfold C_Re_defaultLine_b71
          exact ifT rfl (kq s fo.rf)
  by_cases n4 : ws.length = 4
  · refine good 0 (Or.inl rfl) (if_neg (by omega)) (if_neg (by omega)) (by omega) ?_ (fun Q k => cl Q ?_)
    · unfold M_lineDefault
      rw [h.ww, n4, if_neg (by decide), if_neg (by decide), if_neg (by decide)]
    · rw [if_pos (show nI ws.length = (4 : Int32) by rw [n4]; rfl), show (if 4 < ws.length ∧ wC l ws 4 = 982905 then (1 : Int32) else 0) = 0 from if_neg (by omega)]
      exact k
  have n4' : ¬ nI ws.length = (4 : Int32) := fun z => n4 ((nI_eq (b := 4) (by omega) (by decide)).mp z)
  by_cases n5 : ws.length = 5
  · have c4 : M_code t 4 = some (wC l ws 4) := h.code (i := 4) (by omega)
    have c3 : M_code t 3 = some (wC l ws 3) := h.code (i := 3) (by omega)
    have m5 : M_lineDefault t = if wC l ws 4 = 982905 then (if wC l ws 3 = 24246 then some (2, t) else M_lineDefault_b50 t) else some (2, t) := by
      unfold M_lineDefault
      rw [h.ww, n5, if_neg (by decide), if_neg (by decide), if_pos (by decide), c4, c3]
      rfl
    have n5' : nI ws.length = (5 : Int32) := by rw [n5]; rfl
    by_cases co : wC l ws 4 = 982905
    · have e4 : (if 4 < ws.length ∧ wC l ws 4 = 982905 then (1 : Int32) else 0) = 1 := if_pos ⟨by omega, co⟩
      rw [if_pos co] at m5
      by_cases c3' : wC l ws 3 = 24246
      · rw [if_pos c3'] at m5
        refine bad m5 fun Q k => cl Q ?_
        rw [if_neg n4', if_pos n5', e4, if_neg (by decide), if_pos (show 3 < ws.length ∧ wC l ws 3 = 24246 from ⟨by omega, c3'⟩), if_neg (by decide)]
        exact k
      · rw [if_neg c3'] at m5
        refine good 1 (Or.inr rfl) (if_pos n5) e4 (by omega) m5 fun Q k => cl Q ?_
        rw [if_neg n4', if_pos n5', e4, if_neg (by decide)]
        rw [if_neg (show ¬ (3 < ws.length ∧ wC l ws 3 = 24246) from fun z => c3' z.2)] at k ⊢
        rw [if_pos rfl]
        exact k
    · rw [if_neg co] at m5
      refine bad m5 fun Q k => cl Q ?_
      rw [if_neg n4', if_pos n5', if_neg (show ¬ (4 < ws.length ∧ wC l ws 4 = 982905) from fun z => co z.2), if_pos rfl]
      exact k
  have n5' : ¬ nI ws.length = (5 : Int32) := fun z => n5 ((nI_eq (b := 5) (by omega) (by decide)).mp z)
  refine bad ?_ fun Q k => cl Q (by rw [if_neg n4', if_neg n5']; exact k)
  unfold M_lineDefault
  rw [h.ww]
  by_cases c : ws.length < 4
  · rw [if_pos (show nI _ < (4 : Int32) from nI_lt (b := 4) c (by decide))]
  · rw [if_neg (show ¬ nI _ < (4 : Int32) from nI_nlt (b := 4) (by omega) (by omega)), if_pos (show (5 : Int32) < nI _ from nI_lt (a := 5) (by omega) (by omega))]
end Df
