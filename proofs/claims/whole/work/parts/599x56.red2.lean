/-! Lines: redistribute, both sides. -/
section Re
variable {G H : Nat → Nat → Nat} {sa : Nat → Nat} {rd x kc ks : Nat} {s : cS} {t : moS} {l : List Int32} {ws : List (Nat × Nat)}
theorem LO.no1 {o : Option (Int32 × moS)} {C : (Int32 → cS → Nat → Nat → Prop) → Prop} (h : LX G H sa x rd s t l ws) (r : Int32) (e : o = some (r, t)) (hC : ∀ Q : Int32 → cS → Nat → Nat → Prop, (∀ s1, fo rd s s1 → Q r s1 kc ks) → C Q) : LO G H sa x s t kc ks o C := LO.no h r e hC
theorem P_redistribute (h : LX G H sa x rd s t l ws) : LO G H sa x s t kc ks (M_lineRedistribute t) (C_Re_redistributeLine sa rd s kc ks) := by
  have hn := h.nw
  have h6 := h.mv.nR
  by_cases n4 : ws.length < 4
  · refine LO.no h 2 ?_ fun Q kq => ?_
    · unfold M_lineRedistribute
      rw [h.ww, if_pos (show nI _ < (4 : Int32) from nI_lt (b := 4) n4 (by decide))]
    · unfold C_Re_redistributeLine
      refine ⟨_, gd_to h.or, ?_⟩
      rw [w_tot h]
      exact ifT (nI_lt (b := 4) n4 (by decide)) (kq s fo.rf)
  have n4' : ¬ nI ws.length < (4 : Int32) := nI_nlt (b := 4) (by omega) (by omega)
  have c2 : M_code t 2 = some (wC l ws 2) := h.code (i := 2) (by omega)
  have c3 : M_code t 3 = some (wC l ws 3) := h.code (i := 3) (by omega)
  have em : M_lineRedistribute t = if wC l ws 2 = 22177190624204 ∨ wC l ws 2 = 1996896363 then M_lineRedistribute_b32 t else some (2, t) := by
    unfold M_lineRedistribute
    rw [h.ww, if_neg n4', c2]
    simp only [Option.bind_some]
    by_cases e1 : wC l ws 2 = 22177190624204
    · rw [if_pos e1, if_pos (Or.inl e1)]
    · rw [if_neg e1]
      by_cases e2 : wC l ws 2 = 1996896363
      · rw [if_pos e2, if_pos (Or.inr e2)]
      · rw [if_neg e2, if_neg (fun z => z.elim e1 e2)]
  have e32 : M_lineRedistribute_b32 t = if ws.length = 4 ∨ ws.length = 4 + 2 ∧ wC l ws 4 = 32047 then (Option.bind (M_name t 1) fun x2 => Option.bind (M_routerNamed t x2) fun x3 => if x3 = -1 then some (3, t) else Option.bind (M_option t 32047 4) fun x4 => Option.bind (M_code t 3) fun x5 => if x5 = 24934 then M_lineRedistribute_b100 t x3 x4 else Option.bind (M_code t 3) fun x6 => if x6 = 24246 then M_lineRedistribute_b100 t x3 x4 else M_lineRedistribute_b105 t x3 x4 0) else some (2, t) := by
    unfold M_lineRedistribute_b32
    have ha : M_areOptions t 4 32047 0 0 0 0 0 = _ := m_tag h (f := 4) (by omega)
    rw [ha]
    by_cases e : ws.length = 4 ∨ ws.length = 4 + 2 ∧ wC l ws 4 = 32047
    · rw [if_pos e, if_pos e]
      simp only [Option.bind_some]
      rw [if_neg (by decide)]
    · rw [if_neg e, if_neg e]
      simp only [Option.bind_some]
      first | exact if_pos rfl | exact if_pos trivial
  -- the class up to the router
  have cls : ∀ Q : Int32 → cS → Nat → Nat → Prop, (¬ (ws.length = 4 ∨ ws.length = 4 + 2 ∧ wC l ws 4 = 32047) → ∀ s1, fo rd s s1 → Q 2 s1 kc ks) → (∀ s1 tg, fo rd s s1 → (ws.length = 4 ∧ tg = 0 ∨ ws.length = 4 + 2 ∧ wC l ws 4 = 32047 ∧ tg = 5) → s1.I 144 rd = nI tg → ((wC l ws 2 ≠ 22177190624204 → wC l ws 2 ≠ 1996896363 → Q 2 s1 kc ks) ∧ (wC l ws 2 = 22177190624204 ∨ wC l ws 2 = 1996896363 → if (nmF (t.J 38) (wM l ws 1) (cR t) 0).map (G 1) = none then Q 3 s1 kc ks else (C_Re_number sa rd (nI 3) (nI 1) (nI 15) s1 kc ks (fun r5 sr5 cr5 dr5 => (ob (gI sr5 7 4 rd) (fun v6 => (if v6 = 0 then ((C_Re_redistributeLine_b75 sa rd ((nmF (t.J 38) (wM l ws 1) (cR t) 0).map (G 1)) r5 ((-1) : Int32) sr5 cr5 dr5 Q)) else (ob (gI sr5 7 4 rd) (fun v7 => (okO sr5 7 rd ∧ C_Re_number sa rd v7 (nI 0) (nI 65535) sr5 cr5 dr5 (fun r8 sr8 cr8 dr8 => ((C_Re_redistributeLine_b75 sa rd ((nmF (t.J 38) (wM l ws 1) (cR t) 0).map (G 1)) r5 r8 sr8 cr8 dr8 Q)))))))))))))) → C_Re_redistributeLine sa rd s kc ks Q := by
    intro Q k0 k1
    unfold C_Re_redistributeLine
    refine ⟨_, gd_to h.or, ?_⟩
    rw [w_tot h]
    have go : ∀ s1 tg, fo rd s s1 → (ws.length = 4 ∧ tg = 0 ∨ ws.length = 4 + 2 ∧ wC l ws 4 = 32047 ∧ tg = 5) → s1.I 144 rd = nI tg → okO s1 7 rd ∧ C_Re_isEither sa rd (2 : Int32) (some (sa 34)) (some (sa 17)) s1 kc ks (fun r3 sr3 cr3 dr3 => (if r3 = 0 then (Q (2 : Int32) sr3 cr3 dr3) else (okO sr3 7 rd ∧ C_Re_routerNamed sa rd (1 : Int32) sr3 cr3 dr3 (fun r4 sr4 cr4 dr4 => (if r4 = none then (Q (3 : Int32) sr4 cr4 dr4) else (okO sr4 7 rd ∧ C_Re_number sa rd (3 : Int32) (1 : Int32) (15 : Int32) sr4 cr4 dr4 (fun r5 sr5 cr5 dr5 => (ob (gI sr5 7 4 rd) (fun v6 => (if v6 = 0 then ((C_Re_redistributeLine_b75 sa rd r4 r5 ((-1) : Int32) sr5 cr5 dr5 Q)) else (ob (gI sr5 7 4 rd) (fun v7 => (okO sr5 7 rd ∧ C_Re_number sa rd v7 (0 : Int32) (65535 : Int32) sr5 cr5 dr5 (fun r8 sr8 cr8 dr8 => ((C_Re_redistributeLine_b75 sa rd r4 r5 r8 sr8 cr8 dr8 Q)))))))))))))))) := by
      intro s1 tg f1 ht hI
      have L := h.fo f1
      obtain ⟨q1, q2⟩ := k1 s1 tg f1 ht hI
      refine ⟨L.or, w_isE L.rc L.tk (i := 2) 22177190624204 1996896363 (by omega) (by decide) (fun e => ifF (by decide) ⟨L.or, w_routerNamed L.q L.mv L.rc (i := 1) (by omega) (by decide) ?_⟩) (fun e1 e2 => ifT rfl (q1 e1 e2))⟩
      have q2 := q2 e
      show if Option.map (G 1) (nmF (t.J 38) (wM l ws 1) (cR t) 0) = none then _ else _
      by_cases en : Option.map (G 1) (nmF (t.J 38) (wM l ws 1) (cR t) 0) = none
      · rw [if_pos en] at q2
        exact ifT en q2
      · rw [if_neg en] at q2
        exact ifF en ⟨L.or, q2⟩
    refine ifF n4' ⟨h.or, w_tag h (f := 4) (by decide) (fun e s1 f1 => ifT rfl (k0 e s1 f1)) (fun e s1 f1 hI => ifF (by decide) (go s1 0 f1 (Or.inl ⟨e, rfl⟩) hI)) (fun e e2 s1 f1 hI => ifF (by decide) (go s1 5 f1 (Or.inr ⟨e, e2, rfl⟩) hI))⟩
  by_cases sh : ws.length = 4 ∨ ws.length = 4 + 2 ∧ wC l ws 4 = 32047
  rotate_left
  · refine LO.no h 2 ?_ fun Q kq => cls Q (fun _ s1 f1 => kq s1 f1) (fun s1 tg f1 ht => absurd (ht.elim (fun z => Or.inl z.1) (fun z => Or.inr ⟨z.1, z.2.1⟩)) sh)
    rw [em, e32, if_neg sh]
    split <;> rfl
  by_cases sd : wC l ws 2 = 22177190624204 ∨ wC l ws 2 = 1996896363
  rotate_left
  · refine LO.no h 2 (em.trans (if_neg sd)) fun Q kq => cls Q (fun z => absurd sh z) (fun s1 tg f1 ht hI => ⟨fun _ _ => kq s1 f1, fun z => absurd z sd⟩)
  rw [if_pos sd, e32, if_pos sh, show M_name t 1 = some (wM l ws 1) from h.name (i := 1) (by omega)] at em
  simp only [Option.bind_some, m_routerNamed h.mv] at em
  have cls : ∀ Q : Int32 → cS → Nat → Nat → Prop, (∀ s1 tg, fo rd s s1 → (ws.length = 4 ∧ tg = 0 ∨ ws.length = 4 + 2 ∧ wC l ws 4 = 32047 ∧ tg = 5) → s1.I 144 rd = nI tg → if (nmF (t.J 38) (wM l ws 1) (cR t) 0).map (G 1) = none then Q 3 s1 kc ks else (C_Re_number sa rd (nI 3) (nI 1) (nI 15) s1 kc ks (fun r5 sr5 cr5 dr5 => (ob (gI sr5 7 4 rd) (fun v6 => (if v6 = 0 then ((C_Re_redistributeLine_b75 sa rd ((nmF (t.J 38) (wM l ws 1) (cR t) 0).map (G 1)) r5 ((-1) : Int32) sr5 cr5 dr5 Q)) else (ob (gI sr5 7 4 rd) (fun v7 => (okO sr5 7 rd ∧ C_Re_number sa rd v7 (nI 0) (nI 65535) sr5 cr5 dr5 (fun r8 sr8 cr8 dr8 => ((C_Re_redistributeLine_b75 sa rd ((nmF (t.J 38) (wM l ws 1) (cR t) 0).map (G 1)) r5 r8 sr8 cr8 dr8 Q)))))))))))) → C_Re_redistributeLine sa rd s kc ks Q := fun Q k => cls Q (fun z => absurd sh z) (fun s1 tg f1 ht hI => ⟨fun z1 z2 => absurd sd (fun z => z.elim z1 z2), fun _ => k s1 tg f1 ht hI⟩)
  cases er : nmF (t.J 38) (wM l ws 1) (cR t) 0 with
  | none =>
    rw [er] at em cls
    rw [if_pos (show oI none = -1 from rfl)] at em
    exact LO.no h 3 em fun Q kq => cls Q (fun s1 tg f1 _ _ => by rw [if_pos (show Option.map (G 1) none = none from rfl)]; exact kq s1 f1)
  | some r =>
    have hr : r < cR t := by have := nmF_s er; omega
    rw [er] at em cls
    have hrk := (h.q.rt hr).1.1
    obtain ⟨tg, htg, hopt⟩ : ∃ tg, (ws.length = 4 ∧ tg = 0 ∨ ws.length = 4 + 2 ∧ wC l ws 4 = 32047 ∧ tg = 5) ∧ M_option t 32047 4 = some (nI tg) := by
      rcases sh with e | ⟨e, e2⟩
      · exact ⟨0, Or.inl ⟨e, rfl⟩, m_tag4 h (f := 4) e⟩
      · exact ⟨5, Or.inr ⟨e, e2, rfl⟩, m_tag6 h (f := 4) e e2⟩
    rw [if_neg (oI_n1 r (by omega)), hopt, c3] at em
    simp only [Option.bind_some] at em
    have hti : ∀ s1 tg', (ws.length = 4 ∧ tg' = 0 ∨ ws.length = 4 + 2 ∧ wC l ws 4 = 32047 ∧ tg' = 5) → s1 = tg' → tg' = tg := fun s1 tg' h1 _ => by omega
    have num3 : M_number t 3 = some (oI (wN l ws 3)) := h.num (i := 3) (by omega)
    have isn3 : M_isNumber t 3 1 15 = some (if (nmR (wN l ws 3) 1 15).isSome then 1 else 0) := h.isn (i := 3) (lo := 1) (hi := 15) (by omega) (by decide) (by decide)
    -- what is said of the metric, of the tag, of the kind
    have kd : ∃ kd, kd < 2 ∧ (wC l ws 2 = 22177190624204 ∧ kd = 0 ∨ wC l ws 2 ≠ 22177190624204 ∧ kd = 1) := by
      by_cases e : wC l ws 2 = 22177190624204
      · exact ⟨0, by decide, Or.inl ⟨e, rfl⟩⟩
      · exact ⟨1, by decide, Or.inr ⟨e, rfl⟩⟩
    obtain ⟨kd, hkd, ekd⟩ := kd
    -- class: with a metric u (number or -1) and a tag w
    have b131 : ∀ (Q : Int32 → cS → Nat → Nat → Prop) s1 (v w : Int32), fo rd s s1 → Q 0 (cSE (cSE s1 (H 193 (G 1 r)) kd v) (H 194 (G 1 r)) kd w) kc ks → C_Re_redistributeLine_b131 sa rd (some (G 1 r)) v w s1 kc ks Q := by
      intro Q s1 v w f1 kq
      have L := h.fo f1
      have p1 := L.q.ty.r (L.q.rt hr).1.1 193 121 2
      have p2 := L.q.ty.r (L.q.rt hr).1.1 194 122 2
      have o9 := okr (L.q.rt hr).1.1 9
      have b147 : ∀ u0 : Int32, u0 = nI kd → C_Re_redistributeLine_b147 sa (some (G 1 r)) v w u0 s1 kc ks Q := by
        intro u0 hu
        unfold C_Re_redistributeLine_b147
        rw [hu]
        have a1 : okA s1 .int (H 193 (G 1 r)) (nI kd) := ⟨by rw [p1.2]; decide, by rw [p1.2]; decide, by rw [p1.2]; rfl, by rw [p1.2]; exact vp_in_nI hkd (by decide)⟩
        have a2 : okA s1 .int (H 194 (G 1 r)) (nI kd) := ⟨by rw [p2.2]; decide, by rw [p2.2]; decide, by rw [p2.2]; rfl, by rw [p2.2]; exact vp_in_nI hkd (by decide)⟩
        refine ⟨_, rfl, _, gd_to o9, _, p1.1, _, gd_to a1, _, gd_to o9, _, p2.1, _, gd_to a2, ?_⟩
        rw [nI_clamp (by omega)]
        exact kq
      unfold C_Re_redistributeLine_b131
      refine ⟨L.or, w_isK L.rc L.tk (i := 2) 22177190624204 (by omega) (by decide) (fun e => ifF (by decide) (b147 0 ?_)) (fun e => ifT rfl (b147 1 ?_))⟩
      · rcases ekd with ⟨_, rfl⟩ | ⟨z, _⟩
        · rfl
        · exact absurd e z
      · rcases ekd with ⟨z, _⟩ | ⟨_, rfl⟩
        · exact absurd z e
        · rfl
    -- model: the end
    have m205 : ∀ (v w : Int32), (v = -1 ∨ rng v 0 15) → (tg = 0 ∧ w = -1 ∨ tg = 5 ∧ ∃ n, wN l ws 5 = some n ∧ w = nI n) → M_lineRedistribute_b205 t (nI tg) (2 * nI r + nI kd) (2 * nI r + nI kd) v = some (0, moSI (moSI t 68 (2 * r + kd) v) 69 (2 * r + kd) w) := by
      intro v w hv hw
      unfold M_lineRedistribute_b205 M_lineRedistribute_b225
      rw [show (2 : Int32) = nI 2 from rfl, pk_mul, nI_add, wrI_n (n := 12) (h.mv.n.n 68 12) (by omega) (by decide)]
      simp only [Option.bind_some]
      have mm : mfr [68] t (moSI t 68 (2 * r + kd) v) := mfr.si (by decide)
      rcases hw with ⟨ht, hw⟩ | ⟨ht, n, hw1, hw2⟩
      · rw [ht, if_neg (show ¬ (0 : Int32) < nI 0 by decide), wrI_n (t := moSI t 68 (2 * r + kd) v) (n := 12) (h.mv.n.n 69 12) (by omega) (by decide), hw]
        rfl
      · have n5 : 5 < ws.length := by omega
        rw [ht, if_pos (show (0 : Int32) < nI 5 by decide), (h.wx.mf mm rfl).num n5, hw1]
        simp only [Option.bind_some]
        rw [wrI_n (t := moSI t 68 (2 * r + kd) v) (n := 12) (h.mv.n.n 69 12) (by omega) (by decide), hw2]
        rfl
    have done : ∀ (v w u : Int32), (v = -1 ∨ rng v 0 15) → (w = -1 ∨ rng w 0 65535) → M_lineRedistribute t = some (0, moSI (moSI t 68 (2 * r + kd) v) 69 (2 * r + kd) w) → (∀ (Q : Int32 → cS → Nat → Nat → Prop), (∀ s1, fo rd s s1 → Q 0 (cSE (cSE s1 (H 193 (G 1 r)) kd (shc v)) (H 194 (G 1 r)) kd w) kc ks) → C_Re_redistributeLine sa rd s kc ks Q) → LO G H sa x s t kc ks (M_lineRedistribute t) (C_Re_redistributeLine sa rd s kc ks) := by
      intro v w u hv hw e k
      have g0 := red_rr h.1 h.mv hr hkd hv hw
      refine ⟨0, _, e, g0.2.1, g0.2.2.2.wk (by decide), fun Q kq => k Q fun s1 f1 => ?_⟩
      have L := h.fo f1
      obtain ⟨g1, -, g3, -⟩ := red_rr L.1 L.mv hr hkd hv hw
      exact kq _ _ _ g1 ⟨(fo_cf f1 h.2.2.1.2).tr g3.wk, by omega, by omega⟩
    -- the tag is good or not
    have m121 : M_lineRedistribute_b121 t (nI r) (nI tg) = if tg = 5 ∧ nmR (wN l ws 5) 0 65535 = none then some (4, t) else M_lineRedistribute_b139 t (nI r) (nI tg) := by
      unfold M_lineRedistribute_b121
      rcases htg with ⟨_, rfl⟩ | ⟨e6, _, rfl⟩
      · rw [if_neg (show ¬ (0 : Int32) < nI 0 by decide), if_neg (by omega)]
      · rw [if_pos (show (0 : Int32) < nI 5 by decide), show M_isNumber t (nI 5) 0 65535 = _ from h.isn (i := 5) (lo := 0) (hi := 65535) (by omega) (by decide) (by decide)]
        simp only [Option.bind_some]
        cases nmR (wN l ws 5) 0 65535 with
        | none => simp
        | some v => simp
    have m139 : M_lineRedistribute_b139 t (nI r) (nI tg) = M_lineRedistribute_b159 t (nI tg) (2 * nI r) (nI kd) := by
      unfold M_lineRedistribute_b139
      rw [c2]
      simp only [Option.bind_some]
      rcases ekd with ⟨e, rfl⟩ | ⟨e, rfl⟩
      · rw [if_pos e]; rfl
      · rw [if_neg e]; rfl
    have m159 : M_lineRedistribute_b159 t (nI tg) (2 * nI r) (nI kd) = M_lineRedistribute_b205 t (nI tg) (2 * nI r + nI kd) (2 * nI r + nI kd) (if wC l ws 3 = 24934 then -1 else if wC l ws 3 = 24246 then 0 else oI (wN l ws 3)) := by
      unfold M_lineRedistribute_b159
      rw [c3]
      simp only [Option.bind_some]
      by_cases e1 : wC l ws 3 = 24934
      · rw [if_pos e1, if_pos e1]
      · rw [if_neg e1, if_neg e1]
        by_cases e2 : wC l ws 3 = 24246
        · rw [if_pos e2, if_pos e2]
        · rw [if_neg e2, if_neg e2, num3]; rfl
    -- class: behind the tag's number
    have ctag : ∀ (Q : Int32 → cS → Nat → Nat → Prop) s1 (r5 : Int32), fo rd s s1 → s1.I 144 rd = nI tg → ((tg = 0 → C_Re_redistributeLine_b75 sa rd (some (G 1 r)) r5 (-1) s1 kc ks Q) ∧ (tg = 5 → C_Re_redistributeLine_b75 sa rd (some (G 1 r)) r5 (oI (nmR (wN l ws 5) 0 65535)) s1 kc ks Q)) → (ob (gI s1 7 4 rd) (fun v6 => (if v6 = 0 then ((C_Re_redistributeLine_b75 sa rd (some (G 1 r)) r5 ((-1) : Int32) s1 kc ks Q)) else (ob (gI s1 7 4 rd) (fun v7 => (okO s1 7 rd ∧ C_Re_number sa rd v7 (nI 0) (nI 65535) s1 kc ks (fun r8 sr8 cr8 dr8 => ((C_Re_redistributeLine_b75 sa rd (some (G 1 r)) r5 r8 sr8 cr8 dr8 Q)))))))) ) := by
      intro Q s1 r5 f1 hI ⟨k0, k5⟩
      have L := h.fo f1
      refine ⟨_, gd_to L.or, ?_⟩
      rw [show s1.I (20 * 7 + 4) rd = nI tg from hI]
      rcases htg with ⟨_, e⟩ | ⟨e6, _, e⟩
      · exact ifT (by rw [e]; rfl) (k0 e)
      · refine ifF (by rw [e]; decide) ⟨_, gd_to L.or, L.or, ?_⟩
        rw [show s1.I (20 * 7 + 4) rd = nI tg from hI, e]
        exact w_number L.rc (i := 5) (lo := 0) (hi := 65535) (by decide) (by decide) (by decide) (fun _ _ => k5 e) (fun z => absurd ⟨by omega, by decide⟩ z)
    have cb95 : ∀ (Q : Int32 → cS → Nat → Nat → Prop) s1 (r5 w : Int32), fo rd s s1 → s1.I 144 rd = nI tg → (tg = 5 → w = -1 → Q 4 s1 kc ks) → (¬ (tg = 5 ∧ w = -1) → C_Re_redistributeLine_b109 sa rd (some (G 1 r)) r5 w s1 kc ks Q) → C_Re_redistributeLine_b95 sa rd (some (G 1 r)) r5 w s1 kc ks Q := by
      intro Q s1 r5 w f1 hI k4 k
      have L := h.fo f1
      unfold C_Re_redistributeLine_b95
      refine ⟨_, gd_to L.or, ?_⟩
      rw [show s1.I (20 * 7 + 4) rd = nI tg from hI]
      rcases htg with ⟨_, e⟩ | ⟨e6, _, e⟩
      · exact ifF (by rw [e]; decide) (k (by omega))
      · refine ifT (by rw [e]; decide) ?_
        by_cases ew : w = -1
        · exact ifT ew (k4 e ew)
        · exact ifF ew (k (fun z => ew z.2))
    -- the metric: a word or a number
    have cb75 : ∀ (Q : Int32 → cS → Nat → Nat → Prop) s1 (w : Int32), fo rd s s1 → s1.I 144 rd = nI tg → ((wC l ws 3 ≠ 24934 → wC l ws 3 ≠ 24246 → nmR (wN l ws 3) 1 15 = none → Q 4 s1 kc ks) ∧ ((wC l ws 3 = 24934 ∨ wC l ws 3 = 24246 ∨ (nmR (wN l ws 3) 1 15).isSome) → (tg = 5 → w = -1 → Q 4 s1 kc ks) ∧ (¬ (tg = 5 ∧ w = -1) → ∀ v, v = (if wC l ws 3 = 24934 then -1 else if wC l ws 3 = 24246 then 0 else oI (wN l ws 3)) → Q 0 (cSE (cSE s1 (H 193 (G 1 r)) kd (shc v)) (H 194 (G 1 r)) kd w) kc ks))) → C_Re_redistributeLine_b75 sa rd (some (G 1 r)) (oI (nmR (wN l ws 3) 1 15)) w s1 kc ks Q := by
      intro Q s1 w f1 hI ⟨kn, ky⟩
      have L := h.fo f1
      unfold C_Re_redistributeLine_b75
      cases e3 : nmR (wN l ws 3) 1 15 with
      | none =>
        refine ifT rfl ⟨L.or, w_isE L.rc L.tk (i := 3) 24934 24246 (by omega) (by decide) (fun e => ifF (by decide) ?_) (fun e1 e2 => ifT rfl (kn e1 e2 e3))⟩
        obtain ⟨y1, y2⟩ := ky (e.elim Or.inl (fun z => Or.inr (Or.inl z)))
        refine cb95 Q s1 _ w f1 hI y1 (fun z => ?_)
        have y2 := y2 z _ rfl
        unfold C_Re_redistributeLine_b109 C_Re_redistributeLine_b130
        refine ifT rfl ⟨L.or, w_isK L.rc L.tk (i := 3) 24934 (by omega) (by decide) (fun e' => ifF (by decide) (b131 Q s1 0 w f1 ?_)) (fun e' => ifT rfl (b131 Q s1 (-1) w f1 ?_))⟩
        · rw [if_pos e'] at y2; exact y2
        · rw [if_neg e', if_pos (e.resolve_left e')] at y2; exact y2
      | some v =>
        have hv := nmR_i e3
        have no1 : wC l ws 3 ≠ 24934 := fun z => by rw [wN_k (k := 35) z] at hv; cases hv.1
        have no2 : wC l ws 3 ≠ 24246 := fun z => by rw [wN_k (k := 12) z] at hv; cases hv.1
        obtain ⟨y1, y2⟩ := ky (Or.inr (Or.inr (by rw [e3]; rfl)))
        refine ifF (oI_n1 v (by omega)) (cb95 Q s1 _ w f1 hI y1 (fun z => ?_))
        have y2 := y2 z _ rfl
        unfold C_Re_redistributeLine_b109
        refine ifF (oI_n1 v (by omega)) (b131 Q s1 _ w f1 ?_)
        rw [if_neg no1, if_neg no2, hv.1] at y2
        have : shc (oI (some v)) = oI (some v) := by
          show (if nI v = -1 then 0 else if nI v = 0 then -1 else nI v) = nI v
          rw [if_neg (show ¬ nI v = -1 from oI_n1 v (by omega)), if_neg (show ¬ nI v = 0 from fun z => by have := (nI_eq (b := 0) (show v < 2 ^ 31 by omega) (by decide)).mp z; omega)]
        rw [this] at y2
        exact y2
    have cfin : ∀ (Q : Int32 → cS → Nat → Nat → Prop), (∀ s1, fo rd s s1 → ((wC l ws 3 ≠ 24934 → wC l ws 3 ≠ 24246 → nmR (wN l ws 3) 1 15 = none → Q 4 s1 kc ks) ∧ ((wC l ws 3 = 24934 ∨ wC l ws 3 = 24246 ∨ (nmR (wN l ws 3) 1 15).isSome) → (tg = 5 → nmR (wN l ws 5) 0 65535 = none → Q 4 s1 kc ks) ∧ (∀ w, (tg = 0 ∧ w = -1 ∨ tg = 5 ∧ ∃ n, nmR (wN l ws 5) 0 65535 = some n ∧ w = nI n) → ∀ v, v = (if wC l ws 3 = 24934 then -1 else if wC l ws 3 = 24246 then 0 else oI (wN l ws 3)) → Q 0 (cSE (cSE s1 (H 193 (G 1 r)) kd (shc v)) (H 194 (G 1 r)) kd w) kc ks)))) → C_Re_redistributeLine sa rd s kc ks Q := by
      intro Q k
      refine cls Q (fun s1 tg' f1 ht hI => ?_)
      have et : tg' = tg := hti _ tg' ht rfl
      rw [et] at hI
      obtain ⟨k1, k2⟩ := k s1 f1
      have L := h.fo f1
      rw [if_neg (show ¬ Option.map (G 1) (some r) = none by simp)]
      refine w_number L.rc (i := 3) (lo := 1) (hi := 15) (by decide) (by decide) (by decide) (fun _ _ => ?_) (fun z => absurd ⟨by omega, by decide⟩ z)
      refine ctag Q s1 _ f1 hI ⟨fun e0 => cb75 Q s1 _ f1 hI ⟨k1, fun z => ?_⟩, fun e5 => cb75 Q s1 _ f1 hI ⟨k1, fun z => ?_⟩⟩
      · exact ⟨fun e _ => absurd e (by omega), fun _ v hv => (k2 z).2 (-1) (Or.inl ⟨e0, rfl⟩) v hv⟩
      · refine ⟨fun e z' => (k2 z).1 e ?_, fun z' v hv => ?_⟩
        · cases e7 : nmR (wN l ws 5) 0 65535 with
          | none => rfl
          | some v =>
            rw [e7] at z'
            have := nmR_i e7
            exact absurd z' (oI_n1 v (by omega))
        · cases e7 : nmR (wN l ws 5) 0 65535 with
          | none => rw [e7] at z'; exact absurd ⟨e5, rfl⟩ z'
          | some n => exact (k2 z).2 (nI n) (Or.inr ⟨e5, n, e7, rfl⟩) v hv
    by_cases hm : wC l ws 3 = 24934 ∨ wC l ws 3 = 24246 ∨ (nmR (wN l ws 3) 1 15).isSome
    · have em : M_lineRedistribute t = M_lineRedistribute_b121 t (nI r) (nI tg) := by
        rw [em]
        unfold M_lineRedistribute_b100 M_lineRedistribute_b105
        rw [show oI (some r) = nI r from rfl]
        by_cases e1 : wC l ws 3 = 24934
        · rw [if_pos e1, if_neg (by decide)]
        rw [if_neg e1]
        by_cases e2 : wC l ws 3 = 24246
        · rw [if_pos e2, if_neg (by decide)]
        rw [if_neg e2, if_pos rfl, isn3, if_pos ((hm.resolve_left e1).resolve_left e2)]
        simp only [Option.bind_some]
        rw [if_neg (by decide)]
      rw [m121] at em
      by_cases hb : tg = 5 ∧ nmR (wN l ws 5) 0 65535 = none
      · exact LO.no h 4 (em.trans (if_pos hb)) fun Q kq => cfin Q fun s1 f1 => ⟨fun _ _ _ => kq s1 f1, fun _ => ⟨fun _ _ => kq s1 f1, fun w hw => absurd hb (fun z => by
          rcases hw with ⟨e, -⟩ | ⟨-, n, e, -⟩
          · omega
          · rw [z.2] at e; cases e)⟩⟩
      rw [if_neg hb, m139, m159] at em
      have hv : ∀ v : Int32, v = (if wC l ws 3 = 24934 then -1 else if wC l ws 3 = 24246 then 0 else oI (wN l ws 3)) → (v = -1 ∨ rng v 0 15) := by
        intro v hv
        by_cases e1 : wC l ws 3 = 24934
        · rw [if_pos e1] at hv; exact Or.inl hv
        rw [if_neg e1] at hv
        by_cases e2 : wC l ws 3 = 24246
        · rw [if_pos e2] at hv; exact Or.inr ⟨0, hv, Nat.le_refl _, by decide⟩
        rw [if_neg e2] at hv
        obtain ⟨n, hn'⟩ := Option.isSome_iff_exists.mp ((hm.resolve_left e1).resolve_left e2)
        have := nmR_i hn'
        rw [this.1] at hv
        exact Or.inr ⟨n, hv, by omega, by omega⟩
      obtain ⟨w, hw⟩ : ∃ w : Int32, tg = 0 ∧ w = -1 ∨ tg = 5 ∧ ∃ n, nmR (wN l ws 5) 0 65535 = some n ∧ w = nI n := by
        rcases htg with ⟨_, e⟩ | ⟨_, _, e⟩
        · exact ⟨-1, Or.inl ⟨e, rfl⟩⟩
        · cases e7 : nmR (wN l ws 5) 0 65535 with
          | none => exact absurd ⟨e, e7⟩ hb
          | some n => exact ⟨nI n, Or.inr ⟨e, n, rfl, rfl⟩⟩
      refine done _ w 0 (hv _ rfl) ?_ (em.trans (m205 _ w (hv _ rfl) ?_)) (fun Q k => cfin Q fun s1 f1 => ⟨fun z1 z2 z3 => ?_, fun _ => ⟨fun z1 z2 => absurd ⟨z1, z2⟩ hb, fun w' hw' v hv => ?_⟩⟩)
      · rcases hw with ⟨_, e⟩ | ⟨_, n, e, e'⟩
        · exact Or.inl e
        · have := nmR_i e
          exact Or.inr ⟨n, e', by omega, by omega⟩
      · rcases hw with ⟨a, e⟩ | ⟨a, n, e, e'⟩
        · exact Or.inl ⟨a, e⟩
        · exact Or.inr ⟨a, n, (nmR_i e).1, e'⟩
      · rw [z3] at hm
        exact absurd hm (fun z => by
          rcases z with z | z | z
          · exact z1 z
          · exact z2 z
          · cases z)
      · have : w' = w := by
          rcases hw with ⟨a, e⟩ | ⟨a, n, e, e'⟩ <;> rcases hw' with ⟨b, g⟩ | ⟨b, n', g, g'⟩
          · rw [e, g]
          · omega
          · omega
          · rw [e] at g; cases g; rw [e', g']
        rw [this, hv]
        exact k s1 f1
    · have n1 : wC l ws 3 ≠ 24934 := fun z => hm (Or.inl z)
      have n2 : wC l ws 3 ≠ 24246 := fun z => hm (Or.inr (Or.inl z))
      have n3 : nmR (wN l ws 3) 1 15 = none := Option.not_isSome_iff_eq_none.mp (fun z => hm (Or.inr (Or.inr z)))
      refine LO.no h 4 ?_ fun Q kq => cfin Q fun s1 f1 => ⟨fun _ _ _ => kq s1 f1, fun z => absurd z hm⟩
      rw [em]
      unfold M_lineRedistribute_b105
      rw [if_neg n1, if_neg n2, if_pos rfl, isn3, n3]
      rfl
end Re
