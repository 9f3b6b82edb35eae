/-! Secrets among the words. -/
def scB (u : Nat → Nat) : Nat → Nat → Bool
  | 0, _ => true
  | k + 1, i => (decide (33 ≤ u i) && decide (u i ≤ 126)) && scB u k (i + 1)
theorem scB_t (u : Nat → Nat) : ∀ k i, scB u k i = true → ∀ j, i ≤ j → j < i + k → 33 ≤ u j ∧ u j ≤ 126
  | 0, i, _, j, h1, h2 => by omega
  | k + 1, i, h, j, h1, h2 => by
    have h : ((decide (33 ≤ u i) && decide (u i ≤ 126)) && scB u k (i + 1)) = true := h
    rw [Bool.and_eq_true, Bool.and_eq_true, decide_eq_true_iff, decide_eq_true_iff] at h
    by_cases e : j = i
    · rw [e]; exact h.1
    · exact scB_t u k (i + 1) h.2 j (by omega) (by omega)
/-- word i is a secret -/
abbrev sOK (l : List Int32) (ws : List (Nat × Nat)) (i : Nat) : Prop := (ws.getD i (0, 0)).2 - (ws.getD i (0, 0)).1 ≤ 16 ∧ scB (vc l) ((ws.getD i (0, 0)).2 - (ws.getD i (0, 0)).1) (ws.getD i (0, 0)).1 = true
theorem by127 : ∀ v, v < 127 → (nI v).toInt8.toInt32 = nI v := by decide +kernel
section Sc
variable {G H : Nat → Nat → Nat} {sa : Nat → Nat} {rd x kc ks : Nat} {s s1 s2 : cS} {t : moS} {l : List Int32} {ws : List (Nat × Nat)}
/-- only row a is another -/
def fe (a : Nat) (s s' : cS) : Prop := s'.K = s.K ∧ s'.P = s.P ∧ s'.J = s.J ∧ s'.Q = s.Q ∧ s'.I = s.I ∧ ∀ b, b ≠ a → s'.E b = s.E b
theorem fe.rf {a : Nat} : fe a s s := ⟨rfl, rfl, rfl, rfl, rfl, fun _ _ => rfl⟩
theorem fe.tr {a : Nat} (h : fe a s s1) (g : fe a s1 s2) : fe a s s2 := ⟨g.1.trans h.1, g.2.1.trans h.2.1, g.2.2.1.trans h.2.2.1, g.2.2.2.1.trans h.2.2.2.1, g.2.2.2.2.1.trans h.2.2.2.2.1, fun b hb => (g.2.2.2.2.2 b hb).trans (h.2.2.2.2.2 b hb)⟩
theorem fe.se {a i : Nat} {v : Int32} : fe a s (cSE s a i v) := ⟨rfl, rfl, rfl, rfl, rfl, fun _ hb => cSE_a hb⟩
theorem fe.o {a b c : Nat} (h : fe a s s1) (ha : okO s c b) : okO s1 c b := by unfold okO at ha ⊢; rw [h.1]; exact ha
theorem fe.fr {a u : Nat} (h : fe a s s1) (hu : (s.K a).1 = u) : fr [u] [] [] s s1 := by
  obtain ⟨a1, a2, a3, a4, a5, a6⟩ := h
  intro b hb
  refine ⟨by rw [a1], fun hn => ⟨fun g => by rw [a5], fun g => by rw [a3], a6 b (fun e => hn (by rw [e, hu]; exact List.mem_singleton.mpr rfl))⟩, fun g _ => by rw [a2], fun _ => by rw [a4]⟩
theorem RdC.fe {a : Nat} (h : RdC H x rd s l ws) (f : fe a s s1) (ha : (s.K a).1 ≠ 101 ∧ (s.K a).1 ≠ 107 ∧ (s.K a).1 ≠ 108) : RdC H x rd s1 l ws := by
  obtain ⟨⟨cap, hb⟩, ⟨o1, o2⟩, p, z, y, ⟨w1, w2⟩, w3⟩ := h
  have f' := f
  obtain ⟨e1, e2, e3, e4, e5, e6⟩ := f'
  refine ⟨⟨cap, ?_⟩, ⟨f.o o1, f.o o2⟩, by rw [e2]; exact p, by rw [e1, e2]; exact z, by rw [e1, e2]; exact y, ⟨by rw [e5]; exact w1, fun j h1 h2 => ?_⟩, w3⟩
  · obtain ⟨c1, c2, d, c3, c4, c5, c6, c7, c8, c9⟩ := hb
    exact ⟨f.o c1, c2, d, by rw [e2]; exact c3, by rw [e1]; exact c4, by rw [e5]; exact c5, c6, c7, c8, fun i hi => by rw [e6 d (fun e => ha.1 (by rw [← e, c4]))]; exact c9 i hi⟩
  · rw [e6 _ (fun e => ha.2.1 (by rw [← e, z.2])), e6 _ (fun e => ha.2.2 (by rw [← e, y.2]))]
    exact w2 j h1 h2
theorem LX.sr (h : LX G H sa x rd s t l ws) : s.P 147 rd = some (H 147 rd) ∧ s.K (H 147 rd) = (127, 16) := h.q.ty.r h.2.2.1.2 147 127 16
theorem LX.fe (h : LX G H sa x rd s t l ws) (f : fe (H 147 rd) s s1) : LX G H sa x rd s1 t l ws := by
  have hk : (s.K (H 147 rd)).1 = 127 := by rw [h.sr.2]
  obtain ⟨hR, hM, ⟨p1, p2⟩, hc, hw, hu⟩ := h
  have ff := f.fr hk
  refine ⟨rr_fr hR hM (hR.q.1.1.v f.1 f.2.1 ff rfl rfl rfl) ff (mfr.rf (W := [])) rfl rfl rfl rfl rfl rfl rfl, hM, ⟨by rw [f.2.1]; exact p1, by rw [f.1]; exact p2⟩, RdC.fe hc f (by rw [hk]; decide), hw, hu⟩
theorem w_secret {Q : Int32 → cS → Nat → Nat → Prop} (h : LX G H sa x rd s t l ws) {i : Nat} (hi : i < ws.length) (h24 : i < 24) (k0 : ¬ sOK l ws i → ∀ s', fe (H 147 rd) s s' → Q 0 s' kc ks) (k1 : sOK l ws i → ∀ s', fe (H 147 rd) s s' → (∀ j, j < 16 → s'.E (H 147 rd) j = if (ws.getD i (0, 0)).1 + j < (ws.getD i (0, 0)).2 then nI (vc l ((ws.getD i (0, 0)).1 + j)) else 0) → Q 1 s' kc ks) : C_Re_takeSecret sa rd (nI i) s kc ks Q := by
  have hn := h.nw
  obtain ⟨⟨cap, hb0⟩, -⟩ := h.rc
  have hs := hb0.sm
  have hv := h.b hi
  have hsr := h.sr
  unfold C_Re_takeSecret
  refine ⟨h.or, w_isWord h.rc (by omega) (fun _ _ => ?_) (fun z => absurd ⟨hi, h24⟩ z)⟩
  refine ifF (by decide) (w_bb h.rc hi h24 (w_ba h.rc hi h24 ⟨_, gd_to h.or, _, hsr.1, ?_⟩))
  have k0 : ¬ ((ws.getD i (0, 0)).2 - (ws.getD i (0, 0)).1 ≤ 16 ∧ scB (vc l) ((ws.getD i (0, 0)).2 - (ws.getD i (0, 0)).1) (ws.getD i (0, 0)).1 = true) → ∀ s', fe (H 147 rd) s s' → Q 0 s' kc ks := k0
  have k1 : ((ws.getD i (0, 0)).2 - (ws.getD i (0, 0)).1 ≤ 16 ∧ scB (vc l) ((ws.getD i (0, 0)).2 - (ws.getD i (0, 0)).1) (ws.getD i (0, 0)).1 = true) → ∀ s', fe (H 147 rd) s s' → (∀ j, j < 16 → s'.E (H 147 rd) j = if (ws.getD i (0, 0)).1 + j < (ws.getD i (0, 0)).2 then nI (vc l ((ws.getD i (0, 0)).1 + j)) else 0) → Q 1 s' kc ks := k1
  generalize hA : (ws.getD i (0, 0)).1 = a at hv k0 k1
  generalize hB : (ws.getD i (0, 0)).2 = b at hv k0 k1
  have al : ∀ {st : cS} {f : Int32 → Prop}, st.K = s.K → f 16 → ob (aL st (H 147 rd)) f := by
    intro st f hK k
    refine ⟨_, gd_to ?_, ?_⟩
    · rw [hK, hsr.2]; decide
    · rw [hK, hsr.2]; exact k
  refine al rfl ?_
  rw [pk_sub (by omega)]
  by_cases c16 : 16 < b - a
  · exact ifT (show nI 16 < nI (b - a) from nI_lt c16 (by omega)) (k0 (fun z => by omega) s fe.rf)
  refine ifF (show ¬ nI 16 < nI (b - a) from nI_nlt (by omega) (by omega)) ?_
  unfold C_Re_takeSecret_b33
  intro P hP
  have loop : ∀ q j st, j + q = 16 → fe (H 147 rd) s st → (∀ m, m < j → st.E (H 147 rd) m = if a + m < b then nI (vc l (a + m)) else 0) → (b - a ≤ 16 ∧ scB (vc l) (b - a) a = true ↔ scB (vc l) (b - a - j) (a + j) = true) → P (nI j) st kc ks := by
    intro q
    induction q with
    | zero =>
      intro j st hj hf he hsc
      have L := h.fe hf
      apply hP
      unfold C_Re_takeSecret_s33
      refine ⟨_, gd_to L.or, _, L.sr.1, al hf.1 (ifF (show ¬ nI j < nI 16 from nI_nlt (by omega) (by omega)) (k1 (hsc.mpr ?_) st hf (fun m hm => he m (by omega))))⟩
      rw [show b - a - j = 0 by omega]
      rfl
    | succ q ih =>
      intro j st hj hf he hsc
      have L := h.fe hf
      obtain ⟨⟨cap, hb⟩, ⟨o1, o2⟩, ⟨p1, p2⟩, -⟩ := L.rc
      have b113 : ∀ v, v < 127 → (scB (vc l) (b - a - (j + 1)) (a + (j + 1)) = true ↔ scB (vc l) (b - a - j) (a + j) = true) → (if a + j < b then nI (vc l (a + j)) else 0) = nI v → C_Re_takeSecret_b113 sa rd (nI i) (nI j) (nI v) st kc ks Q P := by
        intro v hv127 hsc2 ev
        unfold C_Re_takeSecret_b113
        refine ⟨_, gd_to L.or, _, L.sr.1, _, gd_to ⟨by rw [L.sr.2]; decide, by rw [L.sr.2]; decide, by rw [L.sr.2]; rfl, by rw [L.sr.2]; exact vp_in_nI (by omega) (by decide)⟩, ?_⟩
        rw [nI_clamp (by omega), nI_1, by127 v hv127, by127 v hv127]
        refine ih (j + 1) _ (by omega) (hf.tr fe.se) (fun m hm => ?_) (hsc.trans hsc2.symm)
        by_cases em : m = j
        · subst em; rw [cSE_v]; exact ev.symm
        · rw [cSE_i em]; exact he m (by omega)
      apply hP
      unfold C_Re_takeSecret_s33
      refine ⟨_, gd_to L.or, _, L.sr.1, al hf.1 (ifT (show nI j < nI 16 from nI_lt (by omega) (by decide)) (w_ba L.rc hi h24 (w_bb L.rc hi h24 ?_)))⟩
      rw [hA, hB, nI_add]
      have b81 : ∀ u0 : Int32, (a + j < b → u0 = nI (vc l (a + j))) → (¬ a + j < b → u0 = 0) → C_Re_takeSecret_b81 sa rd (nI i) (nI j) u0 st kc ks Q P := by
        intro u0 hu1 hu0
        unfold C_Re_takeSecret_b81
        refine w_ba L.rc hi h24 (w_bb L.rc hi h24 ?_)
        rw [hA, hB, nI_add]
        by_cases cj : a + j < b
        · rw [hu1 cj]
          have hvl := vc_lt l (a + j)
          have es : scB (vc l) (b - a - j) (a + j) = ((decide (33 ≤ vc l (a + j)) && decide (vc l (a + j) ≤ 126)) && scB (vc l) (b - a - (j + 1)) (a + (j + 1))) := by
            rw [show b - a - j = b - a - (j + 1) + 1 by omega]; rfl
          refine ifT (nI_lt cj (by omega)) ?_
          by_cases d1 : vc l (a + j) < 33
          · exact ifT (nI_lt (b := 33) d1 (by decide)) (k0 (fun z => by
              have := hsc.mp z
              rw [es, Bool.and_eq_true, Bool.and_eq_true, decide_eq_true_iff] at this
              omega) st hf)
          refine ifF (nI_nlt (b := 33) (by omega) (by omega)) ?_
          by_cases d2 : 126 < vc l (a + j)
          · exact ifT (nI_lt (a := 126) d2 (by omega)) (k0 (fun z => by
              have := hsc.mp z
              rw [es, Bool.and_eq_true, Bool.and_eq_true, decide_eq_true_iff, decide_eq_true_iff] at this
              omega) st hf)
          refine ifF (nI_nlt (a := 126) (by omega) (by omega)) (b113 _ (by omega) ?_ (if_pos cj))
          rw [es, decide_eq_true (show 33 ≤ vc l (a + j) by omega), decide_eq_true (show vc l (a + j) ≤ 126 by omega)]
          simp
        · rw [hu0 cj]
          refine ifF (nI_nlt (by omega) (by omega)) (b113 0 (by decide) ?_ (if_neg cj))
          rw [show b - a - (j + 1) = 0 by omega, show b - a - j = 0 by omega]
          exact ⟨fun _ => rfl, fun _ => rfl⟩
      by_cases cj : a + j < b
      · refine ifT (nI_lt cj (by omega)) ⟨_, gd_to o1, _, p1, _, gd_to o2, w_ba L.rc hi h24 ⟨_, p2, hb.1, ?_⟩⟩
        rw [hA, nI_add]
        exact w_at hb (by omega) (b81 _ (fun _ => rfl) (fun z => absurd cj z))
      · exact ifF (nI_nlt (by omega) (by omega)) (b81 0 (fun z => absurd z cj) (fun _ => rfl))
  refine loop 16 0 s (by omega) fe.rf (fun m hm => absurd hm (Nat.not_lt_zero _)) ?_
  rw [Nat.sub_zero, Nat.add_zero]
  exact ⟨fun z => z.2, fun z => ⟨by omega, z⟩⟩
theorem m_secret (h : LX G H sa x rd s t l ws) {i : Nat} (hi : i < ws.length) : M_isSecret t (nI i) = some (if sOK l ws i then 1 else 0) := by
  have hn := h.nw
  have hv := h.b hi
  obtain ⟨hw, hu, ⟨h9, h10⟩, -, -⟩ := h.wx
  have e9 : t.I 9 i = nI (ws.getD i (0, 0)).1 := (hw.2 i hi).1
  have e10 : t.I 10 i = nI ((ws.getD i (0, 0)).2 - (ws.getD i (0, 0)).1) := (hw.2 i hi).2
  show _ = some (if (ws.getD i (0, 0)).2 - (ws.getD i (0, 0)).1 ≤ 16 ∧ scB (vc l) ((ws.getD i (0, 0)).2 - (ws.getD i (0, 0)).1) (ws.getD i (0, 0)).1 = true then 1 else 0)
  generalize (ws.getD i (0, 0)).1 = a at hv e9 e10
  generalize (ws.getD i (0, 0)).2 = b at hv e9 e10
  have hl := hu.1
  unfold M_isSecret M_isSecret_b16 M_isSecret_b19
  rw [rdI_n h10 (show i < 2100 by omega) (by decide), e10]
  simp only [Option.bind_some]
  have st : ∀ (g : Int32) j, j < 5000 → M_isSecret_s19 t (nI i) g (nI j) = (if j < b - a then (if g = 0 then xo (okZ g (some g)) else some (.inl (if 33 ≤ vc l (a + j) ∧ vc l (a + j) ≤ 126 then 1 else 0, nI (j + 1)))) else xo (okZ g (some g))) := by
    intro g j hj
    unfold M_isSecret_s19 M_isSecret_b73 M_isSecret_b74
    rw [rdI_n h10 (show i < 2100 by omega) (by decide), e10]
    simp only [Option.bind_some]
    by_cases cj : j < b - a
    · rw [if_pos (nI_lt cj (by omega)), if_pos cj]
      by_cases cg : g = 0
      · rw [if_pos cg, if_pos cg]
      · rw [if_neg cg, if_neg cg, rdI_n h9 (show i < 2100 by omega) (by decide), e9]
        simp only [Option.bind_some]
        have hvl := vc_lt l (a + j)
        rw [nI_add, hu.2.2 (a + j) (by omega), nI_1]
        simp only [Option.bind_some]
        by_cases d1 : vc l (a + j) < 33
        · rw [if_pos (show nI _ < (33 : Int32) from nI_lt (b := 33) d1 (by decide)), if_neg (show ¬ (33 ≤ vc l (a + j) ∧ vc l (a + j) ≤ 126) by omega)]
        · rw [if_neg (show ¬ nI _ < (33 : Int32) from nI_nlt (b := 33) (by omega) (by omega))]
          by_cases d2 : 126 < vc l (a + j)
          · rw [if_pos (show (126 : Int32) < nI _ from nI_lt (a := 126) d2 (by omega)), if_neg (show ¬ (33 ≤ vc l (a + j) ∧ vc l (a + j) ≤ 126) by omega)]
          · rw [if_neg (show ¬ (126 : Int32) < nI _ from nI_nlt (a := 126) (by omega) (by omega)), if_pos (show 33 ≤ vc l (a + j) ∧ vc l (a + j) ≤ 126 by omega)]
    · rw [if_neg (nI_nlt (by omega) (by omega)), if_neg cj]
  have loop : ∀ q j, j + q = b - a → lp (fun y : Int32 × Int32 => M_isSecret_s19 t (nI i) y.1 y.2) (1, nI j) = some (if scB (vc l) q (a + j) = true then 1 else 0) := by
    intro q
    induction q with
    | zero =>
      intro j hj
      refine lp_x ?_
      show M_isSecret_s19 t (nI i) 1 (nI j) = _
      rw [st 1 j (by omega), if_neg (by omega)]
      rfl
    | succ q ih =>
      intro j hj
      have e1 : M_isSecret_s19 t (nI i) 1 (nI j) = some (.inl (if 33 ≤ vc l (a + j) ∧ vc l (a + j) ≤ 126 then 1 else 0, nI (j + 1))) := by
        rw [st 1 j (by omega), if_pos (by omega), if_neg (by decide)]
      rw [lp_l (show (fun y : Int32 × Int32 => M_isSecret_s19 t (nI i) y.1 y.2) (1, nI j) = _ from e1)]
      have es : scB (vc l) (q + 1) (a + j) = ((decide (33 ≤ vc l (a + j)) && decide (vc l (a + j) ≤ 126)) && scB (vc l) q (a + j + 1)) := rfl
      rw [es]
      by_cases d : 33 ≤ vc l (a + j) ∧ vc l (a + j) ≤ 126
      · rw [if_pos d, ih (j + 1) (by omega), decide_eq_true d.1, decide_eq_true d.2]
        rfl
      · rw [if_neg d]
        have : (decide (33 ≤ vc l (a + j)) && decide (vc l (a + j) ≤ 126)) = false := by
          rw [Bool.and_eq_false_iff]
          by_cases d1 : 33 ≤ vc l (a + j)
          · exact Or.inr (decide_eq_false (fun z => d ⟨d1, z⟩))
          · exact Or.inl (decide_eq_false d1)
        rw [this]
        refine lp_x ?_
        show M_isSecret_s19 t (nI i) 0 (nI (j + 1)) = _
        rw [st 0 (j + 1) (by omega)]
        split <;> rfl
  by_cases c16 : 16 < b - a
  · rw [if_pos (show (16 : Int32) < nI _ from nI_lt (a := 16) c16 (by omega)), if_neg (by omega)]
    refine lp_x ?_
    show M_isSecret_s19 t (nI i) 0 (nI 0) = _
    rw [st 0 0 (by decide)]
    split <;> rfl
  · rw [if_neg (show ¬ (16 : Int32) < nI _ from nI_nlt (a := 16) (by omega) (by omega)), show (0 : Int32) = nI 0 from rfl, loop (b - a) 0 (by omega), Nat.add_zero]
    by_cases e : scB (vc l) (b - a) a = true
    · rw [if_pos e, if_pos ⟨by omega, e⟩]
    · rw [if_neg e, if_neg (fun z => e z.2)]; rfl
end Sc
