/-! Lines: redistribute. -/
/-- the model's words alone -/
def WX (t : moS) (l : List Int32) (ws : List (Nat × Nat)) : Prop := mWw t ws ∧ uT t (vc l) l.length ∧ (t.N 9 = 2100 ∧ t.N 10 = 2100) ∧ (∀ i, i < ws.length → (ws.getD i (0, 0)).1 < (ws.getD i (0, 0)).2 ∧ (ws.getD i (0, 0)).2 ≤ l.length) ∧ ws.length ≤ 2100
section Rd
variable {G H : Nat → Nat → Nat} {sa : Nat → Nat} {rd x kc ks : Nat} {s s' : cS} {t t' : moS} {l : List Int32} {ws : List (Nat × Nat)} {W : List Nat}
theorem LX.wx (h : LX G H sa x rd s t l ws) : WX t l ws := ⟨h.2.2.2.2.1, h.2.2.2.2.2, ⟨h.n9.1, h.n9.2.1⟩, fun _ hi => h.b hi, h.nw⟩
theorem WX.mf (h : WX t l ws) (m : mfr W t t') (d : dj [2, 9, 10, 11] W) : WX t' l ws := by
  obtain ⟨hw, hu, ⟨h9, h10⟩, hb, hn⟩ := h
  refine ⟨?_, ⟨hu.1, hu.2.1, fun i hi => ?_⟩, ⟨?_, ?_⟩, hb, hn⟩
  · unfold mWw at hw ⊢
    rw [m.S 11 (d.n 11), m.I 9 (d.n 9), m.I 10 (d.n 10)]
    exact hw
  · have := hu.2.2 i hi
    unfold rdI at this ⊢
    rw [m.I 2 (d.n 2), m.2 2 (Or.inl (d.n 2))]
    exact this
  · rw [m.2 9 (Or.inl (d.n 9))]; exact h9
  · rw [m.2 10 (Or.inl (d.n 10))]; exact h10
theorem WX.code (h : WX t l ws) {i : Nat} (hi : i < ws.length) : M_code t (nI i) = some (wC l ws i) := m_code h.2.1 h.2.2.1.1 h.2.2.1.2 h.1 hi (by have := h.2.2.2.2; omega) rfl (h.2.2.2.1 i hi).1 (h.2.2.2.1 i hi).2
theorem WX.num (h : WX t l ws) {i : Nat} (hi : i < ws.length) : M_number t (nI i) = some (oI (wN l ws i)) := m_number h.2.1 h.2.2.1.1 h.2.2.1.2 h.1 hi (by have := h.2.2.2.2; omega) rfl (h.2.2.2.1 i hi).1 (h.2.2.2.1 i hi).2
/-- a constant word is no number -/
theorem wN_k {i k : Nat} {c : Int64} (e : wC l ws i = c) (hk : kOk k = true ∧ cdL (cT k) = c ∧ 58 ≤ ((cT k).getD 0 0).toNatClampNeg := by decide +kernel) : wN l ws i = none := by
  obtain ⟨h1, h2, hd⟩ := hk
  unfold kOk at h1
  rw [Bool.and_eq_true, Bool.and_eq_true, Bool.and_eq_true, Bool.and_eq_true, Bool.or_eq_true, decide_eq_true_iff, decide_eq_true_iff, decide_eq_true_iff] at h1
  obtain ⟨⟨⟨⟨a1, a2⟩, a3⟩, a4⟩, a5⟩ := h1
  have hiff := cdW_eq (u := vc l) (vc_lt l) (a := (ws.getD i (0, 0)).1) (n := (ws.getD i (0, 0)).2 - (ws.getD i (0, 0)).1) (y := cT k) (a2.elim (fun z => Or.inl (eq_of_beq z)) (fun z => Or.inr (fun c hc => nmB_c (List.all_eq_true.mp z c hc)))) a3 a4
  rw [h2] at hiff
  have hw := hiff.mp e
  unfold wN
  generalize (ws.getD i (0, 0)).1 = a at hw
  generalize (ws.getD i (0, 0)).2 - a = n at hw
  have hlen : n = (cT k).length := by rw [← hw, wU_len]
  have hv := vc_lt l a
  have h0 : nI (vc l a) = (cT k).getD 0 0 := by rw [← hw, wU_get (by omega)]; rfl
  rw [← h0, nI_clamp (by omega)] at hd
  unfold nmb
  cases n with
  | zero => omega
  | succ m =>
    split
    · show (if 48 ≤ vc l a ∧ vc l a ≤ 57 then _ else none) = none
      rw [if_neg (by omega)]
    · rfl
/-- how a router tells its own routes -/
theorem red_rr (h : RR G H sa x s t) (hM : MV t) {r k : Nat} {v w : Int32} (hr : r < cR t) (hk : k < 2) (hv : v = -1 ∨ rng v 0 15) (hw : w = -1 ∨ rng w 0 65535) : RR G H sa x (cSE (cSE s (H 193 (G 1 r)) k (shc v)) (H 194 (G 1 r)) k w) (moSI (moSI t 68 (2 * r + k) v) 69 (2 * r + k) w) ∧ MV (moSI (moSI t 68 (2 * r + k) v) 69 (2 * r + k) w) ∧ fr [121, 122] [] [] s (cSE (cSE s (H 193 (G 1 r)) k (shc v)) (H 194 (G 1 r)) k w) ∧ mfr [68, 69] t (moSI (moSI t 68 (2 * r + k) v) 69 (2 * r + k) w) := by
  have hq := h.q.1
  have hr1 := (hq.rt hr).1.1
  have hk1 := (hq.ty.r hr1 193 121 2).2
  have hk2 := (hq.ty.r hr1 194 122 2).2
  have f : fr [121, 122] [] [] s (cSE (cSE s (H 193 (G 1 r)) k (shc v)) (H 194 (G 1 r)) k w) := (fr.se (by rw [hk1]; decide)).tr (fr.se (by show (s.K _).1 ∈ _; rw [hk2]; decide))
  have m : mfr [68, 69] t (moSI (moSI t 68 (2 * r + k) v) 69 (2 * r + k) w) := (mfr.si (by decide)).tr (mfr.si (by decide))
  have e68 : ∀ i, (moSI (moSI t 68 (2 * r + k) v) 69 (2 * r + k) w).I 68 i = if i = 2 * r + k then v else t.I 68 i := fun i => by rw [moSI_n (by decide), moSI_s]; rfl
  have e69 : ∀ i, (moSI (moSI t 68 (2 * r + k) v) 69 (2 * r + k) w).I 69 i = if i = 2 * r + k then w else t.I 69 i := fun i => by rw [moSI_s, moSI_n (by decide)]; rfl
  have hg : RGl G H sa x (cSE (cSE s (H 193 (G 1 r)) k (shc v)) (H 194 (G 1 r)) k w) := hq.1.v rfl rfl f rfl rfl rfl
  have d12 : ∀ a b n n', s.K a = (121, n) → s.K b = (122, n') → a ≠ b := fun a b n n' e1 e2 e => by rw [e, e2] at e1; exact absurd (show (122 : Nat) = 121 from congrArg Prod.fst e1) (by decide)
  refine ⟨rr_rt h hM hg f.wk (fun _ _ => rfl) (m.wk (by decide)) fun r' hr' => ?_, hM.ro (m.wk (by decide)) (fun r' hr' => ?_) (fun r' hr' h6 => ?_), f, m⟩
  · obtain ⟨i1, i2, i3, i4, i5, i6, i7⟩ := hq.2.2.2.2.2.1 r' hr'
    have hr1' := i1.1.1
    refine ⟨i1.fr hq.ty hq.1.1 f hg.2.2.1 m rfl rfl rfl rfl, ?_⟩
    have hv8 := hM.r hr'
    have h8 : (t.I 59 r').toNatClampNeg ≤ 8 ∧ (t.I 63 r').toNatClampNeg ≤ 8 := ⟨hv8.2.2.2.2.2.2.1.1.n.2.2, hv8.2.2.2.2.2.2.2.1.1.n.2.2⟩
    obtain ⟨a, b, c, d, e⟩ := i6
    refine ⟨?_, b, fun j hj => ?_, fun j hj => ?_, fun j hj => ?_⟩
    · rw [m.I 59 (by decide), m.I 63 (by decide)]; exact a
    · rw [m.I 59 (by decide)] at hj
      rw [(f.v (a := G 9 (8 * r' + j)) (u := 100) (by rw [(b j (by omega)).2.1]) (by decide)).2.2, m.I 60 (by decide), m.I 61 (by decide), m.I 62 (by decide)]
      exact c j hj
    · rw [m.I 63 (by decide)] at hj
      rw [(f.v (a := G 10 (8 * r' + j)) (u := 128) (by rw [(b j (by omega)).2.2.2]) (by decide)).2.2, m.I 64 (by decide), m.I 65 (by decide), m.I 66 (by decide), m.I 67 (by decide)]
      exact d j hj
    · have k1' := (hq.ty.r hr1' 193 121 2).2
      have k2' := (hq.ty.r hr1' 194 122 2).2
      rw [e68, e69]
      by_cases er : r' = r
      · subst er
        by_cases ej : j = k
        · subst ej
          rw [if_pos rfl, if_pos rfl]
          exact ⟨by rw [cSE_a (d12 _ _ _ _ k1' k2'), cSE_v], cSE_v⟩
        · rw [if_neg (by omega), if_neg (by omega)]
          rw [cSE_a (d12 _ _ _ _ k1' k2'), cSE_i ej, cSE_i ej, cSE_a (fun z => d12 _ _ _ _ k1' k2' z.symm)]
          exact e j hj
      · have n1 : H 193 (G 1 r') ≠ H 193 (G 1 r) := fun z => er (hq.2.1.2.1 r' r hr' hr (hq.ty.i hr1' hr1 193 (by decide) z))
        have n2 : H 194 (G 1 r') ≠ H 194 (G 1 r) := fun z => er (hq.2.1.2.1 r' r hr' hr (hq.ty.i hr1' hr1 194 (by decide) z))
        rw [if_neg (by omega), if_neg (by omega), cSE_a (d12 _ _ _ _ k1' hk2), cSE_a n1, cSE_a n2, cSE_a (fun z => d12 _ _ _ _ hk1 k2' z.symm)]
        exact e j hj
  · obtain ⟨a1, a2, a3, a4, a5, a6, a7, a8, a9, a10⟩ := id (hM.r hr')
    refine (hM.r hr').ro (m.wk (by decide)) ?_ ?_ ?_ ?_
    · rw [m.I 40 (by decide), m.I 41 (by decide), m.I 42 (by decide)]; exact a3
    · rw [m.I 59 (by decide), m.I 60 (by decide), m.I 61 (by decide), m.I 62 (by decide)]; exact a7
    · rw [m.I 63 (by decide), m.I 64 (by decide), m.I 65 (by decide), m.I 66 (by decide), m.I 67 (by decide)]; exact a8
    · intro j hj
      rw [e68, e69]
      by_cases ej : 2 * r' + j = 2 * r + k
      · rw [if_pos ej, if_pos ej]; exact ⟨hv, hw⟩
      · rw [if_neg ej, if_neg ej]; exact a9 j hj
  · rw [m.I 59 (by decide), m.I 63 (by decide)]
    obtain ⟨⟨w1, w2, w3, w4, w5, w6, w7⟩, w8⟩ := hM.2.2.2.2.2.2.2.1 r' hr' h6
    exact ⟨w4, w5⟩
theorem own_tag : M_own 32047 = 1 := by
  unfold M_own M_own_b34
  rw [if_neg (by decide), if_neg (by decide), if_neg (by decide), if_neg (by decide)]
/-- one option: what the model finds -/
theorem m_tag (h : LX G H sa x rd s t l ws) {f : Nat} (hf : f ≤ ws.length) : M_areOptions t (nI f) 32047 0 0 0 0 0 = some (if ws.length = f ∨ ws.length = f + 2 ∧ wC l ws f = 32047 then 1 else 0) := by
  have := m_are2 h (f := f) 32047 0 hf ⟨by decide, by decide, own_tag, Or.inl rfl⟩
  rw [if_pos rfl] at this
  exact this
theorem m_tag4 (h : LX G H sa x rd s t l ws) {f : Nat} (hf : ws.length = f) : M_option t 32047 (nI f) = some 0 := by
  have hn := h.nw
  unfold M_option M_option_b3
  exact lp_x ((m_opt h (fun y => M_option_s3 t 32047 y) (f := f) (i := f) rfl (by omega)).1 (by omega))
theorem m_tag6 (h : LX G H sa x rd s t l ws) {f : Nat} (hf : ws.length = f + 2) (hc : wC l ws f = 32047) : M_option t 32047 (nI f) = some (nI (f + 1)) := by
  have hn := h.nw
  unfold M_option M_option_b3
  exact lp_x ((m_opt h (fun y => M_option_s3 t 32047 y) (f := f) (i := f) rfl (by omega)).2.1 (by omega) hc)
end Rd
