/-! Words of the reader, compared. -/
theorem wdS_ok (u : Nat → Nat) : ∀ k i cur, (∀ b, cur = some b → b < i) → ∀ p, p ∈ wdS u k i cur → p.1 < p.2 ∧ p.2 ≤ i + k
  | 0, i, none, _, p, h => by cases h
  | 0, i, some b, hc, p, h => by
    have := hc b rfl
    rw [List.mem_singleton.mp h]
    exact ⟨this, Nat.le_refl _⟩
  | k + 1, i, none, hc, p, h => by
    have h : p ∈ (@ite _ (blk (u i)) (isBlk _) (wdS u k (i + 1) none) (wdS u k (i + 1) (some i))) := h
    split at h
    · have := wdS_ok u k (i + 1) none (fun b h => by cases h) p h
      exact ⟨this.1, by omega⟩
    · have := wdS_ok u k (i + 1) (some i) (fun b h => by cases h; omega) p h
      exact ⟨this.1, by omega⟩
  | k + 1, i, some b, hc, p, h => by
    have hb := hc b rfl
    have h : p ∈ (@ite _ (blk (u i)) (isBlk _) ((b, i) :: wdS u k (i + 1) none) (wdS u k (i + 1) (some b))) := h
    split at h
    · rcases List.mem_cons.mp h with h | h
      · rw [h]; exact ⟨hb, by show i ≤ i + (k + 1); omega⟩
      · have := wdS_ok u k (i + 1) none (fun b h => by cases h) p h
        exact ⟨this.1, by omega⟩
    · have := wdS_ok u k (i + 1) (some b) (fun b' h => by cases h; omega) p h
      exact ⟨this.1, by omega⟩
/-- the reader over its tape and words -/
def RdC (H : Nat → Nat → Nat) (x rd : Nat) (s : cS) (l : List Int32) (ws : List (Nat × Nat)) : Prop := (∃ cap, BL s (H 220 x) 101 l cap) ∧ (okO s 7 rd ∧ okO s 11 x) ∧ (s.P 140 rd = some x ∧ s.P 220 x = some (H 220 x)) ∧ (s.P 141 rd = some (H 141 rd) ∧ s.K (H 141 rd) = (107, 24)) ∧ (s.P 142 rd = some (H 142 rd) ∧ s.K (H 142 rd) = (108, 24)) ∧ RWw H s rd ws ∧ (∀ j, j < ws.length → (ws.getD j (0, 0)).1 < (ws.getD j (0, 0)).2 ∧ (ws.getD j (0, 0)).2 ≤ l.length) ∧ ws.length ≤ 2100
section Is
variable {H : Nat → Nat → Nat} {sa : Nat → Nat} {rd x kc ks : Nat} {s : cS} {l : List Int32} {ws : List (Nat × Nat)} {Q : Int32 → cS → Nat → Nat → Prop}
theorem w_isWord (h : RdC H x rd s l ws) {i : Nat} (hi : i < 2 ^ 31) (k1 : i < ws.length → i < 24 → Q 1 s kc ks) (k0 : ¬ (i < ws.length ∧ i < 24) → Q 0 s kc ks) : C_Re_isWord sa rd (nI i) s kc ks Q := by
  obtain ⟨-, ⟨o1, -⟩, -, -, -, ⟨w1, -⟩, -, w4⟩ := h
  unfold C_Re_isWord
  refine ifF (nI_pos hi) ⟨_, gd_to o1, ?_⟩
  rw [show s.I (20 * 7 + 3) rd = nI ws.length from w1]
  by_cases c1 : i < ws.length
  · refine ifT (nI_lt c1 (by omega)) ?_
    by_cases c2 : i < 24
    · exact ifT (nI_lt (b := 24) c2 (by omega)) (k1 c1 c2)
    · exact ifF (nI_nlt (b := 24) (by omega) hi) (k0 (by omega))
  · exact ifF (nI_nlt (by omega) hi) (k0 (by omega))
/-- where word i begins, and where it ends -/
theorem w_ba (h : RdC H x rd s l ws) {i : Nat} (hi : i < ws.length) (h24 : i < 24) {f : Int32 → Prop} (k : f (nI (ws.getD i (0, 0)).1)) : ob (gP s 7 1 rd) (fun v => ob v fun b => ob (rE s .int b (nI i)) f) := by
  obtain ⟨-, ⟨o1, -⟩, -, ⟨a1, a2⟩, -, ⟨-, w2⟩, -⟩ := h
  refine ⟨_, gd_to o1, _, a1, _, gd_to ⟨by rw [a2]; decide, by rw [a2]; decide, by rw [a2]; rfl, by rw [a2]; exact vp_in_nI h24 (by decide)⟩, ?_⟩
  rw [nI_clamp (by omega), (w2 i hi h24).1]; exact k
theorem w_bb (h : RdC H x rd s l ws) {i : Nat} (hi : i < ws.length) (h24 : i < 24) {f : Int32 → Prop} (k : f (nI (ws.getD i (0, 0)).2)) : ob (gP s 7 2 rd) (fun v => ob v fun b => ob (rE s .int b (nI i)) f) := by
  obtain ⟨-, ⟨o1, -⟩, -, -, ⟨a1, a2⟩, ⟨-, w2⟩, -⟩ := h
  refine ⟨_, gd_to o1, _, a1, _, gd_to ⟨by rw [a2]; decide, by rw [a2]; decide, by rw [a2]; rfl, by rw [a2]; exact vp_in_nI h24 (by decide)⟩, ?_⟩
  rw [nI_clamp (by omega), (w2 i hi h24).2]; exact k
/-- the tape, through the reader -/
theorem w_tp (h : RdC H x rd s l ws) {f : Nat → Prop} (k : f (H 220 x)) : ob (gP s 7 0 rd) (fun v => ob v fun b => ob (gP s 11 0 b) fun v => ob v f) := by
  obtain ⟨-, ⟨o1, o2⟩, ⟨p1, p2⟩, -⟩ := h
  exact ⟨_, gd_to o1, _, p1, _, gd_to o2, _, p2, k⟩
theorem wU_len (u : Nat → Nat) (a n : Nat) : (wU u a n).length = n := tl_len _ _
theorem wU_get {u : Nat → Nat} {a n i : Nat} (h : i < n) : (wU u a n).getD i 0 = nI (u (a + i)) := tl_get h
theorem w_is (h : RdC H x rd s l ws) {i p : Nat} {y : List Int32} (hi : i < 2 ^ 31) (hy : isTx sa s p y) (hy2 : ∀ j, j < y.length → y.getD j 0 &&& 255 = y.getD j 0) (hyl : y.length ≤ 1000) (k1 : i < ws.length → i < 24 → wU (vc l) (ws.getD i (0, 0)).1 ((ws.getD i (0, 0)).2 - (ws.getD i (0, 0)).1) = y → Q 1 s kc ks) (k0 : ¬ (i < ws.length ∧ i < 24 ∧ wU (vc l) (ws.getD i (0, 0)).1 ((ws.getD i (0, 0)).2 - (ws.getD i (0, 0)).1) = y) → Q 0 s kc ks) : C_Re_is sa rd (nI i) (some p) s kc ks Q := by
  unfold C_Re_is
  refine ⟨h.2.1.1, w_isWord h hi (fun c1 c2 => ?_) (fun c => ifT rfl (k0 (fun z => c ⟨z.1, z.2.1⟩)))⟩
  obtain ⟨⟨cap, hb⟩, -, -, -, -, -, hv, -⟩ := id h
  have hs := hb.sm
  obtain ⟨v1, v2⟩ := hv i c1
  refine ifF (by decide) ?_
  refine w_bb h c1 c2 (w_ba h c1 c2 ⟨_, rfl, y, hy, ?_⟩)
  generalize hA : (ws.getD i (0, 0)).1 = a at v1 k1 k0
  generalize hB : (ws.getD i (0, 0)).2 = b at v1 v2 k1 k0
  rw [pk_sub (by omega)]
  by_cases cl : b - a = y.length
  · refine ifT (by rw [cl]) ?_
    unfold C_Re_is_b32
    intro P hP
    have loop : ∀ q j, j + q = y.length → (∀ m, m < j → nI (vc l (a + m)) = y.getD m 0) → P (nI j) s kc ks := by
      intro q
      induction q with
      | zero =>
        intro j hj he
        apply hP
        unfold C_Re_is_s32
        refine ⟨_, rfl, y, hy, ifF (nI_nlt (by omega) (by omega)) (k1 c1 c2 ?_)⟩
        rw [cl]
        refine (tl_of rfl (fun m hm => ?_)).symm
        exact (he m (by omega)).symm
      | succ q ih =>
        intro j hj he
        apply hP
        unfold C_Re_is_s32
        obtain ⟨-, ⟨o1, o2⟩, ⟨p1, p2⟩, -⟩ := id h
        refine ⟨_, rfl, y, hy, ifT (nI_lt (by omega) (by omega)) ⟨_, gd_to o1, _, p1, _, gd_to o2, w_ba h c1 c2 ⟨_, p2, hb.1, ?_⟩⟩⟩
        rw [hA, nI_add]
        refine w_at hb (by omega) ⟨y, j, hy, rfl, by omega, ?_⟩
        rw [hy2 j (by omega)]
        by_cases ce : nI (vc l (a + j)) = y.getD j 0
        · refine ifT ce ?_
          rw [nI_1]
          refine ih (j + 1) (by omega) (fun m hm => ?_)
          by_cases em : m = j
          · rw [em]; exact ce
          · exact he m (by omega)
        · refine ifF ce (k0 (fun z => ce ?_))
          rw [← z.2.2, wU_get (by omega)]
    exact loop y.length 0 (by omega) (fun m hm => absurd hm (Nat.not_lt_zero _))
  · refine ifF (fun z => cl ((nI_eq (by omega) (by omega)).mp z)) (k0 (fun z => cl ?_))
    rw [← z.2.2, wU_len]
end Is
