/-! The model's wrap. -/
abbrev Wwr : List Nat := [89, 147, 148, 157, 158, 159, 160]
/-- the model's out is being written -/
def WF (W : List Nat) (t0 t : moS) (n : Nat) (f : Nat → Int32) : Prop := mfr W t0 t ∧ t.S 148 = nI n ∧ t.N 147 = 700 ∧ ∀ i, i < 700 → t.I 147 i = f i
section Wr
variable {t0 t : moS} {n q : Nat} {f : Nat → Int32} {V : chV} {E : List Int32}
theorem wf_w {i : Nat} {v : Int32} (h : WF [147, 148] t0 t n f) (hi : i < 700) : ∃ t', wrI t 147 (nI i) v = some t' ∧ WF [147, 148] t0 t' n (upd f i v) := by
  obtain ⟨h1, h2, h3, h4⟩ := h
  refine ⟨_, wrI_n (n := 700) h3 hi (by decide), h1.tr (mfr.si (by decide)), h2, h3, fun j hj => ?_⟩
  rw [moSI_s]
  by_cases c : j = i
  · rw [c, upd_s, upd_s]
  · rw [upd_n c, upd_n c]; exact h4 j hj
theorem wf_2 {i : Nat} {v : Int32} (h : WF [147, 148] t0 t n f) (hi : i + 1 < 700) : ∃ t', M_put2 t 147 (nI i) v = some t' ∧ WF [147, 148] t0 t' n (p2F f i v) := by
  obtain ⟨t1, e1, w1⟩ := wf_w (v := (v >>> ((8 : Int32) &&& 31)) &&& 255) h (show i < 700 by omega)
  obtain ⟨t2, e2, w2⟩ := wf_w (v := v &&& 255) w1 hi
  refine ⟨t2, ?_, w2⟩
  unfold M_put2
  rw [e1]
  show Option.bind (wrI t1 147 (nI i + 1) (v &&& 255)) _ = _
  rw [nI_1, e2]; rfl
theorem wf_4 {i : Nat} {v : Int32} (h : WF [147, 148] t0 t n f) (hi : i + 3 < 700) : ∃ t', M_put4 t 147 (nI i) v = some t' ∧ WF [147, 148] t0 t' n (p4F f i v) := by
  obtain ⟨t1, e1, w1⟩ := wf_2 (v := v >>> ((16 : Int32) &&& 31)) h (show i + 1 < 700 by omega)
  obtain ⟨t2, e2, w2⟩ := wf_2 (i := i + 2) (v := v) w1 (by omega)
  refine ⟨t2, ?_, w2⟩
  unfold M_put4
  rw [e1]
  show Option.bind (M_put2 t1 147 (nI i + 2) v) _ = _
  rw [show nI i + 2 = nI (i + 2) from nI_add _ 2, e2]; rfl
theorem wf_n {m : Nat} (h : WF [147, 148] t0 t n f) : WF [147, 148] t0 (moSS t 148 (nI m)) m f := ⟨h.1.tr (mfr.ss (by decide)), moSS_s, h.2.2.1, h.2.2.2⟩
theorem wf_e {g : Nat → Int32} (h : WF [147, 148] t0 t n f) (e : ∀ i, i < 700 → f i = g i) : WF [147, 148] t0 t n g := ⟨h.1, h.2.1, h.2.2.1, fun i hi => (h.2.2.2 i hi).trans (e i hi)⟩
theorem nI_all (v : Int32) : ∃ n, v = nI n := ⟨v.toBitVec.toNat, Int32.toBitVec_inj.mp (by show v.toBitVec = BitVec.ofNat 32 v.toBitVec.toNat; rw [BitVec.ofNat_toNat, BitVec.setWidth_eq])⟩
/-- all is 0 at the beginning -/
theorem wf_0 {p1 p2 p3 p4 : Int32} (hN : t.N 147 = 700) : ∃ t' n, WF [147, 148] t t' n (fun _ => 0) ∧ M_wrap t p1 p2 p3 p4 = Option.bind (wrI t' 147 0 p3) (fun s1 => if p2 = 0 then M_wrap_b46 s1 p1 p2 p4 1 2 else M_wrap_b46 s1 p1 p2 p4 1 1) := by
  obtain ⟨n, hn⟩ := nI_all (t.S 148)
  have loop : ∀ m j, j + m = 700 → ∀ t1, mfr [147, 148] t t1 → t1.S 148 = nI n → (∀ i, i < j → t1.I 147 i = 0) → ∃ t', WF [147, 148] t t' n (fun _ => 0) ∧ lp (fun x : Int32 × moS => M_wrap_s3 x.2 p1 p2 p3 p4 x.1) (nI j, t1) = Option.bind (wrI t' 147 0 p3) (fun s1 => if p2 = 0 then M_wrap_b46 s1 p1 p2 p4 1 2 else M_wrap_b46 s1 p1 p2 p4 1 1) := by
    intro m
    induction m with
    | zero =>
      intro j hj t1 m1 h1 hz
      have hj : j = 700 := by omega
      subst hj
      refine ⟨t1, ⟨m1, h1, (m1.2 147 (Or.inr (by decide))).trans hN, hz⟩, lp_x ?_⟩
      show M_wrap_s3 t1 p1 p2 p3 p4 (nI 700) = _
      unfold M_wrap_s3
      rw [if_neg (by decide)]
    | succ m ih =>
      intro j hj t1 m1 h1 hz
      have n7 : t1.N 147 = 700 := (m1.2 147 (Or.inr (by decide))).trans hN
      have st : M_wrap_s3 t1 p1 p2 p3 p4 (nI j) = some (.inl (nI (j + 1), moSI t1 147 j 0)) := by
        unfold M_wrap_s3
        rw [if_pos (show nI j < 700 from nI_lt (b := 700) (by omega) (by decide)), nI_1]
        exact (sw_I n7 (by omega) (by decide)).trans rfl
      obtain ⟨t', w, e⟩ := ih (j + 1) (by omega) (moSI t1 147 j 0) (m1.tr (mfr.si (by decide))) h1 fun i hi => by
        rw [moSI_s]
        by_cases c : i = j
        · rw [c, upd_s]
        · rw [upd_n c]; exact hz i (by omega)
      refine ⟨t', w, ?_⟩
      rw [lp_l (show (fun x : Int32 × moS => M_wrap_s3 x.2 p1 p2 p3 p4 x.1) (nI j, t1) = _ from st)]
      exact e
  obtain ⟨t', w, e⟩ := loop 700 0 (by omega) t mfr.rf hn (fun i hi => absurd hi (Nat.not_lt_zero i))
  exact ⟨t', n, w, e⟩
/-- the entries come behind -/
theorem wf_E {m : Nat} {p1 a5 a6 : Int32} (h : WF [147, 148] t0 t n f) (hN : t0.N 146 = 700) (hm : E.length = 20 * m) (h5 : E.length ≤ 560) (hE : ∀ i, i < E.length → t0.I 146 i = E.getD i 0) (hn : n + E.length ≤ 700) : ∃ t', WF [147, 148] t0 t' (n + E.length) (cpF f n E) ∧ M_wrap_b191 t p1 (nI m) a5 a6 = if a5 < 2 then some (1, t') else Option.bind (rdI t' 84 a6) (fun x2 => if x2 = 0 then M_wrap_b268 t' p1 a6 16 else M_wrap_b268 t' p1 a6 20) := by
  have e20 : (20 : Int32) * nI m = nI E.length := by rw [show (20 : Int32) = nI 20 from rfl, pk_mul, hm]
  have loop : ∀ k j, j + k = E.length → ∀ t1, WF [147, 148] t0 t1 n (fun i => if n ≤ i ∧ i < n + j then E.getD (i - n) 0 else f i) → ∃ t', WF [147, 148] t0 t' (n + E.length) (cpF f n E) ∧ lp (fun x : Int32 × moS => M_wrap_s194 x.2 p1 (nI m) a5 a6 x.1) (nI j, t1) = if a5 < 2 then some (1, t') else Option.bind (rdI t' 84 a6) (fun x2 => if x2 = 0 then M_wrap_b268 t' p1 a6 16 else M_wrap_b268 t' p1 a6 20) := by
    intro k
    induction k with
    | zero =>
      intro j hj t1 w1
      have hj : j = E.length := by omega
      subst hj
      refine ⟨_, wf_n w1, lp_x ?_⟩
      show M_wrap_s194 t1 p1 (nI m) a5 a6 (nI E.length) = _
      unfold M_wrap_s194
      rw [e20, if_neg (nI_nlt (Nat.le_refl _) (by omega)), w1.2.1, nI_add]
      rfl
    | succ k ih =>
      intro j hj t1 w1
      have n6 : t1.N 146 = 700 := (w1.1.2 146 (Or.inl (by decide))).trans hN
      obtain ⟨t2, e2, w2⟩ := wf_w (v := E.getD j 0) w1 (show n + j < 700 by omega)
      have st : M_wrap_s194 t1 p1 (nI m) a5 a6 (nI j) = some (.inl (nI (j + 1), t2)) := by
        unfold M_wrap_s194
        rw [e20, if_pos (nI_lt (by omega) (by omega)), nI_1]
        refine (sr_I n6 (by omega) (by decide)).trans ?_
        rw [w1.1.I 146 (by decide), hE j (by omega), w1.2.1, nI_add, e2]
        rfl
      obtain ⟨t', w, e⟩ := ih (j + 1) (by omega) t2 (wf_e w2 fun i hi => by
        by_cases c : i = n + j
        · rw [c, upd_s]
          show _ = if n ≤ n + j ∧ n + j < n + (j + 1) then E.getD (n + j - n) 0 else f (n + j)
          rw [if_pos (by omega), Nat.add_sub_cancel_left]
        · rw [upd_n c]
          show (if n ≤ i ∧ i < n + j then E.getD (i - n) 0 else f i) = if n ≤ i ∧ i < n + (j + 1) then E.getD (i - n) 0 else f i
          by_cases c2 : n ≤ i ∧ i < n + j
          · rw [if_pos c2, if_pos (by omega)]
          · rw [if_neg c2, if_neg (by omega)])
      refine ⟨t', w, ?_⟩
      rw [lp_l (show (fun x : Int32 × moS => M_wrap_s194 x.2 p1 (nI m) a5 a6 x.1) (nI j, t1) = _ from st)]
      exact e
  obtain ⟨t', w, e⟩ := loop E.length 0 (by omega) t (wf_e h fun i hi => (if_neg (by omega)).symm)
  exact ⟨t', w, e⟩
theorem n146 (h : mN t) : t.N 146 = 700 := h.n 146 700
theorem n147 (h : mN t) : t.N 147 = 700 := h.n 147 700
end Wr
