/-! A route dies, or lapses, on both sides: what class and model come to. -/
/-- a deadline is set -/
noncomputable def dlS (s : cS) (rr a : Nat) (v : Int32) : cS := if v < s.I 199 rr then cSI (cSI s 170 a v) 199 rr v else cSI s 170 a v
noncomputable def dieS (s : cS) (rr tm cnt x a : Nat) : cS := mkS (dlS (cSI s 164 a 16) rr a (s.I 225 x + s.E tm 2)) rr cnt x a
noncomputable def dieM (t : moS) (r k : Nat) : moS := mkM (moSI (moSI t 111 k 16) 122 k (t.S 1 + t.I 42 r)) r k
def lpS (s : cS) (a : Nat) : cS := cSP (cSI (cSI s 163 a 2) 165 a 0) 166 a none
def foM (t : moS) (k : Nat) : moS := moSI (moSI (moSI (moSI t 110 k 2) 112 k 0) 113 k (-1)) 116 k (-1)
section Di
variable {G H : Nat → Nat → Nat} {sa : Nat → Nat} {x kc ks a r w k rr cnt tm : Nat} {s : cS} {t : moS} {v : Int32}
theorem w_deadline {Qk : cS → Nat → Nat → Prop} (ho : okO s 9 rr) (ha : okO s 8 a) (hx : okO s 11 x) (h3 : s.P 180 rr = some x) (hra : rr ≠ a) (kk : Qk (dlS s rr a (s.I 225 x + v)) kc ks) : C_Rr_startDeadline sa rr (some a) v s kc ks Qk := by
  unfold C_Rr_startDeadline
  unfold dlS at kk
  refine ⟨_, gd_to ho, x, h3, _, gd_to hx, a, rfl, _, gd_to ha, _, gd_to (show okO _ 8 a from ha), _, gd_to (show okO _ 9 rr from ho), ?_⟩
  have e1 : (cSI s (20 * 8 + 10) a (s.I (20 * 11 + 5) x + v)).I (20 * 8 + 10) a = s.I 225 x + v := cSI_s
  have e2 : (cSI s (20 * 8 + 10) a (s.I (20 * 11 + 5) x + v)).I (20 * 9 + 19) rr = s.I 199 rr := cSI_g (by decide)
  rw [e1, e2]
  by_cases c : s.I 225 x + v < s.I 199 rr
  · rw [if_pos c] at kk
    exact ifT c ⟨_, gd_to (show okO _ 8 a from ha), _, gd_to (show okO _ 9 rr from ho), by rw [e1]; exact kk⟩
  · rw [if_neg c] at kk
    exact ifF c kk
theorem dlS_k : (dlS s rr a v).K = s.K ∧ (dlS s rr a v).P = s.P ∧ (dlS s rr a v).E = s.E ∧ (dlS s rr a v).Q = s.Q ∧ (dlS s rr a v).J = s.J := by
  unfold dlS
  split <;> exact ⟨rfl, rfl, rfl, rfl, rfl⟩
theorem w_die {Qk : cS → Nat → Nat → Prop} (ho : okO s 9 rr) (ha : okO s 8 a) (hx : okO s 11 x) (h1 : s.P 196 rr = some cnt) (h2 : s.K cnt = (104, 11)) (h3 : s.P 180 rr = some x) (h4 : s.P 195 rr = some tm) (h5 : s.K tm = (123, 3)) (hra : rr ≠ a) (k0 : ¬ s.I 164 a < 16 → Qk s kc ks) (k1 : s.I 164 a < 16 → Qk (dieS s rr tm cnt x a) kc ks) : C_Rr_die sa rr (some a) s kc ks Qk := by
  unfold C_Rr_die
  refine ⟨a, rfl, _, gd_to ha, ?_⟩
  by_cases c : s.I 164 a < 16
  · refine ifT c ⟨_, gd_to ha, _, gd_to (show okO _ 9 rr from ho), tm, h4, _, gd_to ⟨by show 100 ≤ (s.K tm).1; rw [h5]; decide, by show (s.K tm).1 < 130; rw [h5]; decide, by show cAT (s.K tm).1 = _; rw [h5]; decide, by show vp_in _ (s.K tm).2; rw [h5]; exact vp_in_nI (n := 2) (N := 3) (by decide) (by decide)⟩, show okO _ 9 rr from ho, w_deadline (show okO _ 9 rr from ho) (show okO _ 8 a from ha) (show okO _ 11 x from hx) h3 hra ?_⟩
    have e225 : (cSI s (20 * 8 + 4) a 16).I 225 x = s.I 225 x := cSI_g (by decide)
    obtain ⟨d1, d2, -⟩ := dlS_k (s := cSI s (20 * 8 + 4) a 16) (rr := rr) (a := a) (v := (cSI s (20 * 8 + 4) a 16).I 225 x + (cSI s (20 * 8 + 4) a 16).E tm (Int32.toNatClampNeg 2))
    have ok : ∀ c b, okO s c b → okO (dlS (cSI s (20 * 8 + 4) a 16) rr a ((cSI s (20 * 8 + 4) a 16).I 225 x + (cSI s (20 * 8 + 4) a 16).E tm (Int32.toNatClampNeg 2))) c b := fun c b h => by
      unfold okO at h ⊢
      rw [d1]; exact h
    refine ⟨ok 9 rr ho, w_mark (ok 9 rr ho) (ok 8 a ha) (ok 11 x hx) (cnt := cnt) (by rw [d2]; exact h1) (by rw [d1]; exact h2) (by rw [d2]; exact h3) ?_⟩
    rw [e225]
    exact k1 c
  · exact ifF c (k0 c)
theorem dieM_e (hN : ∀ k, k ∈ fRA → t.N k = 16200) (N45 : t.N 45 = 66) (N44 : t.N 44 = 6) (N42 : t.N 42 = 6) (hr : r < 6) (hk : k < 16200) (h16 : t.I 111 k ≠ 16) : M_die t (nI r) (nI k) = some (dieM t r k) := by
  unfold M_die
  refine (sr_I (n := 16200) (hN 111 (by decide)) hk (by decide)).trans ?_
  rw [if_neg h16]
  refine (sw_I (n := 16200) (by exact hN 111 (by decide)) hk (by decide)).trans ?_
  refine (sr_I (n := 6) (by exact N42) hr (by decide)).trans ?_
  refine (sw_I (n := 16200) (by exact hN 122 (by decide)) hk (by decide)).trans ?_
  rw [mkM_e (t := moSI (moSI t 111 k 16) 122 k ((moSI t 111 k 16).S 1 + (moSI t 111 k 16).I 42 r)) (hN 119 (by decide)) N45 N44 hr hk, moSI_n (by decide)]
  rfl
theorem foM_e (hN : ∀ k, k ∈ fRA → t.N k = 16200) (N45 : t.N 45 = 66) (N44 : t.N 44 = 6) (N42 : t.N 42 = 6) (hr : r < 6) (hk : k < 16200) (h16 : t.I 111 k ≠ 16) : M_forsake t (nI r) (nI k) = some (dieM (foM t k) r k) := by
  unfold M_forsake
  refine (sw_I (n := 16200) (by exact hN 110 (by decide)) hk (by decide)).trans ?_
  refine (sw_I (n := 16200) (by exact hN 112 (by decide)) hk (by decide)).trans ?_
  refine (sw_I (n := 16200) (by exact hN 113 (by decide)) hk (by decide)).trans ?_
  refine (sw_I (n := 16200) (by exact hN 116 (by decide)) hk (by decide)).trans ?_
  rw [dieM_e (t := moSI (moSI (moSI (moSI t 110 k 2) 112 k 0) 113 k (-1)) 116 k (-1)) hN N45 N44 N42 hr hk (by
    rw [moSI_n (by decide), moSI_n (by decide), moSI_n (by decide), moSI_n (by decide)]; exact h16)]
  rfl
theorem w_lapse {Qk : cS → Nat → Nat → Prop} (ho : okO s 9 rr) (ha : okO s 8 a) (hx : okO s 11 x) (h1 : s.P 196 rr = some cnt) (h2 : s.K cnt = (104, 11)) (h3 : s.P 180 rr = some x) (h4 : s.P 195 rr = some tm) (h5 : s.K tm = (123, 3)) (hra : rr ≠ a) (hm : s.I 163 a ≠ 2 → s.I 164 a < 16) (k0 : s.I 163 a = 2 → Qk s kc ks) (k1 : s.I 163 a ≠ 2 → Qk (dieS (lpS s a) rr tm cnt x a) kc ks) : C_Rr_lapse sa rr (some a) s kc ks Qk := by
  unfold C_Rr_lapse
  refine ifF (by simp) ⟨a, rfl, _, gd_to ha, ?_⟩
  by_cases c : s.I 163 a = 2
  · exact ifT c (k0 c)
  · refine ifF c ⟨_, gd_to ha, _, gd_to (show okO _ 8 a from ha), _, gd_to (show okO _ 8 a from ha), show okO _ 9 rr from ho, ?_⟩
    have e : (cSP (cSI (cSI s (20 * 8 + 3) a 2) (20 * 8 + 5) a 0) (20 * 8 + 6) a none).I 164 a = s.I 164 a := by
      show (cSI (cSI s (20 * 8 + 3) a 2) (20 * 8 + 5) a 0).I 164 a = _
      rw [cSI_g (by decide), cSI_g (by decide)]
    have p : ∀ g, g ≠ 166 → (cSP (cSI (cSI s (20 * 8 + 3) a 2) (20 * 8 + 5) a 0) (20 * 8 + 6) a none).P g rr = s.P g rr := fun g hg => cSP_g hg
    refine w_die (show okO _ 9 rr from ho) (show okO _ 8 a from ha) (show okO _ 11 x from hx) (by rw [p 196 (by decide)]; exact h1) h2 (by rw [p 180 (by decide)]; exact h3) (by rw [p 195 (by decide)]; exact h4) h5 hra (fun z => absurd (by rw [e]; exact hm c) z) fun _ => k1 c
theorem rwC.dl (hr : rr = G 1 r) : rwC G H r a w s (dlS s rr a v) := by
  have a' : a = H 186 (G 1 r) ∨ a = a ∨ a = H 160 a ∨ a = H 161 a ∨ a = H 162 a ∨ a = G 1 r ∨ (s.K a).1 = 18 := Or.inr (Or.inl rfl)
  unfold dlS
  split
  · exact (rwC.i a').tr (rwC.i (Or.inr (Or.inr (Or.inr (Or.inr (Or.inr (Or.inl hr)))))))
  · exact rwC.i a'
theorem rwC.die : rwC G H r a w s (dieS s (G 1 r) tm (H 196 (G 1 r)) x a) := by
  have a' : a = H 186 (G 1 r) ∨ a = a ∨ a = H 160 a ∨ a = H 161 a ∨ a = H 162 a ∨ a = G 1 r ∨ (s.K a).1 = 18 := Or.inr (Or.inl rfl)
  exact ((rwC.i a').tr (rwC.dl rfl)).tr rwC.mk
theorem rwC.lp : rwC G H r a w s (lpS s a) := by
  have a' : a = H 186 (G 1 r) ∨ a = a ∨ a = H 160 a ∨ a = H 161 a ∨ a = H 162 a ∨ a = G 1 r ∨ (s.K a).1 = 18 := Or.inr (Or.inl rfl)
  exact ((rwC.i a').tr (rwC.i a')).tr rwC.p
theorem rwT.die (hi : 2700 * r ≤ k ∧ k < 2700 * r + 2700) : rwT r t (dieM t r k) := ((rwT.i (by decide) hi).tr (rwT.i (by decide) hi)).tr (rwT.mk hi)
theorem rwT.fo (hi : 2700 * r ≤ k ∧ k < 2700 * r + 2700) : rwT r t (foM t k) := (((rwT.i (by decide) hi).tr (rwT.i (by decide) hi)).tr (rwT.i (by decide) hi)).tr (rwT.i (by decide) hi)
end Di
