/-! New rows of rows; tables, lists and routers that are new. -/
def ovM (u q n : Nat) : Ov := ((u, n), fun _ => 0, fun _ => 0, fun _ => none, fun _ => 0, fun j => if j < n then some (q + 1 + j) else none)
def ovR (u k : Nat) (y : Nat → Option Nat) : Ov := ((u, k), fun _ => 0, fun _ => 0, fun _ => none, fun _ => 0, y)
def rwF (q u k : Nat) (y : Nat → Nat → Option Nat) : Nat → List (Nat × Ov)
  | 0 => []
  | j + 1 => (q + 1 + j, ovR u k (y (q + 1 + j))) :: rwF q u k y j
section Nm2
variable {sa : Nat → Nat} {s0 s s' : cS} {a q u v n k kc ks : Nat} {L L1 L2 : List (Nat × Ov)} {y : Nat → Nat → Option Nat}
theorem rwF_m : ∀ {n : Nat} {p : Nat × Ov}, p ∈ rwF q u k y n → ∃ j, j < n ∧ p = (q + 1 + j, ovR u k (y (q + 1 + j)))
  | 0, p, h => absurd h (by unfold rwF; simp)
  | n + 1, p, h => by
    rcases List.mem_cons.mp (show p ∈ (q + 1 + n, ovR u k (y (q + 1 + n))) :: rwF q u k y n from h) with z | z
    · exact ⟨n, by omega, z⟩
    · obtain ⟨j, hj, e⟩ := rwF_m z
      exact ⟨j, by omega, e⟩
theorem rwF_i : ∀ {n j : Nat}, j < n → (q + 1 + j, ovR u k (y (q + 1 + j))) ∈ rwF q u k y n
  | 0, j, h => absurd h (Nat.not_lt_zero _)
  | n + 1, j, h => by
    show _ ∈ (q + 1 + n, ovR u k (y (q + 1 + n))) :: rwF q u k y n
    by_cases e : j = n
    · rw [e]; exact List.mem_cons.mpr (Or.inl rfl)
    · exact List.mem_cons.mpr (Or.inr (rwF_i (by omega)))
theorem rwF_nd (hL : ndp L) : ∀ {n : Nat}, (∀ p, p ∈ L → ∀ j, j < n → p.1 ≠ q + 1 + j) → ndp (rwF q u k y n ++ L)
  | 0, _ => hL
  | n + 1, h => by
    refine ⟨fun p hp => ?_, rwF_nd hL (fun p hp j hj => h p hp j (by omega))⟩
    rcases List.mem_append.mp hp with z | z
    · obtain ⟨j, hj, e⟩ := rwF_m z
      rw [e]
      show q + 1 + j ≠ q + 1 + n
      omega
    · exact h p z n (by omega)
theorem hp_nm (h : HP sa s0 L s) (ha : ∀ j, j ≤ n → cFr sa s (q + j)) (hu : u ≠ 0) (hv : v ≠ 0) : HP sa s0 ((q, ovM u q n) :: (rwF q v k s.Q n ++ L)) (cNm s q u v n k) := by
  have fr' : ∀ j, j ≤ n → cFr sa s0 (q + j) ∧ ∀ p, p ∈ L → p.1 ≠ q + j := fun j hj => hp_fresh h (ha j hj)
  have ex : ∀ b, ¬ (q ≤ b ∧ b ≤ q + n) → ov (cNm s q u v n k) b = ov s b := fun b hb => by
    have h1 : b ≠ q := fun e => hb (by omega)
    have h2 : ¬ (q < b ∧ b ≤ q + n) := fun e => hb (by omega)
    refine ov_eq ?_ (fun g => ?_) (fun g => ?_) (fun g => ?_) ?_ ?_
    · show (if b = q then (u, n) else if q < b ∧ b ≤ q + n then (v, k) else s.K b) = _
      rw [if_neg h1, if_neg h2]
    · exact if_neg hb
    · exact if_neg hb
    · exact if_neg hb
    · exact if_neg hb
    · exact if_neg h1
  refine ⟨fun b hb => ?_, fun p hp => ?_, fun p hp => ?_, rwF_nd h.2.2 (fun p hp j hj => by have := (fr' (1 + j) (by omega)).2 p hp; omega)⟩
  · have hn : ¬ (q ≤ b ∧ b ≤ q + n) := fun ⟨z1, z2⟩ => by
      by_cases e : b = q
      · exact hb (q, ovM u q n) (by simp) e.symm
      · have : q + 1 + (b - q - 1) = b := by omega
        refine hb (q + 1 + (b - q - 1), ovR v k (s.Q (q + 1 + (b - q - 1)))) ?_ this
        exact List.mem_cons.mpr (Or.inr (List.mem_append.mpr (Or.inl (rwF_i (by omega)))))
    rw [ex b hn]
    exact h.1 b fun p hp => hb p (List.mem_cons.mpr (Or.inr (List.mem_append.mpr (Or.inr hp))))
  · rcases List.mem_cons.mp hp with z | z
    · rw [z]
      refine ⟨?_, by have := (fr' 0 (by omega)).1; exact this, hu⟩
      show ((if q = q then (u, n) else if q < q ∧ q ≤ q + n then (v, k) else s.K q), (fun g => if q ≤ q ∧ q ≤ q + n then (0 : Int32) else s.I g q), (fun g => if q ≤ q ∧ q ≤ q + n then (0 : Int64) else s.J g q), (fun g => if q ≤ q ∧ q ≤ q + n then none else s.P g q), (if q ≤ q ∧ q ≤ q + n then (fun _ => (0 : Int32)) else s.E q), (if q = q then (fun j => if j < n then some (q + 1 + j) else none) else s.Q q)) = ovM u q n
      have c : q ≤ q ∧ q ≤ q + n := by omega
      simp only [if_pos c, if_true]
      rfl
    · rcases List.mem_append.mp z with z | z
      · obtain ⟨j, hj, e⟩ := rwF_m z
        rw [e]
        have f1 := (fr' (1 + j) (by omega)).1
        rw [show q + (1 + j) = q + 1 + j by omega] at f1
        refine ⟨?_, f1, hv⟩
        have c1 : ¬ q + 1 + j = q := by omega
        have c2 : q < q + 1 + j ∧ q + 1 + j ≤ q + n := by omega
        have c3 : q ≤ q + 1 + j ∧ q + 1 + j ≤ q + n := by omega
        generalize q + 1 + j = b at c1 c2 c3
        show ((if b = q then (u, n) else if q < b ∧ b ≤ q + n then (v, k) else s.K b), (fun g => if q ≤ b ∧ b ≤ q + n then (0 : Int32) else s.I g b), (fun g => if q ≤ b ∧ b ≤ q + n then (0 : Int64) else s.J g b), (fun g => if q ≤ b ∧ b ≤ q + n then none else s.P g b), (if q ≤ b ∧ b ≤ q + n then (fun _ => (0 : Int32)) else s.E b), (if b = q then (fun j => if j < n then some (q + 1 + j) else none) else s.Q b)) = ovR v k (s.Q b)
        simp only [if_pos c3, if_pos c2, if_neg c1]
        rfl
      · have hx := h.2.1 p z
        rw [ex p.1 (fun ⟨z1, z2⟩ => (fr' (p.1 - q) (by omega)).2 p z (by omega))]
        exact hx
  · rcases List.mem_append.mp hp with z | z
    · obtain ⟨j, hj, e⟩ := rwF_m z
      rw [e]
      show q + 1 + j ≠ q
      omega
    · exact (fr' 0 (by omega)).2 p z
theorem hq_nwM {ty : FieldType} {f : Nat → cS → Nat → Nat → Prop} (h : HP sa s0 L s) (hn : n ≤ 4000) (hk : k ≤ 4000) (hkc : 1 + n ≤ kc) (hks : n + n * k ≤ ks) (kk : ∀ b y s', HP sa s0 ((b, ovM u b n) :: (rwF b v k y n ++ L)) s' → f b s' (kc - (1 + n)) (ks - (n + n * k))) (hu : 130 ≤ u ∧ u < 146 ∧ cAT u = .array ty := by decide) (hv : 100 ≤ v ∧ v < 130 ∧ cAT v = ty := by decide) : nwM sa s kc ks ty n k f := ⟨hn, hk, hkc, hks, u, v, hu, hv, fun b hb => kk b _ _ (hp_nm h hb (by omega) (by omega))⟩
/-- a table that is new -/
theorem hq_Ta {f : cS → Nat → Nat → Prop} {w : Ov} (h : HP sa s0 ((q, w) :: L) s) (hu : (130 ≤ u ∧ u < 146 ∧ cAT u = .object "RoutingField$Route")) (hw : 1 ≤ w.1.1 ∧ w.1.1 < 100 ∧ cKn w.1.1 = 10) (hkc : 1 ≤ kc) (hks : 16 ≤ ks) (kk : ∀ d s', HP sa s0 ((d, ov0 (u, 16)) :: (q, ovI (ovP w 200 (some d)) 201 0) :: L) s' → f s' (kc - 1) (ks - 16)) : C_Ta_init sa q s kc ks f := by
  unfold C_Ta_init
  refine hq_nwQ (n := 16) (u := u) h (by decide) hkc hks (fun d s1 h1 => ?_) hu
  refine hq_pP (L1 := [_]) h1 (fun s2 h2 => ?_) hw
  exact hq_pI (L1 := [_]) h2 (fun s3 h3 => kk d s3 h3) hw
/-- a list that is new -/
theorem hq_Pl {f : cS → Nat → Nat → Prop} {w : Ov} {p1 : Option Nat} (h : HP sa s0 ((q, w) :: L) s) (hw : 1 ≤ w.1.1 ∧ w.1.1 < 100 ∧ cKn w.1.1 = 6) (hn1 : 1 ≤ n) (hn : n ≤ 32) (hkc : 4 ≤ kc) (hks : 4 * n ≤ ks) (kk : ∀ a1 a2 a3 a4 s', HP sa s0 ((a4, ov0 (106, n)) :: (a3, ov0 (105, n)) :: (a2, ov0 (102, n)) :: (a1, ov0 (138, n)) :: (q, ovP (ovP (ovP (ovP (ovP (ovI w 125 0) 120 p1) 121 (some a1)) 122 (some a2)) 123 (some a3)) 124 (some a4)) :: L) s' → f s' (kc - 1 - 1 - 1 - 1) (ks - n - n - n - n)) : C_Pl_init sa q p1 (nI n) s kc ks f := by
  have emx : mxI (nI n) 1 = nI n := by
    unfold mxI
    rw [if_neg (show ¬ nI n < (1 : Int32) from nI_nlt (b := 1) hn1 (by omega))]
  unfold C_Pl_init
  refine hq_pI (L1 := []) h (fun s1 h1 => ?_) hw
  refine hq_pP (L1 := []) h1 (fun s2 h2 => ?_) hw
  rw [emx]
  refine hq_nwQ (u := 138) h2 (by omega) (by omega) (by omega) fun a1 s3 h3 => ?_
  refine hq_pP (L1 := [_]) h3 (fun s4 h4 => ?_) hw
  refine hq_nwA (u := 102) h4 (by omega) (by omega) (by omega) fun a2 s5 h5 => ?_
  refine hq_pP (L1 := [_, _]) h5 (fun s6 h6 => ?_) hw
  refine hq_nwA (u := 105) h6 (by omega) (by omega) (by omega) fun a3 s7 h7 => ?_
  refine hq_pP (L1 := [_, _, _]) h7 (fun s8 h8 => ?_) hw
  refine hq_nwA (u := 106) h8 (by omega) (by omega) (by omega) fun a4 s9 h9 => ?_
  exact hq_pP (L1 := [_, _, _, _]) h9 (fun s10 h10 => kk a1 a2 a3 a4 s10 h10) hw
end Nm2
