/-! The reader at a line: what both sides see of it. -/
def nmB (c : Int32) : Bool := decide (c = nI c.toNatClampNeg) && (decide (97 ≤ c.toNatClampNeg) && decide (c.toNatClampNeg ≤ 122) || decide (48 ≤ c.toNatClampNeg) && decide (c.toNatClampNeg ≤ 57))
theorem nmB_c {c : Int32} (h : nmB c = true) : nmC c ∧ c ≠ 42 := by
  unfold nmB at h
  rw [Bool.and_eq_true, Bool.or_eq_true, Bool.and_eq_true, Bool.and_eq_true, decide_eq_true_iff, decide_eq_true_iff, decide_eq_true_iff, decide_eq_true_iff, decide_eq_true_iff] at h
  obtain ⟨e, g⟩ := h
  refine ⟨⟨c.toNatClampNeg, e, by omega⟩, fun z => ?_⟩
  rw [z, show (42 : Int32).toNatClampNeg = 42 from rfl] at g
  omega
/-- a constant word -/
def kOk (k : Nat) : Bool := decide (k < 49) && ((cT k == [42]) || (cT k).all nmB) && decide (1 ≤ (cT k).length) && decide ((cT k).length ≤ 12) && (cT k).all fun c => c &&& 255 == c
/-- class and model at a line: the words ws of the tape l -/
def LX (G H : Nat → Nat → Nat) (sa : Nat → Nat) (x rd : Nat) (s : cS) (t : moS) (l : List Int32) (ws : List (Nat × Nat)) : Prop := RR G H sa x s t ∧ MV t ∧ (s.P 223 x = some rd ∧ (s.K rd).1 = 22) ∧ RdC H x rd s l ws ∧ mWw t ws ∧ uT t (vc l) l.length
/-- the number of word i, the number that it is, the name that it is -/
noncomputable def wC (l : List Int32) (ws : List (Nat × Nat)) (i : Nat) : Int64 := cdW (vc l) (ws.getD i (0, 0)).1 ((ws.getD i (0, 0)).2 - (ws.getD i (0, 0)).1)
def wN (l : List Int32) (ws : List (Nat × Nat)) (i : Nat) : Option Nat := nmb (vc l) (ws.getD i (0, 0)).1 ((ws.getD i (0, 0)).2 - (ws.getD i (0, 0)).1)
noncomputable def wM (l : List Int32) (ws : List (Nat × Nat)) (i : Nat) : Int64 := nmW (vc l) (ws.getD i (0, 0)).1 ((ws.getD i (0, 0)).2 - (ws.getD i (0, 0)).1)
section Lx
variable {G H : Nat → Nat → Nat} {sa : Nat → Nat} {rd x kc ks : Nat} {s : cS} {t : moS} {l : List Int32} {ws : List (Nat × Nat)} {Q : Int32 → cS → Nat → Nat → Prop}
theorem w_isK (h : RdC H x rd s l ws) (ht : TK sa s) {i k : Nat} (c : Int64) (hi : i < ws.length) (h24 : i < 24) (k1 : wC l ws i = c → Q 1 s kc ks) (k0 : ¬ wC l ws i = c → Q 0 s kc ks) (hk : kOk k = true ∧ cdL (cT k) = c := by decide +kernel) : C_Re_is sa rd (nI i) (some (sa k)) s kc ks Q := by
  obtain ⟨h1, h2⟩ := hk
  unfold kOk at h1
  rw [Bool.and_eq_true, Bool.and_eq_true, Bool.and_eq_true, Bool.and_eq_true, Bool.or_eq_true, decide_eq_true_iff, decide_eq_true_iff, decide_eq_true_iff] at h1
  obtain ⟨⟨⟨⟨a1, a2⟩, a3⟩, a4⟩, a5⟩ := h1
  have hiff := cdW_eq (u := vc l) (vc_lt l) (a := (ws.getD i (0, 0)).1) (n := (ws.getD i (0, 0)).2 - (ws.getD i (0, 0)).1) (y := cT k) (a2.elim (fun z => Or.inl (eq_of_beq z)) (fun z => Or.inr (fun c hc => nmB_c (List.all_eq_true.mp z c hc)))) a3 a4
  rw [h2] at hiff
  refine w_is h (by omega) (isTx_c ht a1) (fun j hj => eq_of_beq (List.all_eq_true.mp a5 _ (gD_mem hj))) (by omega) (fun _ _ e => k1 (hiff.mpr e)) (fun z => k0 (fun e => z ⟨hi, h24, hiff.mp e⟩))
theorem w_isO (h : RdC H x rd s l ws) (ht : TK sa s) {i k : Nat} (hi31 : i < 2 ^ 31) (hi : ¬ (i < ws.length ∧ i < 24)) (k0 : Q 0 s kc ks) (hk : kOk k = true := by decide +kernel) : C_Re_is sa rd (nI i) (some (sa k)) s kc ks Q := by
  unfold kOk at hk
  rw [Bool.and_eq_true, Bool.and_eq_true, Bool.and_eq_true, Bool.and_eq_true, Bool.or_eq_true, decide_eq_true_iff, decide_eq_true_iff, decide_eq_true_iff] at hk
  obtain ⟨⟨⟨⟨a1, a2⟩, a3⟩, a4⟩, a5⟩ := hk
  exact w_is h hi31 (isTx_c ht a1) (fun j hj => eq_of_beq (List.all_eq_true.mp a5 _ (gD_mem hj))) (by omega) (fun z1 z2 _ => absurd ⟨z1, z2⟩ hi) (fun _ => k0)
theorem w_isE (h : RdC H x rd s l ws) (ht : TK sa s) {i k k' : Nat} (c c' : Int64) (hi : i < ws.length) (h24 : i < 24) (k1 : wC l ws i = c ∨ wC l ws i = c' → Q 1 s kc ks) (k0 : ¬ wC l ws i = c → ¬ wC l ws i = c' → Q 0 s kc ks) (hk : kOk k = true ∧ cdL (cT k) = c := by decide +kernel) (hk' : kOk k' = true ∧ cdL (cT k') = c' := by decide +kernel) : C_Re_isEither sa rd (nI i) (some (sa k)) (some (sa k')) s kc ks Q := by
  unfold C_Re_isEither
  exact ⟨h.2.1.1, w_isK h ht c hi h24 (fun e => ifF (by decide) (k1 (Or.inl e))) (fun e => ifT rfl ⟨h.2.1.1, w_isK h ht c' hi h24 (fun e' => ifF (by decide) (k1 (Or.inr e'))) (fun e' => ifT rfl (k0 e e')) hk'⟩) hk⟩
theorem LX.q (h : LX G H sa x rd s t l ws) : RQ G H sa x s t := h.1.q.1
theorem LX.tk (h : LX G H sa x rd s t l ws) : TK sa s := h.q.tk
theorem LX.rc (h : LX G H sa x rd s t l ws) : RdC H x rd s l ws := h.2.2.2.1
theorem LX.mv (h : LX G H sa x rd s t l ws) : MV t := h.2.1
theorem LX.or (h : LX G H sa x rd s t l ws) : okO s 7 rd := h.rc.2.1.1
theorem LX.nw (h : LX G H sa x rd s t l ws) : ws.length ≤ 2100 := h.rc.2.2.2.2.2.2.2
theorem LX.wt (h : LX G H sa x rd s t l ws) : s.I 143 rd = nI ws.length := h.rc.2.2.2.2.2.1.1
theorem LX.ww (h : LX G H sa x rd s t l ws) : t.S 11 = nI ws.length := h.2.2.2.2.1.1
theorem LX.b (h : LX G H sa x rd s t l ws) {i : Nat} (hi : i < ws.length) : (ws.getD i (0, 0)).1 < (ws.getD i (0, 0)).2 ∧ (ws.getD i (0, 0)).2 ≤ l.length := h.rc.2.2.2.2.2.2.1 i hi
theorem LX.n9 (h : LX G H sa x rd s t l ws) : t.N 9 = 2100 ∧ t.N 10 = 2100 ∧ t.N 16 = 8 := ⟨h.mv.n.n 9 2100, h.mv.n.n 10 2100, h.mv.n.n 16 8⟩
theorem LX.code (h : LX G H sa x rd s t l ws) {i : Nat} (hi : i < ws.length) : M_code t (nI i) = some (wC l ws i) := m_code h.2.2.2.2.2 h.n9.1 h.n9.2.1 h.2.2.2.2.1 hi (by have := h.nw; omega) rfl (h.b hi).1 (h.b hi).2
theorem LX.name (h : LX G H sa x rd s t l ws) {i : Nat} (hi : i < ws.length) : M_name t (nI i) = some (wM l ws i) := m_name h.2.2.2.2.2 h.n9.1 h.n9.2.1 h.2.2.2.2.1 hi (by have := h.nw; omega) rfl (h.b hi).1 (h.b hi).2
theorem LX.num (h : LX G H sa x rd s t l ws) {i : Nat} (hi : i < ws.length) : M_number t (nI i) = some (oI (wN l ws i)) := m_number h.2.2.2.2.2 h.n9.1 h.n9.2.1 h.2.2.2.2.1 hi (by have := h.nw; omega) rfl (h.b hi).1 (h.b hi).2
theorem oI_n1 (n : Nat) (h : n < 2 ^ 31) : oI (some n) ≠ -1 := fun z => by
  have : nI n = -1 := z
  have h2 := nI_pos (n := n) h
  rw [this] at h2
  exact h2 (by decide)
theorem LX.isn (h : LX G H sa x rd s t l ws) {i lo hi : Nat} (hi' : i < ws.length) (hlo : lo < 2 ^ 31) (hhi : hi < 2 ^ 31) : M_isNumber t (nI i) (nI lo) (nI hi) = some (if (nmR (wN l ws i) lo hi).isSome then 1 else 0) := by
  unfold M_isNumber M_isNumber_b29
  rw [h.num hi']
  show (if oI (wN l ws i) = -1 then _ else _) = _
  cases e : wN l ws i with
  | none => rw [if_pos (show oI none = -1 from rfl)]; rfl
  | some v =>
    have hv := nmb_lt e
    rw [if_neg (oI_n1 v (by omega))]
    show (if nI v < nI lo then _ else if nI hi < nI v then _ else _) = some (if (if lo ≤ v ∧ v ≤ hi then some v else none).isSome then 1 else 0)
    by_cases c1 : v < lo
    · rw [if_pos (nI_lt c1 (by omega)), if_neg (show ¬ (lo ≤ v ∧ v ≤ hi) by omega)]; rfl
    · rw [if_neg (nI_nlt (by omega) (by omega))]
      by_cases c2 : hi < v
      · rw [if_pos (nI_lt c2 (by omega)), if_neg (show ¬ (lo ≤ v ∧ v ≤ hi) by omega)]; rfl
      · rw [if_neg (nI_nlt (by omega) (by omega)), if_pos (show lo ≤ v ∧ v ≤ hi by omega)]; rfl
end Lx
/-- the first interface from j on that stands at a link -/
def ifF' (f : Nat → Int32) (v : Int32) : Nat → Nat → Option Nat
  | 0, _ => none
  | k + 1, j => if f j = v then some j else ifF' f v k (j + 1)
theorem nmF_s {J : Nat → Int64} {c : Int64} : ∀ {k j r : Nat}, nmF J c k j = some r → j ≤ r ∧ r < j + k ∧ J r = c
  | 0, j, r, h => by cases h
  | k + 1, j, r, h => by
    have h : (if J j = c then some j else nmF J c k (j + 1)) = some r := h
    split at h
    · rename_i e
      cases h
      exact ⟨Nat.le_refl _, by omega, e⟩
    · have := nmF_s h
      exact ⟨by omega, by omega, this.2.2⟩
theorem ifF_s {f : Nat → Int32} {v : Int32} : ∀ {k j r : Nat}, ifF' f v k j = some r → j ≤ r ∧ r < j + k ∧ f r = v
  | 0, j, r, h => by cases h
  | k + 1, j, r, h => by
    have h : (if f j = v then some j else ifF' f v k (j + 1)) = some r := h
    split at h
    · rename_i e
      cases h
      exact ⟨Nat.le_refl _, by omega, e⟩
    · have := ifF_s h
      exact ⟨by omega, by omega, this.2.2⟩
