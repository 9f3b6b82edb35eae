/-! A line that is no fault has at least three bytes. -/
theorem wdS_lo (u : Nat → Nat) : ∀ k i cur, (∀ b, cur = some b → b ≤ i) → ∀ p, p ∈ wdS u k i cur → (cur.getD i) ≤ p.1
  | 0, _, none, _, p, h => by simp [wdS] at h
  | 0, i, some b, _, p, h => by
    have : p = (b, i) := by simpa [wdS] using h
    rw [this]
    exact Nat.le_refl _
  | k + 1, i, none, hc, p, h => by
    unfold wdS at h
    split at h
    · have := wdS_lo u k (i + 1) none (fun b z => by cases z) p h
      exact Nat.le_of_succ_le this
    · exact wdS_lo u k (i + 1) (some i) (fun b z => by cases z; omega) p h
  | k + 1, i, some b, hc, p, h => by
    have hb := hc b rfl
    unfold wdS at h
    split at h
    · rcases List.mem_cons.mp h with z | z
      · rw [z]; exact Nat.le_refl _
      · have := wdS_lo u k (i + 1) none (fun b z => by cases z) p z
        show b ≤ p.1
        have this : i + 1 ≤ p.1 := this
        omega
    · exact wdS_lo u k (i + 1) (some b) (fun b' z => by cases z; omega) p h
theorem wdS_gap (u : Nat → Nat) : ∀ k i cur, (∀ b, cur = some b → b ≤ i) → ∀ j, j + 1 < (wdS u k i cur).length → ((wdS u k i cur).getD j (0, 0)).2 < ((wdS u k i cur).getD (j + 1) (0, 0)).1
  | 0, _, none, _, j, h => by simp [wdS] at h
  | 0, i, some b, _, j, h => by simp [wdS] at h
  | k + 1, i, none, hc, j, h => by
    unfold wdS at h ⊢
    split at h
    · rename_i c
      rw [if_pos c]
      exact wdS_gap u k (i + 1) none (fun b z => by cases z) j h
    · rename_i c
      rw [if_neg c]
      exact wdS_gap u k (i + 1) (some i) (fun b z => by cases z; omega) j h
  | k + 1, i, some b, hc, j, h => by
    have hb := hc b rfl
    unfold wdS at h ⊢
    split at h
    · rename_i c
      rw [if_pos c]
      cases j with
      | zero =>
        show i < ((wdS u k (i + 1) none).getD 0 (0, 0)).1
        have h0 : 0 < (wdS u k (i + 1) none).length := by rw [List.length_cons] at h; omega
        have hm : (wdS u k (i + 1) none).getD 0 (0, 0) ∈ wdS u k (i + 1) none := by
          rw [List.getD_eq_getElem?_getD, List.getElem?_eq_getElem h0]
          exact List.getElem_mem h0
        have : i + 1 ≤ _ := wdS_lo u k (i + 1) none (fun b z => by cases z) _ hm
        omega
      | succ j =>
        show ((wdS u k (i + 1) none).getD j (0, 0)).2 < ((wdS u k (i + 1) none).getD (j + 1) (0, 0)).1
        exact wdS_gap u k (i + 1) none (fun b z => by cases z) j (by rw [List.length_cons] at h; omega)
    · rename_i c
      rw [if_neg c]
      exact wdS_gap u k (i + 1) (some b) (fun b' z => by cases z; omega) j h
/-- a later word ends later -/
theorem gap_mo {ws : List (Nat × Nat)} (hg : ∀ j, j + 1 < ws.length → (ws.getD j (0, 0)).2 < (ws.getD (j + 1) (0, 0)).1) (hb : ∀ j, j < ws.length → (ws.getD j (0, 0)).1 < (ws.getD j (0, 0)).2) : ∀ d i, i + d < ws.length → (ws.getD i (0, 0)).2 ≤ (ws.getD (i + d) (0, 0)).2
  | 0, i, _ => Nat.le_refl _
  | d + 1, i, h => by
    have h1 := gap_mo hg hb d i (by omega)
    have h2 := hg (i + d) (by omega)
    have h3 := hb (i + d + 1) (by omega)
    show _ ≤ (ws.getD (i + d + 1) (0, 0)).2
    omega
section Mi
variable {G H : Nat → Nat → Nat} {sa : Nat → Nat} {rd x : Nat} {s : cS} {t tL : moS} {l : List Int32} {ws : List (Nat × Nat)}
theorem wC_len {k : Nat} {c : Int64} (hk : kOk k = true ∧ cdL (cT k) = c) (e : wC l ws 0 = c) : (ws.getD 0 (0, 0)).2 - (ws.getD 0 (0, 0)).1 = (cT k).length := by
  obtain ⟨h1, h2⟩ := hk
  unfold kOk at h1
  rw [Bool.and_eq_true, Bool.and_eq_true, Bool.and_eq_true, Bool.and_eq_true, Bool.or_eq_true, decide_eq_true_iff, decide_eq_true_iff, decide_eq_true_iff] at h1
  obtain ⟨⟨⟨⟨a1, a2⟩, a3⟩, a4⟩, a5⟩ := h1
  have hiff := cdW_eq (u := vc l) (vc_lt l) (a := (ws.getD 0 (0, 0)).1) (n := (ws.getD 0 (0, 0)).2 - (ws.getD 0 (0, 0)).1) (y := cT k) (a2.elim (fun z => Or.inl (eq_of_beq z)) (fun z => Or.inr (fun c hc => nmB_c (List.all_eq_true.mp z c hc)))) a3 a4
  rw [h2] at hiff
  have := congrArg List.length (hiff.mp e)
  rw [wU_len] at this
  exact this
theorem wC_ne {k : Nat} {c : Int64} (hk : (kOk k = true ∧ cdL (cT k) = c) ∧ 3 ≤ (cT k).length) (h : (ws.getD 0 (0, 0)).2 - (ws.getD 0 (0, 0)).1 < 3) : ¬ wC l ws 0 = c := fun e => by
  have := wC_len hk.1 e
  omega
theorem ln_3 (h : LX G H sa x rd s t l ws) (h0 : 0 < ws.length) (e : M_line t = some (0, tL)) : 3 ≤ (ws.getD 0 (0, 0)).2 - (ws.getD 0 (0, 0)).1 := by
  by_cases c : 3 ≤ (ws.getD 0 (0, 0)).2 - (ws.getD 0 (0, 0)).1
  · exact c
  exfalso
  have n := fun {k : Nat} {c' : Int64} (hk : (kOk k = true ∧ cdL (cT k) = c') ∧ 3 ≤ (cT k).length) => wC_ne (l := l) (ws := ws) hk (by omega)
  have ec : M_code t 0 = some (wC l ws 0) := h.code (i := 0) h0
  unfold M_line at e
  rw [ec] at e
  simp only [Option.bind_some] at e
  rw [if_neg (n (k := 0) (by decide +kernel)), if_neg (n (k := 4) (by decide +kernel)), if_neg (n (k := 5) (by decide +kernel)), if_neg (n (k := 15) (by decide +kernel)), if_neg (n (k := 16) (by decide +kernel)), if_neg (n (k := 17) (by decide +kernel)), if_neg (n (k := 19) (by decide +kernel)), if_neg (n (k := 20) (by decide +kernel)), if_neg (n (k := 25) (by decide +kernel)), if_neg (n (k := 28) (by decide +kernel)), if_neg (n (k := 30) (by decide +kernel)), if_neg (n (k := 31) (by decide +kernel)), if_neg (n (k := 32) (by decide +kernel)), if_neg (n (k := 33) (by decide +kernel)), if_neg (n (k := 36) (by decide +kernel)), if_neg (n (k := 38) (by decide +kernel))] at e
  have := congrArg Prod.fst (Option.some.inj e)
  exact absurd this (show ¬ (1 : Int32) = 0 by decide)
end Mi
