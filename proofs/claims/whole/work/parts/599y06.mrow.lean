/-! Rows of the model's tables: found, copied, put in, taken out. -/
abbrev fRI : List Nat := [106, 109, 110, 111, 112, 113, 116, 119, 120, 121, 122]
abbrev fRJ : List Nat := [107, 108, 114, 115, 117, 118]
abbrev fRA : List Nat := [106, 107, 108, 109, 110, 111, 112, 113, 114, 115, 116, 117, 118, 119, 120, 121, 122]
/-- a prefix's number -/
def kyV (f : Int32) (h l : Int64) (n : Int32) : Nat := pkN (fam f).toNatClampNeg h.toBitVec.toNat l.toBitVec.toNat n.toNatClampNeg
abbrev kyR (t : moS) (k : Nat) : Nat := kyV (t.I 106 k) (t.J 107 k) (t.J 108 k) (t.I 109 k)
/-- row j is what row g j was -/
def rwM (t t' : moS) (g : Nat → Nat) : Prop := (∀ k, k ∈ fRI → ∀ j, t'.I k j = t.I k (g j)) ∧ ∀ k, k ∈ fRJ → ∀ j, t'.J k j = t.J k (g j)
def cpI (k a b : Nat) (t : moS) : moS := moSI t k b (t.I k a)
def cpJ (k a b : Nat) (t : moS) : moS := moSJ t k b (t.J k a)
def cpS (t : moS) (a b : Nat) : moS := cpI 122 a b (cpI 121 a b (cpI 120 a b (cpI 119 a b (cpJ 118 a b (cpJ 117 a b (cpI 116 a b (cpJ 115 a b (cpJ 114 a b (cpI 113 a b (cpI 112 a b (cpI 111 a b (cpI 110 a b (cpI 109 a b (cpJ 108 a b (cpJ 107 a b (cpI 106 a b t))))))))))))))))
theorem lnOk.n {f n : Int32} (h : lnOk f n) : ∃ m, n = nI m ∧ m ≤ 128 := by
  obtain ⟨-, m, e, -, h2⟩ := h
  refine ⟨m, e, ?_⟩
  split at h2 <;> omega
theorem fam_n {f : Int32} (h : bit f) : (fam f).toNatClampNeg = if f = 0 then 4 else 6 := by
  rcases h with rfl | rfl <;> rfl
theorem kyV_i {f f' n n' : Int32} {h l h' l' : Int64} (a : lnOk f n) (b : lnOk f' n') : kyV f h l n = kyV f' h' l' n' ↔ f = f' ∧ h = h' ∧ l = l' ∧ n = n' := by
  obtain ⟨m, rfl, hm⟩ := a.n
  obtain ⟨m', rfl, hm'⟩ := b.n
  unfold kyV
  rw [nI_clamp (by omega), nI_clamp (by omega), (pk_lex h.toBitVec.isLt l.toBitVec.isLt (by omega) h'.toBitVec.isLt l'.toBitVec.isLt (by omega)).2, ← usg_eq, ← usg_eq, nI_eq (by omega) (by omega), fam_n a.1, fam_n b.1]
  have : ((if f = 0 then 4 else 6) = if f' = 0 then 4 else 6) ↔ f = f' := by
    rcases a.1 with rfl | rfl <;> rcases b.1 with rfl | rfl <;> decide
  rw [this]
section Mr
variable {t t' t1 t2 : moS} {a b r : Nat}
theorem cpI_I {k i j : Nat} : (cpI k a b t).I i j = if i = k ∧ j = b then t.I k a else t.I i j := evMI
theorem cpJ_I {k i j : Nat} : (cpJ k a b t).I i j = t.I i j := rfl
theorem cpI_J {k i j : Nat} : (cpI k a b t).J i j = t.J i j := rfl
theorem cpJ_J {k i j : Nat} : (cpJ k a b t).J i j = if i = k ∧ j = b then t.J k a else t.J i j := by
  unfold cpJ
  by_cases e : i = k
  · subst e
    rw [moSJ_s]
    show (if j = b then t.J i a else t.J i j) = _
    by_cases e2 : j = b
    · rw [if_pos e2, if_pos ⟨rfl, e2⟩]
    · rw [if_neg e2, if_neg (fun z => e2 z.2)]
  · rw [moSJ_n e, if_neg (fun z => e z.1)]
theorem st_I {k n : Nat} {β : Type} {f : moS → Option β} (hN : t.N k = n) (ha : a < n) (hb : b < n) (hn : n < 2 ^ 31) : (Option.bind (rdI t k (nI a)) fun x => Option.bind (wrI t k (nI b) x) f) = f (cpI k a b t) := by
  rw [rdI_n hN ha hn]
  show Option.bind (wrI t k (nI b) (t.I k a)) f = _
  rw [wrI_n hN hb hn]
  rfl
theorem st_Z {k n : Nat} {β : Type} {f : moS → Option β} (hN : t.N k = n) (ha : a < n) (hb : b < n) (hn : n < 2 ^ 31) (hz : bit (t.I k a)) : (Option.bind (rdI t k (nI a)) fun x => Option.bind (wrZ t k (nI b) x) f) = f (cpI k a b t) := by
  rw [rdI_n hN ha hn]
  show Option.bind (wrZ t k (nI b) (t.I k a)) f = _
  rw [wrZ_n hN hb hn, show vp_nar .boolean (t.I k a) = t.I k a by rcases hz with e | e <;> rw [e] <;> rfl]
  rfl
theorem st_J {k n : Nat} {β : Type} {f : moS → Option β} (hN : t.N k = n) (ha : a < n) (hb : b < n) (hn : n < 2 ^ 31) : (Option.bind (rdJ t k (nI a)) fun x => Option.bind (wrJ t k (nI b) x) f) = f (cpJ k a b t) := by
  rw [rdJ_n hN ha hn]
  show Option.bind (wrJ t k (nI b) (t.J k a)) f = _
  rw [wrJ_n hN hb hn]
  rfl
theorem cpS_e (hN : ∀ k, k ∈ fRA → t.N k = 16200) (ha : a < 16200) (hb : b < 16200) (hz : bit (t.I 119 a)) : M_copyRoute t (nI a) (nI b) = some (cpS t a b) := by
  unfold M_copyRoute
  have n : ∀ k, k ∈ fRA → t.N k = 16200 := hN
  refine (st_I (n := 16200) (by exact n 106 (by decide)) ha hb (by decide)).trans ?_
  refine (st_J (n := 16200) (by exact n 107 (by decide)) ha hb (by decide)).trans ?_
  refine (st_J (n := 16200) (by exact n 108 (by decide)) ha hb (by decide)).trans ?_
  refine (st_I (n := 16200) (by exact n 109 (by decide)) ha hb (by decide)).trans ?_
  refine (st_I (n := 16200) (by exact n 110 (by decide)) ha hb (by decide)).trans ?_
  refine (st_I (n := 16200) (by exact n 111 (by decide)) ha hb (by decide)).trans ?_
  refine (st_I (n := 16200) (by exact n 112 (by decide)) ha hb (by decide)).trans ?_
  refine (st_I (n := 16200) (by exact n 113 (by decide)) ha hb (by decide)).trans ?_
  refine (st_J (n := 16200) (by exact n 114 (by decide)) ha hb (by decide)).trans ?_
  refine (st_J (n := 16200) (by exact n 115 (by decide)) ha hb (by decide)).trans ?_
  refine (st_I (n := 16200) (by exact n 116 (by decide)) ha hb (by decide)).trans ?_
  refine (st_J (n := 16200) (by exact n 117 (by decide)) ha hb (by decide)).trans ?_
  refine (st_J (n := 16200) (by exact n 118 (by decide)) ha hb (by decide)).trans ?_
  refine (st_Z (n := 16200) (by exact n 119 (by decide)) ha hb (by decide) (by
    simp only [cpI_I, cpJ_I]
    simpa using hz)).trans ?_
  refine (st_I (n := 16200) (by exact n 120 (by decide)) ha hb (by decide)).trans ?_
  refine (st_I (n := 16200) (by exact n 121 (by decide)) ha hb (by decide)).trans ?_
  refine (st_I (n := 16200) (by exact n 122 (by decide)) ha hb (by decide)).trans ?_
  rfl
theorem cpS_r : rwM t (cpS t a b) (fun j => if j = b then a else j) := by
  have sp : ∀ {α : Type} {k j : Nat} (f : Nat → α), f (if j = b then a else j) = if j = b then f a else f j := fun {α k j} f => by split <;> rfl
  constructor
  · intro k hk j
    simp only [List.mem_cons, List.not_mem_nil, or_false] at hk
    unfold cpS
    rcases hk with rfl | rfl | rfl | rfl | rfl | rfl | rfl | rfl | rfl | rfl | rfl <;> · by_cases c : j = b <;> simp [cpI_I, cpJ_I, c]
  · intro k hk j
    simp only [List.mem_cons, List.not_mem_nil, or_false] at hk
    unfold cpS
    rcases hk with rfl | rfl | rfl | rfl | rfl | rfl <;> · by_cases c : j = b <;> simp [cpI_J, cpJ_J, c]
theorem m_copy (hN : ∀ k, k ∈ fRA → t.N k = 16200) (ha : a < 16200) (hb : b < 16200) (hz : bit (t.I 119 a)) : ∃ t', M_copyRoute t (nI a) (nI b) = some t' ∧ mfr fRA t t' ∧ rwM t t' (fun j => if j = b then a else j) := by
  refine ⟨_, cpS_e hN ha hb hz, ?_, cpS_r⟩
  exact fM_copyRoute (W := fRA) rfl mfr.rf _ (cpS_e hN ha hb hz)
theorem rwM.tr {g g' : Nat → Nat} (h : rwM t t1 g) (h' : rwM t1 t2 g') : rwM t t2 (fun j => g (g' j)) := ⟨fun k hk j => by rw [h'.1 k hk, h.1 k hk], fun k hk j => by rw [h'.2 k hk, h.2 k hk]⟩
theorem rwM.cg {g g' : Nat → Nat} (h : rwM t t1 g) (e : ∀ j, g j = g' j) : rwM t t1 g' := by
  rw [show g' = g from funext fun j => (e j).symm]
  exact h
theorem rwM.ky {g : Nat → Nat} (h : rwM t t1 g) (j : Nat) : kyR t1 j = kyR t (g j) := by
  unfold kyR
  rw [h.1 106 (by decide), h.1 109 (by decide), h.2 107 (by decide), h.2 108 (by decide)]
theorem ky_same {f n n' : Int32} {h l h' l' : Int64} (hf : lnOk f n) (hr : lnOk f n') : M_isAhead h l n h' l' n' = some (if kyV f h l n < kyV f h' l' n' then 1 else 0) := by
  obtain ⟨m, rfl, hm⟩ := hf.n
  obtain ⟨m', rfl, hm'⟩ := hr.n
  rw [M_ahead (by omega) (by omega) (fam f).toNatClampNeg]
  unfold kyV
  rw [nI_clamp (by omega), nI_clamp (by omega)]
theorem ky_diff {f f' n n' : Int32} {h l h' l' : Int64} (hf : lnOk f n) (hr : lnOk f' n') (hne : f' ≠ f) : kyV f h l n < kyV f' h' l' n' ↔ f < f' := by
  obtain ⟨m, rfl, hm⟩ := hf.n
  obtain ⟨m', rfl, hm'⟩ := hr.n
  have hk1 := (pk_lex (f := (fam f).toNatClampNeg) (f' := (fam f').toNatClampNeg) (n := m) (n' := m') h.toBitVec.isLt l.toBitVec.isLt (by omega) h'.toBitVec.isLt l'.toBitVec.isLt (by omega)).1
  unfold kyV
  rw [nI_clamp (by omega), nI_clamp (by omega), hk1]
  clear hk1
  rcases hf.1 with rfl | rfl <;> rcases hr.1 with rfl | rfl
  · exact absurd rfl hne
  · exact ⟨fun _ => by decide, fun _ => Or.inl (by decide)⟩
  · refine ⟨fun z => ?_, fun z => absurd z (by decide)⟩
    rcases z with z | z
    · exact absurd z (by decide)
    · exact absurd z.1 (by decide)
  · exact absurd rfl hne
theorem m_beh {k A B : Nat} {f n : Int32} {h l : Int64} (hN : ∀ k, k ∈ fRA → t.N k = 16200) (hk : k < 16200) (h1 : t.I 106 k = f → M_isAhead h l n (t.J 107 k) (t.J 108 k) (t.I 109 k) = some (if A < B then 1 else 0)) (h2 : t.I 106 k ≠ f → (A < B ↔ f < t.I 106 k)) : M_isBehind t (nI k) f h l n = some (if A < B then 1 else 0) := by
  unfold M_isBehind
  rw [rdI_n (n := 16200) (hN 106 (by decide)) hk (by decide)]
  simp only [Option.bind_some]
  by_cases c : t.I 106 k = f
  · rw [if_pos c, rdJ_n (n := 16200) (hN 107 (by decide)) hk (by decide), rdJ_n (n := 16200) (hN 108 (by decide)) hk (by decide), rdI_n (n := 16200) (hN 109 (by decide)) hk (by decide)]
    simp only [Option.bind_some]
    rw [h1 c]
    simp only [Option.bind_some]
    unfold okZ
    by_cases c2 : A < B
    · rw [if_pos c2, if_pos (Or.inr rfl)]
    · rw [if_neg c2, if_pos (Or.inl rfl)]
  · rw [if_neg c]
    by_cases c2 : A < B
    · rw [if_pos c2, if_pos ((h2 c).mp c2)]
    · rw [if_neg c2, if_neg (fun z => c2 ((h2 c).mpr z))]
theorem m_behind {k : Nat} {f n : Int32} {h l : Int64} (hN : ∀ k, k ∈ fRA → t.N k = 16200) (hk : k < 16200) (hf : lnOk f n) (hr : lnOk (t.I 106 k) (t.I 109 k)) : M_isBehind t (nI k) f h l n = some (if kyV f h l n < kyR t k then 1 else 0) :=
  m_beh hN hk (fun e => (ky_same (f := f) hf (by rw [← e]; exact hr)).trans (by rw [show kyR t k = kyV (t.I 106 k) (t.J 107 k) (t.J 108 k) (t.I 109 k) from rfl, e])) (fun e => ky_diff (h := h) (l := l) (h' := t.J 107 k) (l' := t.J 108 k) hf hr e)
end Mr
