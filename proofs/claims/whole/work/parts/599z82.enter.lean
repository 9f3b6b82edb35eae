/-! What is told, as a list of entries in order; the model puts one in. -/
abbrev En : Type := Int64 × Int64 × Int32 × Int32 × Int32
def kE (f : Int32) (e : En) : Nat := kyV f e.1 e.2.1 e.2.2.1
/-- an entry put in at its place -/
def eIns (f : Int32) (e : En) : List En → List En
  | [] => [e]
  | a :: L => if kE f a < kE f e then a :: eIns f e L else e :: a :: L
def eSo (f : Int32) (L : List En) : Prop := L.Pairwise fun a b => kE f a < kE f b
def eOk (f : Int32) (e : En) : Prop := lnOk f e.2.2.1 ∧ rng e.2.2.2.1 1 16 ∧ rng e.2.2.2.2 0 65535
def enV (t : moS) (j : Nat) : En := (t.J 140 j, t.J 141 j, t.I 142 j, t.I 143 j, t.I 144 j)
/-- the model's entries -/
def EN (t : moS) (L : List En) : Prop := t.S 139 = nI L.length ∧ ∀ j, j < L.length → L[j]? = some (enV t j)
theorem eIns_l {f : Int32} {e : En} : ∀ {L : List En}, (eIns f e L).length = L.length + 1
  | [] => rfl
  | a :: L => by
    unfold eIns
    split
    · show (eIns f e L).length + 1 = L.length + 1 + 1
      rw [eIns_l]
    · rfl
theorem eIns_m {f : Int32} {e a : En} : ∀ {L : List En}, a ∈ eIns f e L ↔ a = e ∨ a ∈ L
  | [] => by unfold eIns; simp
  | b :: L => by
    unfold eIns
    split
    · rw [List.mem_cons, eIns_m, List.mem_cons]
      constructor
      · rintro (h | h | h)
        · exact Or.inr (Or.inl h)
        · exact Or.inl h
        · exact Or.inr (Or.inr h)
      · rintro (h | h | h)
        · exact Or.inr (Or.inl h)
        · exact Or.inl h
        · exact Or.inr (Or.inr h)
    · rw [List.mem_cons]
theorem eIns_s {f : Int32} {e : En} : ∀ {L : List En}, eSo f L → (∀ a, a ∈ L → kE f a ≠ kE f e) → eSo f (eIns f e L)
  | [], _, _ => by unfold eIns eSo; simp
  | b :: L, hs, hn => by
    unfold eSo at hs
    obtain ⟨h1, h2⟩ := List.pairwise_cons.mp hs
    have ih := eIns_s (e := e) h2 fun a ha => hn a (List.mem_cons_of_mem _ ha)
    unfold eIns
    have hb := hn b (by simp)
    split
    · rename_i c
      refine List.pairwise_cons.mpr ⟨fun a ha => ?_, ih⟩
      rcases eIns_m.mp ha with z | z
      · rw [z]; exact c
      · exact h1 a z
    · rename_i c
      have hlt : kE f e < kE f b := by omega
      refine List.pairwise_cons.mpr ⟨fun a ha => ?_, hs⟩
      rcases List.mem_cons.mp ha with z | z
      · rw [z]; exact hlt
      · exact Nat.lt_trans hlt (h1 a z)
theorem ins_get {e : En} {p j : Nat} {L : List En} (hp : p ≤ L.length) : (L.take p ++ e :: L.drop p)[j]? = if j < p then L[j]? else if j = p then some e else L[j - 1]? := by
  have hl : (L.take p).length = p := by rw [List.length_take]; omega
  by_cases c : j < p
  · rw [if_pos c, List.getElem?_append_left (by omega), List.getElem?_take_of_lt c]
  · rw [if_neg c, List.getElem?_append_right (by omega), hl]
    by_cases c2 : j = p
    · rw [if_pos c2, c2, Nat.sub_self]; rfl
    · rw [if_neg c2]
      obtain ⟨i, hi⟩ : ∃ i, j - p = i + 1 := ⟨j - p - 1, by omega⟩
      rw [hi, List.getElem?_cons_succ, List.getElem?_drop]
      congr 1
      omega
theorem eIns_at {f : Int32} {e : En} : ∀ {L : List En} {p : Nat}, p ≤ L.length → (∀ i a, i < p → L[i]? = some a → kE f a < kE f e) → (∀ i a, p ≤ i → L[i]? = some a → kE f e < kE f a) → eIns f e L = L.take p ++ e :: L.drop p
  | [], p, hp, _, _ => by
    have : p = 0 := by
      have : ([] : List En).length = 0 := rfl
      omega
    subst this
    rfl
  | b :: L, 0, _, _, h2 => by
    have := h2 0 b (Nat.le_refl _) rfl
    unfold eIns
    rw [if_neg (by omega)]
    rfl
  | b :: L, p + 1, hp, h1, h2 => by
    have := h1 0 b (by omega) rfl
    have ih := eIns_at (f := f) (e := e) (L := L) (p := p) (by have : (b :: L).length = L.length + 1 := rfl; omega) (fun i a hi ha => h1 (i + 1) a (by omega) (by rw [List.getElem?_cons_succ]; exact ha)) (fun i a hi ha => h2 (i + 1) a (by omega) (by rw [List.getElem?_cons_succ]; exact ha))
    unfold eIns
    rw [if_pos this, ih]
    rfl
abbrev Wen : List Nat := [139, 140, 141, 142, 143, 144]
def enW (t : moS) (k : Nat) (e : En) : moS := moSI (moSI (moSI (moSJ (moSJ t 140 k e.1) 141 k e.2.1) 142 k e.2.2.1) 143 k e.2.2.2.1) 144 k e.2.2.2.2
/-- entry a is copied to b -/
def enC (t : moS) (a b : Nat) : moS := cpI 144 a b (cpI 143 a b (cpI 142 a b (cpJ 141 a b (cpJ 140 a b t))))
section Me
variable {t t1 : moS} {f : Int32} {e : En} {L : List En}
theorem enC_v {a b j : Nat} : enV (enC t a b) j = if j = b then enV t a else enV t j := by
  unfold enV enC
  by_cases c : j = b
  · rw [if_pos c]
    simp [cpI_I, cpJ_I, cpI_J, cpJ_J, c]
  · rw [if_neg c]
    simp [cpI_I, cpJ_I, cpI_J, cpJ_J, c]
theorem enC_m {a b : Nat} : mfr [140, 141, 142, 143, 144] t (enC t a b) := by
  unfold enC
  have h1 : mfr [140, 141, 142, 143, 144] t (cpJ 140 a b t) := mfr.sj (by decide)
  generalize cpJ 140 a b t = u1 at h1 ⊢
  have h2 : mfr [140, 141, 142, 143, 144] u1 (cpJ 141 a b u1) := mfr.sj (by decide)
  generalize cpJ 141 a b u1 = u2 at h2 ⊢
  have h3 : mfr [140, 141, 142, 143, 144] u2 (cpI 142 a b u2) := mfr.si (by decide)
  generalize cpI 142 a b u2 = u3 at h3 ⊢
  have h4 : mfr [140, 141, 142, 143, 144] u3 (cpI 143 a b u3) := mfr.si (by decide)
  generalize cpI 143 a b u3 = u4 at h4 ⊢
  exact (((h1.tr h2).tr h3).tr h4).tr (mfr.si (by decide))
theorem enC_N {a b k : Nat} : (enC t a b).N k = t.N k := rfl
theorem enW_v {k j : Nat} : enV (enW t k e) j = if j = k then e else enV t j := by
  unfold enV enW
  by_cases c : j = k
  · rw [if_pos c]
    subst c
    simp [evMI, evMJ, evIJ, evJI]
  · rw [if_neg c]
    simp [evMI, evMJ, evIJ, evJI, c]
theorem enW_m {k : Nat} : mfr [140, 141, 142, 143, 144] t (enW t k e) := by
  unfold enW
  have h1 : mfr [140, 141, 142, 143, 144] t (moSJ t 140 k e.1) := mfr.sj (by decide)
  generalize moSJ t 140 k e.1 = u1 at h1 ⊢
  have h2 : mfr [140, 141, 142, 143, 144] u1 (moSJ u1 141 k e.2.1) := mfr.sj (by decide)
  generalize moSJ u1 141 k e.2.1 = u2 at h2 ⊢
  have h3 : mfr [140, 141, 142, 143, 144] u2 (moSI u2 142 k e.2.2.1) := mfr.si (by decide)
  generalize moSI u2 142 k e.2.2.1 = u3 at h3 ⊢
  have h4 : mfr [140, 141, 142, 143, 144] u3 (moSI u3 143 k e.2.2.2.1) := mfr.si (by decide)
  generalize moSI u3 143 k e.2.2.2.1 = u4 at h4 ⊢
  exact (((h1.tr h2).tr h3).tr h4).tr (mfr.si (by decide))
theorem n14 (hN : mN t) : ∀ k, k ∈ [140, 141, 142, 143, 144] → t.N k = 2800 := fun k hk => by
  simp only [List.mem_cons, List.not_mem_nil, or_false] at hk
  rcases hk with rfl | rfl | rfl | rfl | rfl <;> exact hN.n _ 2800
theorem kE_ah {a : En} {h l : Int64} {n m g : Int32} (h1 : lnOk f a.2.2.1) (h2 : lnOk f n) : M_isAhead a.1 a.2.1 a.2.2.1 h l n = some (if kE f a < kE f (h, l, n, m, g) then 1 else 0) := by
  unfold kE
  exact ky_same h1 h2
theorem m_enter (hN : mN t) (hE : EN t L) (hL : L.length < 2800) (hs : eSo f L) (ho : ∀ a, a ∈ L → lnOk f a.2.2.1) (he : lnOk f e.2.2.1) (hn : ∀ a, a ∈ L → kE f a ≠ kE f e) : ∃ t', M_enter t e.1 e.2.1 e.2.2.1 e.2.2.2.1 e.2.2.2.2 = some t' ∧ EN t' (eIns f e L) ∧ mfr Wen t t' := by
  obtain ⟨e139, hv⟩ := hE
  have ahd : ∀ (a : En) (h l : Int64) (n m g : Int32), lnOk f a.2.2.1 → lnOk f n → M_isAhead a.1 a.2.1 a.2.2.1 h l n = some (if kE f a < kE f (h, l, n, m, g) then 1 else 0) := fun a h l n m g h1 h2 => kE_ah (m := m) (g := g) h1 h2
  have eat : ∀ {p : Nat}, p ≤ L.length → (∀ i a, i < p → L[i]? = some a → kE f a < kE f e) → (∀ i a, p ≤ i → L[i]? = some a → kE f e < kE f a) → eIns f e L = L.take p ++ e :: L.drop p := eIns_at
  unfold eSo at hs
  generalize kE f = K at ahd eat hs hn
  have hlen : (moSS t 139 (t.S 139 + 1)).S 139 = nI (L.length + 1) := by rw [moSS_s, e139, nI_1]
  -- the end, at place k
  have fin : ∀ k t1, k ≤ L.length → mfr Wen t t1 → t1.S 139 = nI (L.length + 1) → (∀ j, j < k → L[j]? = some (enV t1 j)) → (∀ j, k < j → j ≤ L.length → L[j - 1]? = some (enV t1 j)) → (∀ i a, i < k → L[i]? = some a → K a < K e) → (∀ i a, k ≤ i → L[i]? = some a → K e < K a) → ∃ t', M_enter_b144 t1 e.1 e.2.1 e.2.2.1 e.2.2.2.1 e.2.2.2.2 (nI k) = some t' ∧ EN t' (eIns f e L) ∧ mfr Wen t t' := by
    intro k t1 hk m1 h139 ha hb hc hd
    have hN1 : mN t1 := hN.fr m1 rfl
    have n := n14 hN1
    refine ⟨enW t1 k e, ?_, ⟨?_, fun j hj => ?_⟩, m1.tr (enW_m.wk (by decide))⟩
    · unfold M_enter_b144
      refine (sw_J (n := 2800) (by exact n 140 (by decide)) (by omega) (by decide)).trans ?_
      refine (sw_J (n := 2800) (by exact n 141 (by decide)) (by omega) (by decide)).trans ?_
      refine (sw_I (n := 2800) (by exact n 142 (by decide)) (by omega) (by decide)).trans ?_
      refine (sw_I (n := 2800) (by exact n 143 (by decide)) (by omega) (by decide)).trans ?_
      refine (sw_I (n := 2800) (by exact n 144 (by decide)) (by omega) (by decide)).trans ?_
      rfl
    · rw [eIns_l, enW_m.S 139 (by decide)]; exact h139
    · rw [eat hk hc hd, ins_get hk, enW_v]
      rw [eIns_l] at hj
      by_cases c1 : j < k
      · rw [if_pos c1, if_neg (by omega)]; exact ha j c1
      · rw [if_neg c1]
        by_cases c2 : j = k
        · rw [if_pos c2, if_pos c2]
        · rw [if_neg c2, if_neg c2]; exact hb j (by omega) (by omega)
  have loop : ∀ k t1, k ≤ L.length → mfr Wen t t1 → t1.S 139 = nI (L.length + 1) → (∀ j, j < k → L[j]? = some (enV t1 j)) → (∀ j, k < j → j ≤ L.length → L[j - 1]? = some (enV t1 j)) → (∀ i a, k ≤ i → L[i]? = some a → K e < K a) → ∃ t', lp (fun x : Int32 × moS => M_enter_s16 x.2 e.1 e.2.1 e.2.2.1 e.2.2.2.1 e.2.2.2.2 x.1) (nI k, t1) = some t' ∧ EN t' (eIns f e L) ∧ mfr Wen t t' := by
    intro k
    induction k with
    | zero =>
      intro t1 hk m1 h139 ha hb hd
      obtain ⟨t', q1, q2, q3⟩ := fin 0 t1 hk m1 h139 ha hb (fun i a hi _ => absurd hi (Nat.not_lt_zero _)) hd
      refine ⟨t', ?_, q2, q3⟩
      rw [← q1]
      refine lp_x ?_
      show M_enter_s16 t1 e.1 e.2.1 e.2.2.1 e.2.2.2.1 e.2.2.2.2 (nI 0) = _
      unfold M_enter_s16
      rw [if_neg (by decide)]
    | succ k ih =>
      intro t1 hk m1 h139 ha hb hd
      have hN1 : mN t1 := hN.fr m1 rfl
      have n := n14 hN1
      have ek : nI (k + 1) - 1 = nI k := by rw [show (1 : Int32) = nI 1 from rfl, pk_sub (by omega)]; rfl
      have gk := ha k (by omega)
      have mem : enV t1 k ∈ L := List.mem_of_getElem? gk
      have ah : M_isAhead e.1 e.2.1 e.2.2.1 (t1.J 140 k) (t1.J 141 k) (t1.I 142 k) = some (if K e < K (enV t1 k) then 1 else 0) := ahd e (t1.J 140 k) (t1.J 141 k) (t1.I 142 k) (t1.I 143 k) (t1.I 144 k) he (ho _ mem)
      have hne := hn _ mem
      have rd3 : ∀ {β : Type} (F : Int32 → Option β), Option.bind (rdJ t1 140 (nI (k + 1) - 1)) (fun x1 => Option.bind (rdJ t1 141 (nI (k + 1) - 1)) (fun x2 => Option.bind (rdI t1 142 (nI (k + 1) - 1)) (fun x3 => Option.bind (M_isAhead e.1 e.2.1 e.2.2.1 x1 x2 x3) F))) = F (if K e < K (enV t1 k) then 1 else 0) := fun F => by
        rw [ek, rdJ_n (n := 2800) (n 140 (by decide)) (show k < 2800 by omega) (by decide), rdJ_n (n := 2800) (n 141 (by decide)) (show k < 2800 by omega) (by decide), rdI_n (n := 2800) (n 142 (by decide)) (show k < 2800 by omega) (by decide)]
        show Option.bind (M_isAhead e.1 e.2.1 e.2.2.1 (t1.J 140 k) (t1.J 141 k) (t1.I 142 k)) F = _
        rw [ah]
        rfl
      have stT : K e < K (enV t1 k) → M_enter_s16 t1 e.1 e.2.1 e.2.2.1 e.2.2.2.1 e.2.2.2.2 (nI (k + 1)) = some (.inl (nI k, enC t1 k (k + 1))) := fun c => by
        unfold M_enter_s16
        rw [if_pos (show (0 : Int32) < nI (k + 1) from nI_lt (a := 0) (by omega) (by omega))]
        refine (rd3 _).trans ?_
        rw [if_pos c, ek]
        refine (if_neg (show ¬ (1 : Int32) = 0 by decide)).trans ?_
        refine (st_J (n := 2800) (by exact n 140 (by decide)) (by omega) (by omega) (by decide)).trans ?_
        refine (st_J (n := 2800) (by exact n 141 (by decide)) (by omega) (by omega) (by decide)).trans ?_
        refine (st_I (n := 2800) (by exact n 142 (by decide)) (by omega) (by omega) (by decide)).trans ?_
        refine (st_I (n := 2800) (by exact n 143 (by decide)) (by omega) (by omega) (by decide)).trans ?_
        refine (st_I (n := 2800) (by exact n 144 (by decide)) (by omega) (by omega) (by decide)).trans ?_
        rw [show nI (k + 1) + (-1) = nI k by rw [← Int32.sub_eq_add_neg]; exact ek]
        rfl
      have stF' : ¬ K e < K (enV t1 k) → M_enter_s16 t1 e.1 e.2.1 e.2.2.1 e.2.2.2.1 e.2.2.2.2 (nI (k + 1)) = xo (M_enter_b144 t1 e.1 e.2.1 e.2.2.1 e.2.2.2.1 e.2.2.2.2 (nI (k + 1))) := fun c => by
        unfold M_enter_s16
        rw [if_pos (show (0 : Int32) < nI (k + 1) from nI_lt (a := 0) (by omega) (by omega))]
        refine (rd3 _).trans ?_
        rw [if_neg c]
        exact if_pos rfl
      by_cases c : K e < K (enV t1 k)
      · have st1 := stT c
        have := ih (enC t1 k (k + 1)) (by omega) (m1.tr (enC_m.wk (by decide))) (by rw [enC_m.S 139 (by decide)]; exact h139) (fun j hj => ?_) (fun j h1 h2 => ?_) (fun i a h1 h2 => ?_)
        · obtain ⟨t', q1, q2, q3⟩ := this
          exact ⟨t', (lp_l (f := fun x : Int32 × moS => M_enter_s16 x.2 e.1 e.2.1 e.2.2.1 e.2.2.2.1 e.2.2.2.2 x.1) (x := (nI (k + 1), t1)) st1).trans q1, q2, q3⟩
        · rw [enC_v, if_neg (by omega)]; exact ha j (by omega)
        · rw [enC_v]
          by_cases c2 : j = k + 1
          · rw [if_pos c2, c2]; exact gk
          · rw [if_neg c2]; exact hb j (by omega) h2
        · by_cases c2 : i = k
          · rw [c2, gk] at h2
            cases h2
            exact c
          · exact hd i a (by omega) h2
      · have hlt : K (enV t1 k) < K e := by omega
        have st1 := stF' c
        obtain ⟨t', q1, q2, q3⟩ := fin (k + 1) t1 hk m1 h139 ha hb (fun i a hi hia => by
          by_cases c2 : i = k
          · rw [c2, gk] at hia
            cases hia
            exact hlt
          · obtain ⟨hik, ei⟩ := List.getElem?_eq_some_iff.mp hia
            obtain ⟨hkk, ek'⟩ := List.getElem?_eq_some_iff.mp gk
            have := List.pairwise_iff_getElem.mp hs i k hik hkk (by omega)
            rw [ei, ek'] at this
            exact Nat.lt_trans this hlt) hd
        exact ⟨t', (lp_x (f := fun x : Int32 × moS => M_enter_s16 x.2 e.1 e.2.1 e.2.2.1 e.2.2.2.1 e.2.2.2.2 x.1) (x := (nI (k + 1), t1)) st1).trans q1, q2, q3⟩
  unfold M_enter
  show ∃ t', M_enter_b16 (moSS t 139 (t.S 139 + 1)) e.1 e.2.1 e.2.2.1 e.2.2.2.1 e.2.2.2.2 (t.S 139) = some t' ∧ _
  rw [e139] at hlen ⊢
  exact loop L.length _ (Nat.le_refl _) (mfr.ss (by decide)) hlen hv (fun j h1 h2 => absurd h1 (by omega)) (fun i a h1 h2 => by
    have := (List.getElem?_eq_some_iff.mp h2).1
    omega)
end Me
