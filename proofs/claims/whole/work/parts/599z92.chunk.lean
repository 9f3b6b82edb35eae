/-! The model tells what it has gathered: entries laid, one datagram after another. -/
/-- the bytes of n entries from a on -/
def EBn (f : Int32) (L : List En) (a n : Nat) : List Int32 := ((L.drop a).take n).flatMap (eB f)
theorem EB_l {f : Int32} {L : List En} {a n : Nat} (h : a + n ≤ L.length) : (EBn f L a n).length = 20 * n := by
  unfold EBn
  rw [List.length_flatMap]
  have : ∀ (M : List En), (M.map fun e => (eB f e).length).sum = 20 * M.length := by
    intro M
    induction M with
    | nil => rfl
    | cons e M ih =>
      rw [List.map_cons, List.sum_cons, ih, eB_l, List.length_cons]
      omega
  rw [this, List.length_take, List.length_drop]
  omega
theorem EB_s {f : Int32} {L : List En} {a n : Nat} {e : En} (h : L[a + n]? = some e) : EBn f L a (n + 1) = EBn f L a n ++ eB f e := by
  unfold EBn
  have hl : a + n < L.length := (List.getElem?_eq_some_iff.mp h).1
  have e1 : (L.drop a).take (n + 1) = (L.drop a).take n ++ [e] := by
    rw [List.take_succ, List.getElem?_drop, h]
    rfl
  rw [e1, List.flatMap_append]
  simp
abbrev Wtt : List Nat := [146] ++ Wsd
section Mt
variable {t t1 : moS} {r p l f a n N : Nat} {L : List En} {ta : Int32} {th tl : Int64} {V : chV}
theorem EN.fr {W : List Nat} (h : EN t L) (m : mfr W t t1) (d : dj [139, 140, 141, 142, 143, 144] W) : EN t1 L := by
  obtain ⟨h1, h2⟩ := h
  refine ⟨by rw [m.S 139 (d.n 139)]; exact h1, fun j hj => ?_⟩
  have := h2 j hj
  unfold enV at this ⊢
  rw [m.J 140 (d.n 140), m.J 141 (d.n 141), m.I 142 (d.n 142), m.I 143 (d.n 143), m.I 144 (d.n 144)]
  exact this
/-- n entries of a datagram are laid -/
def LD (t t1 : moS) (F : Int32) (L : List En) (a n : Nat) : Prop := mfr [146] t t1 ∧ ∀ i, i < 20 * n → t1.I 146 i = (EBn F L a n).getD i 0
theorem ld_s {F : Int32} {q : Int32} {a8 : Int32} (hM : MV t) (hE : EN t L) (hL : L.length ≤ 2000) (hF : bit F) (hok : ∀ e, e ∈ L → eOk F e) (h1 : LD t t1 F L a n) (han : a + n < L.length) (hn : n < 30) : ∃ t2, LD t t2 F L a (n + 1) ∧ ∀ {β : Type} (K : moS → Option β), Option.bind (M_layEntry t1 F ((20 : Int32) * nI n) (nI (a + n))) K = K t2 := by
  obtain ⟨m1, b1⟩ := h1
  have hE1 : EN t1 L := hE.fr m1 rfl
  have hN1 : mN t1 := hM.n.fr m1 rfl
  have ge := hE1.2 (a + n) han
  obtain ⟨t2, q1, q2, q3, q4⟩ := m_lay (a := 20 * n) (k := a + n) (e := enV t1 (a + n)) hN1 hF (by omega) (by omega) rfl (hok _ (List.mem_of_getElem? ge))
  refine ⟨t2, ⟨m1.tr q2, fun i hi => ?_⟩, fun {β} K => ?_⟩
  · rw [q4 i (by omega), EB_s ge]
    unfold cpF
    rw [eB_l]
    have ll : (EBn F L a n).length = 20 * n := EB_l (by omega)
    by_cases c : 20 * n ≤ i
    · rw [if_pos ⟨c, by omega⟩, gd_r (by omega), ll]
    · rw [if_neg (fun z => c z.1), gd_l (by omega)]
      exact b1 i (by omega)
  · rw [show (20 : Int32) * nI n = nI (20 * n) by rw [show (20 : Int32) = nI 20 from rfl, pk_mul], q1]
    rfl
/-- one datagram: from its first entry to its going -/
theorem m_chunk {F : Int32} {q : Int32} (hM : MV t) (hE : EN t L) (hL : L.length ≤ 2000) (hF : bit F) (hok : ∀ e, e ∈ L → eOk F e) (hN : 1 ≤ N) (hN2 : N ≤ 25) (ha : a < L.length) : ∃ te, LD t te F L a (min N (L.length - a)) ∧ M_tellTo_b14 t q F ta th tl (nI N) 0 (nI a) = Option.bind (M_send te q F 2 (nI (min N (L.length - a))) ta th tl) (fun t2 => M_tellTo_b14 t2 q F ta th tl (nI N) 0 (nI (a + min N (L.length - a)))) := by
  generalize hm : min N (L.length - a) = m
  have hm1 : 1 ≤ m ∧ m ≤ N ∧ a + m ≤ L.length := by omega
  have fin : ∀ (o : Option moS) (k : Int32), (Option.bind o fun s1 => M_tellTo_b76 s1 q F ta th tl (nI N) 0 k) = (Option.bind o fun s1 => some (Sum.inl (0, k + 1, s1))) := fun o k => rfl
  have loop : ∀ y j, j + y + 1 = m → ∀ t1, LD t t1 F L a j → ∃ te, LD t te F L a m ∧ lp (fun x : Int32 × Int32 × moS => M_tellTo_s14 x.2.2 q F ta th tl (nI N) x.1 x.2.1) (nI j, nI (a + j), t1) = Option.bind (M_send te q F 2 (nI m) ta th tl) (fun t2 => M_tellTo_b14 t2 q F ta th tl (nI N) 0 (nI (a + m))) := by
    intro y
    induction y with
    | zero =>
      intro j hj t1 l1
      obtain ⟨te, q1, q2⟩ := ld_s (q := q) (a8 := 0) hM hE hL hF hok l1 (by omega) (by omega)
      rw [show j + 1 = m by omega] at q1
      refine ⟨te, q1, ?_⟩
      have e1 : t1.S 139 = nI L.length := (hE.fr l1.1 rfl).1
      have e2 : te.S 139 = nI L.length := (hE.fr q1.1 rfl).1
      have st : M_tellTo_s14 t1 q F ta th tl (nI N) (nI j) (nI (a + j)) = Option.bind (M_send te q F 2 (nI m) ta th tl) (fun s1 => some (Sum.inl (0, nI (a + m), s1))) := by
        unfold M_tellTo_s14 M_tellTo_b59
        rw [e1, if_pos (nI_lt (by omega) (by omega)), q2, e2, nI_1, nI_1, show j + 1 = m by omega, show a + j + 1 = a + m by omega]
        have b76 : ∀ s1, M_tellTo_b76 s1 q F ta th tl (nI N) 0 (nI (a + j)) = some (Sum.inl (0, nI (a + m), s1)) := fun s1 => by
          unfold M_tellTo_b76
          rw [nI_1, show a + j + 1 = a + m by omega]
        simp only [b76]
        by_cases c1 : m < N
        · rw [if_pos (nI_lt c1 (by omega)), if_neg (nI_nlt (by omega) (by omega))]
        · rw [if_neg (nI_nlt (by omega) (by omega))]
      cases es : M_send te q F 2 (nI m) ta th tl with
      | none =>
        rw [es] at st
        refine lp_x (o := none) ?_
        exact st
      | some t2 =>
        rw [es] at st
        exact lp_l (f := fun x : Int32 × Int32 × moS => M_tellTo_s14 x.2.2 q F ta th tl (nI N) x.1 x.2.1) (x := (nI j, nI (a + j), t1)) (y := (0, nI (a + m), t2)) st
    | succ y ih =>
      intro j hj t1 l1
      obtain ⟨t2, q1, q2⟩ := ld_s (q := q) (a8 := 0) hM hE hL hF hok l1 (by omega) (by omega)
      have e1 : t1.S 139 = nI L.length := (hE.fr l1.1 rfl).1
      have e2 : t2.S 139 = nI L.length := (hE.fr q1.1 rfl).1
      have st : M_tellTo_s14 t1 q F ta th tl (nI N) (nI j) (nI (a + j)) = some (.inl (nI (j + 1), nI (a + (j + 1)), t2)) := by
        unfold M_tellTo_s14 M_tellTo_b76
        rw [e1, if_pos (nI_lt (by omega) (by omega)), q2, e2, nI_1, nI_1, if_pos (nI_lt (by omega) (by omega)), if_pos (nI_lt (by omega) (by omega)), show a + j + 1 = a + (j + 1) by omega]
      obtain ⟨te, w1, w2⟩ := ih (j + 1) (by omega) t2 q1
      exact ⟨te, w1, (lp_l (f := fun x : Int32 × Int32 × moS => M_tellTo_s14 x.2.2 q F ta th tl (nI N) x.1 x.2.1) (x := (nI j, nI (a + j), t1)) st).trans w2⟩
  exact loop (m - 1) 0 (by omega) t ⟨mfr.rf, fun i hi => absurd hi (Nat.not_lt_zero _)⟩
theorem m_tt_end {F : Int32} {q : Int32} (hE : EN t L) (hL : L.length ≤ 2000) : M_tellTo_b14 t q F ta th tl (nI N) 0 (nI L.length) = some t := by
  unfold M_tellTo_b14
  refine lp_x ?_
  show M_tellTo_s14 t q F ta th tl (nI N) 0 (nI L.length) = _
  unfold M_tellTo_s14
  rw [hE.1, if_neg (nI_nlt (Nat.le_refl _) (by omega))]
/-- nothing can go: all is laid in vain -/
theorem m_vain {F : Int32} {q : Int32} (hE : EN t L) (hM : MV t) (hL : L.length ≤ 2000) (hF : bit F) (hok : ∀ e, e ∈ L → eOk F e) (hN2 : N ≤ 25) (hs : ∀ t1 n, mfr [146, 147, 148] t t1 → n ≤ 25 → (∃ E : List Int32, E.length = 20 * n ∧ ∀ i, i < E.length → t1.I 146 i = E.getD i 0) → ∃ t2, M_send t1 q F 2 (nI n) ta th tl = some t2 ∧ mfr [147, 148] t1 t2) : ∃ t', M_tellTo_b14 t q F ta th tl (nI N) 0 0 = some t' ∧ mfr [146, 147, 148] t t' := by
  have loop : ∀ y k, k + y = L.length → ∀ n t1, mfr [146, 147, 148] t t1 → n ≤ 24 → (∃ E : List Int32, E.length = 20 * n ∧ ∀ i, i < E.length → t1.I 146 i = E.getD i 0) → ∃ t', lp (fun x : Int32 × Int32 × moS => M_tellTo_s14 x.2.2 q F ta th tl (nI N) x.1 x.2.1) (nI n, nI k, t1) = some t' ∧ mfr [146, 147, 148] t t' := by
    intro y
    induction y with
    | zero =>
      intro k hk n t1 m1 hn _
      have hk : k = L.length := by omega
      subst hk
      refine ⟨t1, lp_x ?_, m1⟩
      show M_tellTo_s14 t1 q F ta th tl (nI N) (nI n) (nI L.length) = _
      unfold M_tellTo_s14
      rw [(hE.fr m1 rfl).1, if_neg (nI_nlt (Nat.le_refl _) (by omega))]
    | succ y ih =>
      intro k hk n t1 m1 hn ⟨E, hE1, hE2⟩
      have hEt : EN t1 L := hE.fr m1 rfl
      have hN1 : mN t1 := hM.n.fr m1 rfl
      have ge := hEt.2 k (by omega)
      obtain ⟨t2, q1, q2, q3, q4⟩ := m_lay (a := 20 * n) (k := k) (e := enV t1 k) hN1 hF (by omega) (by omega) rfl (hok _ (List.mem_of_getElem? ge))
      have m2 : mfr [146, 147, 148] t t2 := m1.tr (q2.wk (by decide))
      have b2 : ∃ E : List Int32, E.length = 20 * (n + 1) ∧ ∀ i, i < E.length → t2.I 146 i = E.getD i 0 := by
        refine ⟨E ++ eB F (enV t1 k), by rw [List.length_append, eB_l]; omega, fun i hi => ?_⟩
        rw [List.length_append, eB_l] at hi
        rw [q4 i (by omega)]
        unfold cpF
        rw [eB_l]
        by_cases c : 20 * n ≤ i
        · rw [if_pos ⟨c, by omega⟩, gd_r (by omega), hE1]
        · rw [if_neg (fun z => c z.1), gd_l (by omega)]
          exact hE2 i (by omega)
      have e1 : t1.S 139 = nI L.length := hEt.1
      have e2 : t2.S 139 = nI L.length := (hE.fr m2 rfl).1
      have lay : ∀ {β : Type} (K : moS → Option β), Option.bind (M_layEntry t1 F ((20 : Int32) * nI n) (nI k)) K = K t2 := fun {β} K => by
        rw [show (20 : Int32) * nI n = nI (20 * n) by rw [show (20 : Int32) = nI 20 from rfl, pk_mul], q1]
        rfl
      by_cases c : n + 1 < N ∧ k + 1 < L.length
      · have st : M_tellTo_s14 t1 q F ta th tl (nI N) (nI n) (nI k) = some (.inl (nI (n + 1), nI (k + 1), t2)) := by
          unfold M_tellTo_s14 M_tellTo_b76
          rw [e1, if_pos (nI_lt (by omega) (by omega)), lay, e2, nI_1, nI_1, if_pos (nI_lt c.1 (by omega)), if_pos (nI_lt c.2 (by omega))]
        obtain ⟨t', w1, w2⟩ := ih (k + 1) (by omega) (n + 1) t2 m2 (by omega) b2
        exact ⟨t', (lp_l (f := fun x : Int32 × Int32 × moS => M_tellTo_s14 x.2.2 q F ta th tl (nI N) x.1 x.2.1) (x := (nI n, nI k, t1)) st).trans w1, w2⟩
      · obtain ⟨t3, z1, z2⟩ := hs t2 (n + 1) m2 (by omega) b2
        have st : M_tellTo_s14 t1 q F ta th tl (nI N) (nI n) (nI k) = some (.inl (nI 0, nI (k + 1), t3)) := by
          unfold M_tellTo_s14 M_tellTo_b59 M_tellTo_b76
          rw [e1, if_pos (nI_lt (by omega) (by omega)), lay, e2, nI_1, nI_1, z1]
          simp only [Option.bind_some]
          by_cases c1 : n + 1 < N
          · rw [if_pos (nI_lt c1 (by omega)), if_neg (nI_nlt (by omega) (by omega))]
            rfl
          · rw [if_neg (nI_nlt (by omega) (by omega))]
            rfl
        obtain ⟨t', w1, w2⟩ := ih (k + 1) (by omega) 0 t3 (m2.tr (z2.wk (by decide))) (by omega) ⟨[], rfl, fun i hi => absurd hi (Nat.not_lt_zero _)⟩
        exact ⟨t', (lp_l (f := fun x : Int32 × Int32 × moS => M_tellTo_s14 x.2.2 q F ta th tl (nI N) x.1 x.2.1) (x := (nI n, nI k, t1)) st).trans w1, w2⟩
  exact loop L.length 0 (by omega) 0 t mfr.rf (by omega) ⟨[], rfl, fun i hi => absurd hi (Nat.not_lt_zero _)⟩
end Mt
