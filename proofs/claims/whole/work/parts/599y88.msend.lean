/-! The model's send. -/
theorem dv24 : ∀ q, q < 24 → nI q / 4 = nI (q / 4) := by decide +kernel
theorem wrL_l {V : chV} {fa tm nn cmd : Int32} {E L : List Int32} (hV : VV V) (hE : E.length ≤ 500) (h : wrL V fa tm nn cmd E = some L) : L.length ≤ 600 := by
  unfold wrL at h
  split at h
  · split at h
    · cases h; show (hdL cmd 2 ++ E).length ≤ 600; rw [List.length_append]; show 4 + E.length ≤ 600; omega
    · split at h
      · cases h; show (hdL cmd 2 ++ pwL V.2.1 ++ E).length ≤ 600; rw [List.length_append]; show 24 + E.length ≤ 600; omega
      · cases e : bkN tm V.2.2 V.2.2.length with
        | none => rw [e] at h; cases h
        | some b =>
          rw [e] at h
          cases h
          show (krL cmd (V.2.2.getD b k0V) nn E ++ seL (V.2.2.getD b k0V) (krL cmd (V.2.2.getD b k0V) nn E)).length ≤ 600
          generalize V.2.2.getD b k0V = v
          show (krL cmd v nn E ++ seL v (krL cmd v nn E)).length ≤ 600
          rw [List.length_append, krL_l]
          unfold seL
          rw [List.length_append, tl_len]
          have := (sz_n v.2.1).2.1
          split
          · show 28 + E.length + (szN v.2.1 + 0) ≤ 600; omega
          · rw [List.length_replicate]; omega
  · cases h; show (hdL cmd 1 ++ E).length ≤ 600; rw [List.length_append]; show 4 + E.length ≤ 600; omega
section Mz
variable {r p l f m : Nat} {t t' : moS} {V : chV} {L E : List Int32} {ta cmd : Int32} {th tl : Int64}
theorem m_send (hM : MV t) (hr : r < cR t) (hp : p < cI t r) (hf : f = 0 ∨ f = 1) (hl : l < cL t) (h71 : t.I 71 (4 * r + p) = nI l) (hV : VV V) (hC : MC t (4 * r + p) V) (hm : E.length = 20 * m) (h5 : E.length ≤ 560) (hE : ∀ i, i < E.length → t.I 146 i = E.getD i 0) (h5k : V.1 = 2 → E.length ≤ 520 := by exact fun _ => by decide) : (t.I 22 l = 0 → M_send t (nI (4 * r + p)) (nI f) cmd (nI m) ta th tl = some t) ∧ (t.I 22 l ≠ 0 → wrL V (nI f) (t.S 1) (t.I 89 (4 * r + p)) cmd E = none → ∃ t1, M_send t (nI (4 * r + p)) (nI f) cmd (nI m) ta th tl = some t1 ∧ mfr [147, 148] t t1) ∧ (t.I 22 l ≠ 0 → ∀ L, wrL V (nI f) (t.S 1) (t.I 89 (4 * r + p)) cmd E = some L → ∃ tw, OU tw L ∧ mfr Wsm (if nI f = 0 ∧ V.1 = 2 then moSI t 89 (4 * r + p) (t.I 89 (4 * r + p) + 1) else t) tw ∧ M_send t (nI (4 * r + p)) (nI f) cmd (nI m) ta th tl = goM tw r p l ta th tl f) := by
  have hN := hM.n
  have h6 : r < 6 := Nat.lt_of_lt_of_le hr hM.nR
  have h4 : p < 4 := Nat.lt_of_lt_of_le hp (hM.r hr).2.2.2.2.2.2.2.2.2.1.n.2.2
  have hq : 4 * r + p < 24 := by omega
  have h10 := hM.nL
  have hfa : bit (nI f) := by
    rcases hf with rfl | rfl
    · exact Or.inl rfl
    · exact Or.inr rfl
  obtain ⟨w1, w2⟩ := m_wrap (cmd := cmd) (E := E) hN hq hV hC hfa hm h5 h5k hE
  have s1 : ∀ {β : Type} (F : Int32 → Option β), Option.bind (rdI t 71 (nI (4 * r + p))) (fun x1 => Option.bind (rdI t 22 x1) F) = F (t.I 22 l) := fun F => by
    refine (sr_I (hN.n 71 24) hq (by decide)).trans ?_
    rw [h71]
    exact sr_I (hN.n 22 10) (by omega) (by decide)
  refine ⟨fun h0 => ?_, fun h0 hw => ?_, fun h0 L hw => ?_⟩
  · unfold M_send
    refine (s1 _).trans ?_
    rw [if_pos h0]
  · obtain ⟨t1, e1, m1⟩ := w1 hw
    refine ⟨t1, ?_, m1⟩
    unfold M_send
    refine (s1 _).trans ?_
    rw [if_neg h0, e1]
    rfl
  · obtain ⟨tw, e1, o1, m0⟩ := w2 L hw
    refine ⟨tw, o1, m0, ?_⟩
    have m1 : mfr Wwr t tw := by
      by_cases c : nI f = 0 ∧ V.1 = 2
      · rw [if_pos c] at m0
        exact (mfr.si (by decide)).tr (m0.wk (by decide))
      · rw [if_neg c] at m0
        exact m0.wk (by decide)
    have hNw : mN tw := hN.fr m1 rfl
    have e4 : (11 : Int32) * (nI (4 * r + p) / 4) + 5 = nI (11 * r + 5) := by
      rw [dv24 _ hq, show (4 * r + p) / 4 = r by omega, show (11 : Int32) = nI 11 from rfl, pk_mul, show (5 : Int32) = nI 5 from rfl, nI_add]
    have e2 : (2 : Int32) * nI (4 * r + p) + nI f = nI (2 * (4 * r + p) + f) := by rw [show (2 : Int32) = nI 2 from rfl, pk_mul, nI_add]
    unfold M_send
    refine (s1 _).trans ?_
    rw [if_neg h0, e1]
    show (if (1 : Int32) = 0 then some tw else Option.bind (rdI tw 45 ((11 : Int32) * (nI (4 * r + p) / 4) + 5)) _) = _
    rw [if_neg (by decide), e4]
    refine (sr_I (hNw.n 45 66) (by omega) (by decide)).trans ?_
    refine (sw_I (hNw.n 45 66) (by omega) (by decide)).trans ?_
    have hN6 : mN (moSI tw 45 (11 * r + 5) (tw.I 45 (11 * r + 5) + 1)) := hNw.fr (mfr.si (W := [45]) (by decide)) rfl
    refine (sr_I (hN6.n 71 24) hq (by decide)).trans ?_
    rw [e2]
    refine (sr_J (hN6.n 76 48) (by omega) (by decide)).trans ?_
    refine (sr_J (hN6.n 77 48) (by omega) (by decide)).trans ?_
    rw [show (moSI tw 45 (11 * r + 5) (tw.I 45 (11 * r + 5) + 1)).I 71 (4 * r + p) = nI l by rw [moSI_n (by decide), m1.I 71 (by decide)]; exact h71]
    unfold M_send_b93
    have fin : ∀ o : Option moS, Option.bind o (fun s1 => some s1) = o := fun o => by cases o <;> rfl
    rcases hf with rfl | rfl
    · rw [if_pos (show nI 0 = 0 from rfl), fin]; rfl
    · rw [if_neg (show ¬ nI 1 = 0 by decide), fin]; rfl
end Mz
