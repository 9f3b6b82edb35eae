/-! textAt in the law, over any invariant of both memories. -/
section Lt
variable {base b L : Nat} {sa : Nat → Nat} {x m o : Nat} {xs : Nat → Int32} {V : Nat → Nat → cS → moS → Nat → Nat → Prop}
theorem obL_1 {F : Nat → Value} : (obL 20 F)[1]? = some (F 1) := rfl
theorem obL_2 {F : Nat → Value} : (obL 2 F)[1]? = some (F 1) := rfl
theorem lw_txt (hT : ∀ x n s t kc ks, V x n s t kc ks → (s.K x).1 = 30 ∧ mN t ∧ ∃ tx cap n, s.P 221 x = some tx ∧ (s.K tx).1 = 32 ∧ t.S 6 = nI n ∧ n ≤ 120000 ∧ n ≤ t.N 5 ∧ BL s tx 124 (tl (t.I 5) n) cap) (h1 : ∀ x n s t kc ks, V x (n + 1) s t kc ks → (1 ≤ kc ∧ 6 ≤ ks) ∧ V x n s (moSS t 0 1) (kc - 1) (ks - 6) ∧ V x n s (moSS t 0 0) kc ks) (i : Int32) : lwT base sa (picI base sa b L xs V x m o) b L xs x m o i := by
  rintro n M kc ks ⟨R, q, s, t, rfl, hP, hI⟩
  obtain ⟨kx, hN, tx, cap, len, h221, ktx, e6, h12, hN5, hb⟩ := hT _ _ _ _ _ _ hI
  obtain ⟨⟨hkc, hks⟩, hV1, hV0⟩ := h1 _ _ _ _ _ _ hI
  have hP0 := hP
  obtain ⟨hq, hD, hA, hC, hbb, ho, f, hf⟩ := hP
  have h5 : t.N 5 < 2 ^ 31 := by have := hN.2.2.1.2; omega
  by_cases hout : outR i len
  · have e221 : cV s 221 x = .ref tx := (show cV s 221 x = va_rf (s.P 221 x) from rfl).trans (by rw [h221]; rfl)
    have e1 : s.I 1 tx = nI len := by
      obtain ⟨-, -, d, -, -, z, -⟩ := hb
      rw [tl_len] at z
      exact z
    have ev : cV s 1 tx = .int (nI len) := (show cV s 1 tx = .int (s.I 1 tx) from rfl).trans (by rw [e1])
    refine Or.inr ⟨x, o, tx, i, nI len, _, _, rfl, cM_o (u := 30) kx rfl rfl rfl, obL_1.trans (congrArg some e221), cM_o (u := 32) ktx rfl rfl rfl, obL_2.trans (congrArg some ev), ?_, hkc, hks, ?_⟩
    · by_cases c : i < 0
      · exact Or.inl c
      · exact Or.inr (outR_ge hout c)
    · refine ⟨by rw [pic_R hD hA (by rw [hbb]; simp)]; exact hbb, 1, rfl, ?_⟩
      rw [pic_cm hq hA]
      refine pm_rcv_of moM_m (m_textAt sa hq e6 hN5 h5 (by omega) (fun _ => ?_) (fun j e hj => ?_))
      · refine ⟨0, rfl, pm_rcv_of moM_m (m_thrown base sa ?_)⟩
        rw [moSS_s]
        refine ⟨rfl, ⟨R, q, s, moSS t 0 1, (pic_cm hq hA).symm, hP0, hV1⟩, fun z => absurd z (by decide)⟩
      · exact (outR_no hout e hj (by omega)).elim
  · have c : ¬ i < 0 := fun e => hout (Or.inl e)
    obtain ⟨j, rfl, hj⟩ := outR_no0 (n := len) c (fun e => hout (outR_yes0 c e (by omega)))
    have hj' : j < (tl (t.I 5) len).length := by rw [tl_len]; exact hj
    have hw : cW sa (moM R m q t) base s := pic_cW hD hA hC
    obtain ⟨f', hf', hP'⟩ := hP0.up (v := (nI (vc (tl (t.I 5) len) j)).toInt64) (i := 0)
    have ef : f' = f := by
      rw [hf] at hf'
      cases hf'
      rfl
    subst ef
    refine Or.inl (law_textAt (f := f') kx h221 ktx hb hj' hw ho (by rw [pic_R hD hA (by rw [hf]; simp)]; exact hf) ?_)
    obtain ⟨q1, D1, A1, C1, b1, o1, g, hg⟩ := hP'
    rw [pic_up hq hD hA (by rw [hf]; simp)]
    refine ⟨by rw [pic_R D1 A1 (by rw [b1]; simp)]; exact b1, 0, rfl, ?_⟩
    rw [pic_cm q1 A1]
    refine pm_rcv_of moM_m (m_textAt sa q1 e6 hN5 h5 (by omega) (fun z => absurd z hout) (fun j' e hj2 => ?_))
    refine ⟨_, rfl, pm_rcv_of moM_m (m_thrown base sa ?_)⟩
    rw [moSS_s]
    have ej : j' = j := (nI_inj e (by omega) (by omega)).symm
    subst ej
    refine ⟨rfl, ⟨_, q, s, moSS t 0 0, (pic_cm q1 A1).symm, ⟨q1, D1, A1, C1, b1, o1, g, hg⟩, hV0⟩, fun _ => ⟨vp_updL f' 0 (nI (vc (tl (t.I 5) len) j')).toInt64, ?_, ?_⟩⟩
    · rw [← pic_cm q1 A1, pic_R D1 A1 (by rw [pm_up_self]; simp), pm_up_self]
    · have e1 := hb.gv hj'
      rw [tl_get hj] at e1
      rw [e1]
      exact if_pos rfl
end Lt
