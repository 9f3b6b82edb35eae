/-! The model's wrap. -/
abbrev Wsm : List Nat := [147, 148, 157, 158, 159, 160]
theorem mf_si {W : List Nat} {t t' : moS} {k i : Nat} {v : Int32} (h : mfr W t t') (hk : k ∉ W) : mfr W (moSI t k i v) (moSI t' k i v) := by
  refine ⟨fun j hj => ⟨(h.1 j hj).1, (h.1 j hj).2.1, ?_, (h.1 j hj).2.2.2⟩, h.2⟩
  by_cases c : j = k
  · rw [c, moSI_s, moSI_s, h.I k hk]
  · rw [moSI_n c, moSI_n c]; exact h.I j hj
section Wt
variable {t0 t : moS} {n q b : Nat} {f : Nat → Int32} {V : chV} {E L y : List Int32} {v : kV} {cmd : Int32}
theorem WF.bs (h : WF [147, 148] t0 t n f) : WF [147, 148] t t n f := ⟨mfr.rf, h.2⟩
/-- what the model has of a key -/
def MK (t : moS) (x : Nat) (v : kV) : Prop := t.I 83 x = v.1 ∧ t.I 84 x = v.2.1 ∧ t.I 85 x = nI v.2.2.1.length ∧ ∀ i, i < v.2.2.1.length → t.I 86 (16 * x + i) = v.2.2.1.getD i 0
theorem MK.fr {W : List Nat} {x : Nat} {t' : moS} (h : MK t x v) (m : mfr W t t') (d : 83 ∉ W ∧ 84 ∉ W ∧ 85 ∉ W ∧ 86 ∉ W) : MK t' x v := by
  unfold MK
  rw [m.I 83 d.1, m.I 84 d.2.1, m.I 85 d.2.2.1, m.I 86 d.2.2.2]
  exact h
theorem m_wk (h : WF [147, 148] t0 t (24 + E.length) (cpF (kF1 cmd) 24 E)) (hN : mN t0) (hq : q < 24) (hb : b < 4) (hK : MK t0 (4 * q + b) v) (hv : kOkV v) (hE : E.length ≤ 520) : ∃ t', M_wrap_b268 t (nI q) (nI (4 * q + b)) (szK v.2.1) = some (1, t') ∧ OU t' (krL cmd v (t0.I 89 q) E ++ seL v (krL cmd v (t0.I 89 q) E)) ∧ mfr Wsm (moSI t0 89 q (t0.I 89 q + 1)) t' := by
  obtain ⟨hv1, hv2, hv3, -, -⟩ := hv
  have hx : 4 * q + b < 96 := by omega
  generalize hn : 24 + E.length = n at h
  generalize hnn : t0.I 89 q = nn
  obtain ⟨t1, e1, w1⟩ := wf_2 (i := 8) (v := nI n) h (by decide)
  obtain ⟨t3, e3, w3⟩ := wf_w (i := 10) (v := v.1) w1 (by decide)
  obtain ⟨t4, e4, w4⟩ := wf_w (i := 11) (v := szK v.2.1) w3 (by decide)
  obtain ⟨t6, e6, w6⟩ := wf_4 (i := 12) (v := nn) w4 (by decide)
  have N1 : mN t1 := hN.fr w1.1 rfl
  have N4 : mN t4 := hN.fr w4.1 rfl
  have N6 : mN t6 := hN.fr w6.1 rfl
  have e89 : ∀ t', mfr [147, 148] t0 t' → t'.I 89 q = nn := fun t' m => by rw [m.I 89 (by decide)]; exact hnn
  generalize ht8 : moSI t6 89 q (nn + 1) = t8
  have m8 : mfr [89] t6 t8 := by rw [← ht8]; exact mfr.si (by decide)
  have N8 : mN t8 := N6.fr m8 rfl
  have w8 : WF [147, 148] t8 t8 n (kF2 (cpF (kF1 cmd) 24 E) v nn n) := ⟨mfr.rf, by rw [m8.S 148 (by decide)]; exact w6.2.1, n147 N8, fun i hi => by rw [m8.I 147 (by decide)]; exact w6.2.2.2 i hi⟩
  obtain ⟨t9, e9, w9⟩ := wf_2 (i := n) (v := 65535) w8 (by omega)
  obtain ⟨t10, e10, w10⟩ := wf_2 (i := n + 2) (v := 1) w9 (by omega)
  have N10 : mN t10 := N8.fr w10.1 rfl
  have M10 : mfr [89, 147, 148] t0 t10 := (w6.1.wk (by decide)).tr ((m8.wk (by decide)).tr (w10.1.wk (by decide)))
  have hK10 : MK t10 (4 * q + b) v := hK.fr M10 (by decide)
  have lk : (krL cmd v nn E).length = n + 4 := by rw [krL_l]; omega
  obtain ⟨t11, e11, m11, s11⟩ := m_sumOf (p2 := 147) (L := krL cmd v nn E) N10 hx (by rw [hK10.2.1]; exact hv2) hK10.2.2.1 hv3.2.1 (by decide) (n147 N10) (fun i hi => by
    rw [lk] at hi
    rw [w10.2.2.2 i (by omega)]
    have := krL_g (cmd := cmd) (nn := nn) (v := v) (E := E) (i := i) (by omega)
    rw [hn] at this
    exact this) (by rw [lk]; omega)
  rw [kySe_y hK10.2.2.2, hK10.2.1] at s11
  have N11 : mN t11 := N10.fr m11 rfl
  have hK11 : MK t11 (4 * q + b) v := hK10.fr m11 (by decide)
  have w11 : WF [147, 148] t11 t11 n (kF3 (kF2 (cpF (kF1 cmd) 24 E) v nn n) n) := ⟨mfr.rf, by rw [m11.S 148 (by decide)]; exact w10.2.1, n147 N11, fun i hi => by rw [m11.I 147 (by decide)]; exact w10.2.2.2 i hi⟩
  have hz : szN v.2.1 ≤ 20 := by unfold szN; split <;> omega
  obtain ⟨t12, w12, e12⟩ := wf_S (S := sumP v.2.1 (krL cmd v nn E) (fun i => v.2.2.1.getD i 0)) (z := szN v.2.1) w11 ⟨N11.n 160 20, N11.n 84 96⟩ hx hz (fun k hk => s11 k (by unfold szN at hk; exact hk)) (by omega)
  have ez : szK v.2.1 = nI (szN v.2.1) := by unfold szK szN; split <;> rfl
  refine ⟨t12, ?_, ?_, ?_⟩
  · unfold M_wrap_b268
    rw [h.2.1, show (8 : Int32) = nI 8 from rfl, e1]
    refine (sr_I (N1.n 83 96) hx (by decide)).trans ?_
    rw [(hK.fr w1.1 (by decide)).1, show (10 : Int32) = nI 10 from rfl, e3]
    show Option.bind (wrI t3 147 (nI 11) _) _ = _
    rw [e4]
    refine (sr_I (N4.n 89 24) hq (by decide)).trans ?_
    rw [e89 t4 w4.1]
    show Option.bind (M_put4 t4 147 (nI 12) nn) _ = _
    rw [e6]
    refine (sr_I (N6.n 89 24) hq (by decide)).trans ?_
    rw [e89 t6 w6.1]
    refine (sw_I (N6.n 89 24) hq (by decide)).trans ?_
    rw [ht8, w8.2.1, e9]
    show Option.bind (M_put2 t9 147 (t9.S 148 + 2) 1) _ = _
    rw [w9.2.1, show nI n + 2 = nI (n + 2) from nI_add _ 2, e10]
    show Option.bind (M_sumOf t10 (nI (4 * q + b)) 147 (t10.S 148 + 4)) _ = _
    rw [w10.2.1, show nI n + 4 = nI (n + 4) from nI_add _ 4, ← lk, e11, ez]
    exact e12
  · have l2 : (krL cmd v nn E ++ seL v (krL cmd v nn E)).length = n + (if v.2.1 = 0 then 20 else 40) := by
      unfold seL szN
      rw [List.length_append, lk, List.length_append, tl_len]
      split
      · show n + 4 + (16 + 0) = _; omega
      · rw [List.length_replicate]
    refine ⟨?_, ?_, fun i hi => ?_⟩
    · rw [w12.2.1, l2, hK11.2.1]
    · rw [l2]; split <;> omega
    · have i7 : i < 700 := by rw [l2] at hi; split at hi <;> omega
      rw [w12.2.2.2 i i7]
      have := kr_se (cmd := cmd) (nn := nn) (v := v) (E := E) (z := 0) (sha := v.2.1) (i := i) (tl (sumP v.2.1 (krL cmd v nn E) (fun i => v.2.2.1.getD i 0)) (szN v.2.1)) (tl_len _ _) hi
      rw [hn] at this
      exact this
  · have m6 := mf_si (k := 89) (i := q) (v := nn + 1) w6.1 (by decide)
    rw [ht8] at m6
    exact (m6.wk (by decide)).tr ((w10.1.wk (by decide)).tr ((m11.wk (by decide)).tr (w12.1.wk (by decide))))
end Wt
