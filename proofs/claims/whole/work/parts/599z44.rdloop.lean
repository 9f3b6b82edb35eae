/-! The lines of the tape, one after another. -/
section Rl
variable {G H : Nat → Nat → Nat} {sa : Nat → Nat} {x rd kc ks : Nat} {s : cS} {t : moS} {l : List Int32} {a1 a2 : Int32}
theorem rr_3 (hR : RR G H sa x s t) (hM : MV t) : MV (moSS t 3 0) ∧ RR G H sa x (cSI s 1 (H 220 x) 0) (moSS t 3 0) ∧ fr [1] [] [] s (cSI s 1 (H 220 x) 0) := by
  obtain ⟨hq, ⟨cap, hc, hb⟩, -⟩ := hR.q
  have h220 := hq.ty.p hq.1.1 220 1
  have m : mfr [0, 2, 3] t (moSS t 3 0) := mfr.ss (by decide)
  have f : fr [1, 101] [(0, 1)] [] s (cSI s 1 (H 220 x) 0) := fr.si (by rw [h220.2]; decide)
  have f1 : fr [1] [] [] s (cSI s 1 (H 220 x) 0) := fr.si (by rw [h220.2]; decide)
  have e3 : (moSS t 3 0).S 3 = nI 0 := moSS_s
  refine ⟨hM.fr m rfl (hM.1.tp m e3 (by decide)), tp_end hR hM (hq.1.v rfl rfl f rfl rfl rfl) f m hc ?_, f1⟩
  obtain ⟨a1, a2, d, a3, a4, a5, a6, a7, a8, a9⟩ := hb
  rw [e3, show (nI 0).toNatClampNeg = 0 from rfl]
  exact ⟨a1, a2, d, a3, a4, cSI_s, Nat.zero_le _, a7, a8, fun i hi => absurd hi (Nat.not_lt_zero i)⟩
/-- the tape of both -/
theorem tape_of (hR : RR G H sa x s t) (hM : MV t) (hl : l = tl (t.I 2) (t.S 3).toNatClampNeg) : l.length ≤ 4096 ∧ t.S 3 = nI l.length ∧ (∃ cap, BL s (H 220 x) 101 l cap) ∧ uT t (vc l) l.length := by
  obtain ⟨n, e3, -, hn⟩ := hM.1.2.2.1
  have ec : (t.S 3).toNatClampNeg = n := by rw [e3, nI_clamp (by omega)]
  have ll : l.length = n := by rw [hl, ec]; exact tl_len _ _
  obtain ⟨⟨cap, -, hb⟩, -⟩ := hR.q.2
  rw [← hl] at hb
  refine ⟨by omega, by rw [ll]; exact e3, ⟨cap, hb⟩, by omega, vc_lt _, fun i hi => ?_⟩
  rw [rdI_n (k := 2) (i := i) (n := 4096) (hM.n.n 2 4096) (by omega) (by decide), ← hb.gv hi, hl, tl_get (by omega)]
theorem m_b31 (h3 : t.S 3 = nI l.length) (hu : uT t (vc l) l.length) : ∀ d i, i + d = l.length → M_read_b31 t a1 a2 (nI i) = M_read_b56 t a1 a2 (nI (fnd (vc l) 10 d i))
  | 0, i, hi => by
    unfold M_read_b31
    refine lp_x ?_
    show M_read_s31 t a1 a2 (nI i) = _
    have := hu.1
    unfold M_read_s31
    rw [h3, if_neg (nI_nlt (by omega) (by omega))]
    rfl
  | d + 1, i, hi => by
    have h4 := hu.1
    have st : M_read_s31 t a1 a2 (nI i) = if vc l i = 10 then xo (M_read_b56 t a1 a2 (nI i)) else some (.inl (nI (i + 1), t)) := by
      unfold M_read_s31
      rw [h3, if_pos (nI_lt (by omega) (by omega)), hu.2.2 i (by omega)]
      simp only [Option.bind_some]
      have := hu.2.1 i
      by_cases c : vc l i = 10
      · rw [if_pos c, if_pos (show nI (vc l i) = 10 by rw [c]; rfl)]
      · rw [if_neg c, if_neg (show ¬ nI (vc l i) = 10 from fun z => c ((nI_eq (b := 10) (by omega) (by decide)).mp z)), nI_1]
    show _ = M_read_b56 t a1 a2 (nI (if vc l i = 10 then i else fnd (vc l) 10 d (i + 1)))
    by_cases c : vc l i = 10
    · rw [if_pos c] at st ⊢
      unfold M_read_b31
      exact lp_x st
    · rw [if_neg c] at st ⊢
      rw [← m_b31 h3 hu d (i + 1) (by omega)]
      unfold M_read_b31
      exact lp_l (f := fun x : Int32 × moS => M_read_s31 x.2 a1 a2 x.1) st
theorem c_b48 {cap : Nat} {Q : Int32 → cS → Nat → Nat → Prop} {P28 : Int32 → Int32 → cS → Nat → Nat → Prop} (hx : okO s 11 x) (h220 : s.P 220 x = some (H 220 x)) (hb : BL s (H 220 x) 101 l cap) (h4 : l.length ≤ 4096) : ∀ d i, i + d = l.length → C_Rf_read_b78 sa x a1 a2 (nI (fnd (vc l) 10 d i)) s kc ks Q P28 → C_Rf_read_b48 sa x a1 a2 (nI i) s kc ks Q P28
  | 0, i, hi, k => by
    intro P48 hc
    refine hc _ _ _ _ ?_
    unfold C_Rf_read_s48
    refine ⟨_, gd_to hx, _, h220, _, gd_to hb.1, ?_⟩
    rw [show s.I (20 * 0 + 1) (H 220 x) = nI l.length from hb.2.2.choose_spec.2.2.1]
    exact ifF (nI_nlt (by omega) (by omega)) k
  | d + 1, i, hi, k => by
    intro P48 hc
    refine hc _ _ _ _ ?_
    unfold C_Rf_read_s48
    refine ⟨_, gd_to hx, _, h220, _, gd_to hb.1, ?_⟩
    rw [show s.I (20 * 0 + 1) (H 220 x) = nI l.length from hb.2.2.choose_spec.2.2.1]
    have hv := vc_lt l i
    refine ifT (nI_lt (by omega) (by omega)) ⟨_, gd_to hx, _, h220, hb.1, w_at hb (by omega) ?_⟩
    have k : C_Rf_read_b78 sa x a1 a2 (nI (if vc l i = 10 then i else fnd (vc l) 10 d (i + 1))) s kc ks Q P28 := k
    by_cases c : vc l i = 10
    · rw [if_pos c] at k
      exact ifT (show nI (vc l i) = 10 by rw [c]; rfl) k
    · rw [if_neg c] at k
      refine ifF (fun z => c ((nI_eq (b := 10) (by omega) (by decide)).mp z)) ?_
      rw [nI_1]
      exact c_b48 hx h220 hb h4 d (i + 1) (by omega) k P48 hc
end Rl
