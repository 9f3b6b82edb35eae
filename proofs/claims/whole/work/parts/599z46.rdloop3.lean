/-! The lines of the tape, one after another: the loop. -/
section Rm
variable {sa : Nat → Nat} {x rd : Nat} {l : List Int32}
theorem rd_loop : ∀ (m : Nat) (a1 : Int32) (pos : Nat) (G H : Nat → Nat → Nat) (s : cS) (t : moS) (Os : Nat → List Pf) (kc ks : Nat), l.length + 1 ≤ pos + m → pos ≤ l.length + 1 → RR G H sa x s t → MV t → EX Os t → s.P 223 x = some rd → s.P 140 rd = some x → l = tl (t.I 2) (t.S 3).toNatClampNeg → (∀ r, 14 * (Os r).length + (l.length + 1 - pos) + 14 ≤ 14 * 760) → (∀ i, i < 10 → ∃ d, t.I 23 i = nI d ∧ d + (l.length + 1 - pos) + 1 < 2 ^ 31) → PoC s G H t + 16 * (l.length + 1 - pos) + 64 ≤ kc → PoS s G H t + 300 * (l.length + 1 - pos) + 1200 ≤ ks → ∀ Q, RdK sa x G H s t Os kc ks (l.length + 1 - pos) (M_read_b14 t a1 (nI pos)) Q → C_Rf_read_b28 sa x a1 (nI pos) s kc ks Q
  | m, a1, pos, G, H, s, t, Os, kc, ks, hm, hp, hR, hM, hE, h223, h140, hl, hO, hs, hkc, hks, Q, k => by
    intro P28 hc
    refine hc _ _ _ _ _ ?_
    by_cases hend : l.length ≤ pos ∨ t.S 4 ≠ 0
    · refine rd_end hR hM hE hl hp hend fun r t' s' e1 e2 e3 e4 e40 e5 e6 e7 e8 => ?_
      have z1 := pot_kp (G := G) (H := H) (t := t') e7 e8
      have z2 := pot_t (G := G) (H := H) (s := s) e4 rfl
      refine k r t' Os G H s' kc ks e1 e2 e3 (fun r => by omega) (e4.wk (fun y hy => by rw [List.mem_singleton.mp hy]; exact List.mem_cons_self)) e40 (fun i => ⟨0, Nat.zero_le _, ?_⟩) e5 e6 (by rw [z1.1, z2.1]; omega) (by rw [z1.2, z2.2]; omega)
      rw [e4.I 23 (by decide), show nI 0 = 0 from rfl, Int32.add_zero]
    have hpos : pos < l.length := by
      by_cases z : l.length ≤ pos
      · exact absurd (Or.inl z) hend
      · omega
    have h4 : t.S 4 = 0 := by
      by_cases z : t.S 4 = 0
      · exact z
      · exact absurd (Or.inr z) hend
    obtain ⟨hl4, e3, ⟨cap, hb⟩, hu⟩ := tape_of hR hM hl
    have hfe := fnd_le (vc l) 10 (l.length - pos) pos
    have mb := m_b31 (a1 := a1) (a2 := nI pos) e3 hu (l.length - pos) pos (by omega)
    have cb := fun {P28 : Int32 → Int32 → cS → Nat → Nat → Prop} => c_b48 (sa := sa) (kc := kc) (ks := ks) (a1 := a1) (a2 := nI pos) (Q := Q) (P28 := P28) (okr hR.q.1.1.1 11) (hR.q.1.ty.p hR.q.1.1.1 220 1).1 hb hl4 (l.length - pos) pos (by omega)
    generalize fnd (vc l) 10 (l.length - pos) pos = e at hfe mb cb
    obtain ⟨hfe1, hfe2⟩ := hfe
    have he : e ≤ l.length := by omega
    have hx := hR.q.1.1.1
    have o11 := okr hx 11
    have k22 : (s.K rd).1 = 22 := by
      rcases hR.q.1.1.2.2.2.2.2.1 with z | ⟨d, z1, z2⟩
      · rw [h223] at z; cases z
      · rw [h223] at z1; cases z1; exact z2
    obtain ⟨t', Os', w, u, hw, hu', e1, M1, E1, eO, m1, i23', cl⟩ := U_do (kc := kc) (ks := ks) (a1 := a1) hR hM hE h223 h140 h4 hl hfe1 he (fun r => by have := hO r; omega) (fun i hi z => by
      obtain ⟨d, ed, hd⟩ := hs i (Nat.lt_of_lt_of_le hi hM.nL)
      rw [ed, nI_1] at z
      exact nI_pos (n := d + 1) (by omega) z) (by omega) (by omega)
    have em : M_read_b14 t a1 (nI pos) = M_read_b14 t' (a1 + 1) (nI (e + 1)) := by
      unfold M_read_b14
      refine lp_l (f := fun x : Int32 × Int32 × moS => M_read_s14 x.2.2 x.1 x.2.1) ?_
      show M_read_s14 t a1 (nI pos) = some (.inl (a1 + 1, nI (e + 1), t'))
      unfold M_read_s14
      rw [e3, if_pos (nI_lt hpos (by omega)), if_pos h4, mb, e1, nI_1]
    have hl' : l = tl (t'.I 2) (t'.S 3).toNatClampNeg := by rw [m1.I 2 (by decide), m1.S 3 (by decide)]; exact hl
    unfold C_Rf_read_s28
    refine ⟨_, gd_to o11, _, (hR.q.1.ty.p hx 220 1).1, _, gd_to hb.1, ?_⟩
    rw [show s.I (20 * 0 + 1) (H 220 x) = nI l.length from hb.2.2.choose_spec.2.2.1]
    refine ifT (nI_lt hpos (by omega)) ⟨_, gd_to o11, ?_⟩
    rw [show s.I (20 * 11 + 4) x = t.S 4 from hR.q.1.2.2.1.1]
    refine ifT h4 (cb ?_)
    unfold C_Rf_read_b78
    refine ⟨_, gd_to o11, _, h223, okr k22 7, cl _ fun G' H' s' kc' ks' R' k30 kp' c1 c2 => ?_⟩
    refine ⟨_, gd_to (okr k30 11), ?_⟩
    rw [nI_1]
    have kp2 : kp x s (cSI s' 224 x (t'.S 4)) := kp'.tr (kp.e rfl rfl rfl)
    have zp := pot_kp (s := s') (s1 := cSI s' 224 x (t'.S 4)) (G := G') (H := H') (t := t') rfl rfl
    have hW : ∀ y, y ∈ 4 :: 9 :: 10 :: 11 :: Wlu → y ∈ Wrd := fun y hy => List.mem_cons_of_mem _ hy
    by_cases h4' : t'.S 4 = 0
    · -- on it goes
      have c3 : w = 0 ∨ w = 1 ∧ pos + 3 ≤ e := hw.imp_right fun z => ⟨z.1, z.2 h4'⟩
      have c4 : u = 0 ∨ u = 1 ∧ pos + 13 ≤ e := hu'.imp_right fun z => ⟨z.1, z.2 h4'⟩
      refine rd_loop (m - 1) (a1 + 1) (e + 1) G' H' _ t' Os' kc' ks' (by omega) (by omega) R' M1 E1 (kp2.1.trans h223) ((kp2.2.1 rd k22).2.trans h140) hl' (fun r => ?_) (fun i hi => ?_) (by rw [zp.1]; omega) (by rw [zp.2]; omega) Q ?_ P28 hc
      · have y1 := eO r
        have y2 := hO r
        omega
      · obtain ⟨d, ed, hd⟩ := hs i hi
        rcases i23' i with z | z
        · exact ⟨d, by rw [z, ed], by omega⟩
        · exact ⟨d + 1, by rw [z, ed, nI_1], by omega⟩
      · intro r t2 Os2 G2 H2 s2 kc2 ks2 y1 y2 y3 y4 y5 y50 y6 y7 y8 y9 y10
        rw [zp.1] at y9
        rw [zp.2] at y10
        refine k r t2 Os2 G2 H2 s2 kc2 ks2 (em.trans y1) y2 y3 (fun r => ?_) ((m1.wk hW).tr y5) y50 (fun i => ?_) y7 (kp2.tr y8) (by omega) (by omega)
        · have z1 := y4 r
          have z2 := eO r
          omega
        · obtain ⟨d, d1, d2⟩ := y6 i
          rcases i23' i with z | z
          · exact ⟨d, by omega, by rw [d2, z]⟩
          · refine ⟨d + 1, by omega, ?_⟩
            rw [d2, z, ← nI_1, Int32.add_assoc, Int32.add_comm 1 (nI d)]
    · -- a fault
      have c3 : w ≤ 1 := by omega
      have c4 : u ≤ 1 := by omega
      refine hc _ _ _ _ _ (rd_end R' M1 E1 hl' (by omega) (Or.inr h4') fun r t2 s2 y1 y2 y3 y4 y40 y5 y6 y7 y8 => ?_)
      have z1 := pot_kp (G := G') (H := H') (t := t2) y7 y8
      have z2 := pot_t (G := G') (H := H') (s := cSI s' 224 x (t'.S 4)) y4 rfl
      refine k r t2 Os' G' H' s2 kc' ks' (em.trans y1) y2 y3 (fun r => ?_) ((m1.wk hW).tr (y4.wk (fun y hy => by rw [List.mem_singleton.mp hy]; exact List.mem_cons_self))) y40 (fun i => ?_) y5 (kp2.tr y6) (by rw [z1.1, z2.1, zp.1]; omega) (by rw [z1.2, z2.2, zp.2]; omega)
      · have z3 := eO r
        omega
      · rcases i23' i with z | z
        · exact ⟨0, Nat.zero_le _, by rw [y4.I 23 (by decide), z, show nI 0 = 0 from rfl, Int32.add_zero]⟩
        · exact ⟨1, by omega, by rw [y4.I 23 (by decide), z]; rfl⟩
  termination_by m => m
  decreasing_by
    omega
end Rm
