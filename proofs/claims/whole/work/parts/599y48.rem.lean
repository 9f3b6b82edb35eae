/-! An own route is taken away, on both sides. -/
section Sv
variable {G H : Nat → Nat → Nat} {sa : Nat → Nat} {x rd r p kc ks : Nat} {s : cS} {t : moS} {f n : Int32} {h l : Int64} {Os : Nat → List Pf}
theorem rem_both {s0 : cS} (hR0 : RR G H sa x s0 t) (hM : MV t) (hE : EX Os t) (hr : r < cR t) (hf : lnOk f n) (hpx : isPx h l n) (hO : (Os r).length < 760) {j : Nat} (hj : j < cSt t r) (hk : kyS t (32 * r + G 7 (32 * r + j)) = kyV f h l n) : ∃ t', M_lineNostatic_b68 t (nI r) (nI (32 * r + G 7 (32 * r + j))) = some (0, t') ∧ MV t' ∧ EX Os t' ∧ mfr (Wst ++ Wrow) t t' ∧ ∀ s p kc ks, RR G H sa x s t → okO s 7 rd → s.P 146 rd = some p → (s.K p).1 = 19 → PF s p (fam f) h l n → pA G r ≤ kc → pB s G H r ≤ ks → ∀ Q : Int32 → cS → Nat → Nat → Prop, StK G H sa x s r t' kc ks (Q 0) → C_Ta_removeOf sa (H 187 (G 1 r)) (some p) s kc ks (fun sr12 cr12 dr12 => (ob (gP sr12 7 6 rd) (fun v13 => (okO sr12 9 (G 1 r) ∧ C_Rr_settle sa (G 1 r) v13 sr12 cr12 dr12 (fun sr14 cr14 dr14 => (Q (0 : Int32) sr14 cr14 dr14)))))) := by
  have h6 := hM.nR
  have h32 := (hM.st hr).2
  obtain ⟨nn, hn⟩ : ∃ nn, cSt t r = nn + 1 := ⟨cSt t r - 1, by omega⟩
  have hG7 : G 7 (32 * r + j) < cSt t r := ((hR0.q.1.st hr).2.1 j hj).1
  obtain ⟨t1, em, ct, e46, oI, oJ⟩ := m_rem (m := G 7 (32 * r + j)) hM hr hn (by omega)
  have ec : cSt t1 r = nn := by unfold cSt; rw [e46]; exact nI_clamp (by omega)
  have hM1 : MV t1 := by
    refine mv_st hM hr ct ⟨nn, e46, by omega, by omega⟩ fun k hk => ?_
    rw [ec] at hk
    rw [oI 47 (by decide) _ hk, oI 50 (by decide) _ hk, oI 51 (by decide) _ hk, oI 52 (by decide) _ hk]
    exact hM.sl hr (by rw [hn]; split <;> omega)
  obtain ⟨⟨o1, -⟩, -, px⟩ := hE r hr
  have stp' : ∀ k, k < nn → stP t1 (32 * r + k) = stP t (32 * r + (if k < G 7 (32 * r + j) then k else k + 1)) := fun k hk => by
    unfold stP
    rw [oI 47 (by decide) _ hk, oI 50 (by decide) _ hk, oJ 48 (by decide) _ hk, oJ 49 (by decide) _ hk]
  have ky : ∀ k, k < nn → kyS t1 (32 * r + k) = kyS t (32 * r + (if k < G 7 (32 * r + j) then k else k + 1)) := fun k hk => by
    unfold kyS
    rw [oI 47 (by decide) _ hk, oI 50 (by decide) _ hk, oJ 48 (by decide) _ hk, oJ 49 (by decide) _ hk]
  have q1 : ∀ k, k < cSt t1 r → stP t1 (32 * r + k) ∈ Os r := fun k hk => by
    rw [ec] at hk
    rw [stp' k hk]
    exact o1 _ (by rw [hn]; split <;> omega)
  have q2 : ∀ k, k < cSt t1 r → isPx (t1.J 48 (32 * r + k)) (t1.J 49 (32 * r + k)) (t1.I 50 (32 * r + k)) := fun k hk => by
    rw [ec] at hk
    rw [oI 50 (by decide) _ hk, oJ 48 (by decide) _ hk, oJ 49 (by decide) _ hk]
    exact px _ (by rw [hn]; split <;> omega)
  have q3 : ∀ P : Pf, lnOk P.1 P.2.2.2 → P ≠ (f, h, l, n) → dF t1 r P = dF t r P := fun P hP hne => by
    obtain ⟨f', h', l', n'⟩ := P
    have nP : ∀ y, kyS t (32 * r + y) = kyV f' h' l' n' → y ≠ G 7 (32 * r + j) := fun y hy z => by
      rw [z, hk] at hy
      exact kyV_ne hf hP (fun w => hne w.symm) hy
    refine dF_stP ct.1 ⟨fun k k1 k2 k3 => ?_, fun k k1 k2 k3 => ?_⟩
    · rw [ec] at k1
      rw [ky k k1] at k2
      refine ⟨if k < G 7 (32 * r + j) then k else k + 1, by rw [hn]; split <;> omega, k2, fun k' hk' z => ?_, oI 51 (by decide) _ k1, oI 52 (by decide) _ k1⟩
      have h1 := nP k' z
      have hlt : (if k' < G 7 (32 * r + j) then k' else k' - 1) < k := by
        revert hk'
        split <;> split <;> omega
      refine k3 _ hlt ?_
      rw [ky _ (by omega)]
      have : (if (if k' < G 7 (32 * r + j) then k' else k' - 1) < G 7 (32 * r + j) then (if k' < G 7 (32 * r + j) then k' else k' - 1) else (if k' < G 7 (32 * r + j) then k' else k' - 1) + 1) = k' := by
        by_cases c : k' < G 7 (32 * r + j)
        · rw [if_pos c, if_pos c]
        · rw [if_neg c, if_neg (by omega)]; omega
      rw [this]
      exact z
    · have h1 := nP k k2
      have hlt : (if k < G 7 (32 * r + j) then k else k - 1) < nn := by split <;> omega
      have back : (if (if k < G 7 (32 * r + j) then k else k - 1) < G 7 (32 * r + j) then (if k < G 7 (32 * r + j) then k else k - 1) else (if k < G 7 (32 * r + j) then k else k - 1) + 1) = k := by
        by_cases c : k < G 7 (32 * r + j)
        · rw [if_pos c, if_pos c]
        · rw [if_neg c, if_neg (by omega)]; omega
      refine ⟨if k < G 7 (32 * r + j) then k else k - 1, by rw [ec]; exact hlt, by rw [ky _ hlt, back]; exact k2, fun k' hk' => ?_, by rw [oI 51 (by decide) _ hlt, back], by rw [oI 52 (by decide) _ hlt, back]⟩
      rw [ky k' (by omega)]
      refine k3 _ ?_
      revert hk'
      split <;> split <;> omega
  obtain ⟨t', e1, e2, e3, e4⟩ := st_setM (O1 := Os r) hM hr hE hM1 ct q1 (fun P hP => hP) (by omega) q2
  have eO : (fun r' => if r' = r then Os r else Os r') = Os := funext fun r' => by
    by_cases c : r' = r
    · rw [if_pos c, c]
    · rw [if_neg c]
  rw [eO] at e3
  have hPO : (f, h, l, n) ∈ Os r := by
    have := o1 _ hG7
    have e : stP t (32 * r + G 7 (32 * r + j)) = (f, h, l, n) := by
      obtain ⟨y1, y2, y3, y4⟩ := (kyV_i (hM.sl hr hG7).1 hf).mp hk
      unfold stP
      rw [y1, y2, y3, y4]
    rw [e] at this
    exact this
  refine ⟨t', em (0, t') (by rw [e1]; rfl), e2, e3, e4, fun s p kc ks hR hor h146 kp hp hkc hks Q kk => ?_⟩
  have hq := hR.q.1
  obtain ⟨k26, k2, kw, kw1⟩ := rt_two hR hr
  obtain ⟨w, cap, ht, hK⟩ := tbo_s hq hM hr
  obtain ⟨s1, -⟩ := st_both hq hM hr
  have hpk := hp.key
  have ho := okr (hq.ty.p k26 187 28).2 10
  have hTa : RTa s (H 187 (G 1 r)) 145 24 (cSt t r) (G 14 r) 32 (fun j => G 6 (32 * r + j)) := (hq.st hr).1
  rw [hn] at hTa
  obtain ⟨g1, -, cc⟩ := rr_str (i := j) hR hM hr hn (by omega) rfl ht.2.1 ct e46 oI oJ
  have ka : (s.K (G 6 (32 * r + j))).1 = 24 := by
    obtain ⟨-, y2, -, w0, cap0, -, -, -, -, -, d6, -⟩ := hTa
    exact (d6 j (by omega)).2
  have kw145 : (s.K w).1 = 145 := by rw [hK]
  have fc := cc.fr hq.ty k26 ka kw145
  have hp1 : PF (cQs (cSI s 201 (H 187 (G 1 r)) (nI nn)) w (rmF (s.Q w) j nn)) p (fam f) h l n := hp.fr fc kp (by decide)
  have e14 : rmG6 G r j nn (G 7 (32 * r + j)) 14 = G 14 := rmG6_o (by decide) (by decide)
  have e1' : rmG6 G r j nn (G 7 (32 * r + j)) 1 = G 1 := rmG6_o (by decide) (by decide)
  have cpe : cpO (cQs (cSI s 201 (H 187 (G 1 r)) (nI nn)) w (rmF (s.Q w) j nn)) (rmG6 G r j nn (G 7 (32 * r + j))) H r = cpO s G H r := by
    unfold cpO
    rw [e1', cc.2.1 200 _ (by decide), cc.1]
  have sj := st_join (t1 := t1) (s1 := cQs (cSI s 201 (H 187 (G 1 r)) (nI nn)) w (rmF (s.Q w) j nn)) (kc1 := kc) (ks1 := ks) (G1 := rmG6 G r j nn (G 7 (32 * r + j))) (H1 := H) kk (fun b h1 h2 h3 => rmG6_o h1 h2) (fun r' hne => by rw [e14]) hA.rf (by rw [k26]; decide) fc.wk (fun b g hb hk hg => cc.2.1 g b hg) k2 kw ⟨w, by rw [cc.2.1 200 _ (by decide)]; exact ht.2.1, by rw [cc.1, hK]; show 145 ≠ 0; decide⟩ (by rw [e14]; exact Nat.le_refl _) (by rw [e14, cpe]; exact Nat.le_refl _)
  have hcost : potC G r ≤ kc ∧ potS s G H r ≤ ks := by unfold pA at hkc; unfold pB at hks; omega
  obtain ⟨t2, y1, -, -, -, y5⟩ := st_set (O1 := Os r) (kc1 := kc) (ks1 := ks) hM hr hE g1 hM1 ct hf hpx hp1 (okr (u := 19) (by rw [cc.1]; exact kp) 5) (Or.inr (Or.inl (by rw [cc.1]; exact kp))) q1 (fun P hP => hP) (by omega) hPO q2 q3 (by rw [sj.2.2]; exact hcost.1) (by rw [sj.2.1]; exact hcost.2)
  rw [e1] at y1
  cases y1
  have hset := y5 _ sj.1
  rw [e1'] at hset
  unfold C_Ta_removeOf
  refine ⟨ho, w_place ht (hp.ok hf (okr kp 5)) fun i hi i1 i2 => ?_⟩
  have ei : i = j := by
    have ej : cPk s (H 160 (G 6 (32 * r + j))) = cPk s p := by rw [s1 j hj, hk, hpk]
    rcases Nat.lt_trichotomy i j with z | z | z
    · have a1 : cPk s p ≤ cPk s (H 160 (G 6 (32 * r + i))) := i2 i (Nat.le_refl _) (by omega)
      have a2 : cPk s (H 160 (G 6 (32 * r + i))) < cPk s (H 160 (G 6 (32 * r + j))) := ht.2.2.2.2.2.2.2 i j z hj
      omega
    · exact z
    · have a1 : cPk s (H 160 (G 6 (32 * r + j))) < cPk s p := i1 j z
      omega
  subst ei
  refine ⟨ho, w_remove hTa ho (by decide) (by decide) ht.2.1 (by omega) ?_⟩
  have hK' : (cQs (cSI s 201 (H 187 (G 1 r)) (nI nn)) w (rmF (s.Q w) i nn)).K = s.K := cc.1
  have hP' : (cQs (cSI s 201 (H 187 (G 1 r)) (nI nn)) w (rmF (s.Q w) i nn)).P 146 rd = some p := by rw [cc.2.1 146 _ (by decide)]; exact h146
  generalize cQs (cSI s 201 (H 187 (G 1 r)) (nI nn)) w (rmF (s.Q w) i nn) = sb at *
  refine ⟨_, gd_to (show okO sb 7 rd from by unfold okO; rw [hK']; exact hor), okr (u := 26) (by rw [hK']; exact k26) 9, ?_⟩
  rw [show sb.P (20 * 7 + 6) rd = some p from hP']
  exact hset
end Sv
