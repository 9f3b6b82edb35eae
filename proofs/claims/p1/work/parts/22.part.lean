/-! addPart: a part of another row behind this one. -/
section IwRow
variable {cl : List vw_C} {base : Nat} {X : pmX} {Rt : pmR} {G : pmK} {pc : Nat} {L : pmL} {st : List Value} {M : pmM} {kc ks : Nat}
theorem pg_iw (hG : pm_cl cl base X Rt G) {i : Nat} {x : Int32} (hc : X.code pc = some (.iload i)) (hl : pm_get L i = some (.int x)) (h : G (pc + 2) L (.int x :: st) M kc ks) : G pc L st M kc ks := by
  refine hG.1 _ _ _ _ _ _ _ hc ?_
  show pm_old L i _
  unfold pm_old
  rw [hl]
  exact h
end IwRow
theorem fit_8 {x : Int32} (h : x.toInt8.toInt32 = x) : fits .byte (.int x) = true := by
  have e : x.toInt = x.toInt8.toInt := by
    conv => lhs; rw [← h]
    exact Int8.toInt_toInt32 _
  have h1 := Int8.le_toInt x.toInt8
  have h2 := Int8.toInt_lt x.toInt8
  have g1 : (-128 : Int32) ≤ x := by
    rw [Int32.le_iff_toInt_le, e]
    show (-128 : Int) ≤ _
    omega
  have g2 : x ≤ (127 : Int32) := by
    rw [Int32.le_iff_toInt_le, e]
    show _ ≤ (127 : Int)
    omega
  show (decide ((-128 : Int32) ≤ x) && decide (x ≤ (127 : Int32))) = true
  rw [decide_eq_true g1, decide_eq_true g2]
  rfl
theorem vBy.not {base : Nat} {M : pmM} {b d cap : Nat} {l : List Int32} (h : vBy base M b l d cap) {a : Nat} {z : FieldType × vp_A} (ha : M a = some (.inl z)) : b ≠ a := by
  rintro rfl
  rw [h.ob] at ha
  exact absurd (Option.some.inj ha) (by simp)
set_option maxRecDepth 100000 in
theorem v_By_addPart (base : Nat) (sa : Nat → Nat) {b d cap o e co s t B : Nat} {l lo : List Int32} {M : pmM} {Rt : pmR} {kc ks : Nat} (hv : vBy base M b l d cap) (ho : vBy base M o lo e co) (hbo : b ≠ o) (hde : d ≠ e) (hs : s < 2 ^ 30) (ht : t < 2 ^ 30) (hB : l.length + (t - s) ≤ B) (hb : bud B kc ks cap)
    (k0 : (t ≤ s ∨ lo.length < t) → Rt none M kc ks)
    (k : s < t → t ≤ lo.length → ∀ (M' : pmM) (d' cap' kc' ks' : Nat), vBy base M' b (l ++ (lo.drop s).take (t - s)) d' cap' → grw M b d cap kc ks M' d' cap' kc' ks' → Rt none M' kc' ks') : kP_By_addPart base sa [.ref b, .ref o, .int (nI s), .int (nI t)] M kc ks Rt := by
  have hvb := hv
  have hob := hv.ob
  have hoo := ho.ob
  have hsm := ho.small
  obtain ⟨f, hr, hf, h8, q1, q2, q3⟩ := hv
  obtain ⟨r1, r2, r3, r4, r5⟩ := hr
  obtain ⟨g, hr', hg, h8', q1', q2', q3'⟩ := ho
  obtain ⟨r1', r2', r3', r4', r5'⟩ := hr'
  have hbe : b ≠ e := hvb.not r2'
  have hod : o ≠ d := by
    rintro rfl
    rw [hoo] at r2
    exact absurd (Option.some.inj r2) (by simp)
  have hb' := hb
  obtain ⟨b1, b2, b3⟩ := hb'
  refine ⟨Nat.le_of_ble_eq_true rfl, fun G hG => ?_⟩
  have tail : ∀ (M1 : pmM) (L : pmL) (d1 cap1 : Nat) (f1 : Nat → Int32) (kc1 ks1 : Nat), s < t → t ≤ lo.length → M1 b = some (.inr (0, [.ref d1, .int (nI l.length)])) → M1 d1 = some (.inl (.byte, cap1, .inl f1)) → M1 o = some (.inr (0, [.ref e, .int (nI lo.length)])) → M1 e = some (.inl (.byte, co, .inl g)) → d1 ≠ e → b ≠ d1 → base ≤ d1 → l.length + (t - s) ≤ cap1 → 16 ≤ cap1 → cap1 ≤ 1000000 → (∀ i, i < l.length → f1 i = f i) → pm_get L 0 = some (.ref b) → pm_get L 1 = some (.ref o) → pm_get L 2 = some (.int (nI s)) → pm_get L 4 = some (.int (nI (t - s))) → (∀ M' : pmM, (∀ a, a ≠ b → a ≠ d1 → M' a = M1 a) → (∀ a, M1 a ≠ none → M' a ≠ none) → grw M b d cap kc ks M' d1 cap1 kc1 ks1) → G 80 L [] M1 kc1 ks1 := by
    intro M1 L d1 cap1 f1 kc1 ks1 hst htl m1 m2 m3 m4 hd1e hbd1 hbd hroom h16 h1m hf1 l0 l1 l2 l4 hgr
    refine pg_ar hG rfl l1 ?_
    refine pg_gf hG rfl rfl m3 rfl ?_
    refine pg_il hG rfl l2 ?_
    refine pg_ar hG rfl l0 ?_
    refine pg_gf hG rfl rfl m1 rfl ?_
    refine pg_ar hG rfl l0 ?_
    refine pg_gf hG rfl rfl m1 rfl ?_
    refine pg_iw hG rfl l4 ?_
    refine pg_cal hG 2 rfl rfl (Nat.le_of_ble_eq_true rfl) (by decide) (Nat.le_of_ble_eq_true rfl) ?_
    have c1 : (nI s).toNatClampNeg = s := nI_clamp (by omega)
    have c2 : (nI l.length).toNatClampNeg = l.length := nI_clamp (by omega)
    have c3 : (nI (t - s)).toNatClampNeg = t - s := nI_clamp (by omega)
    refine ⟨e, d1, nI s, nI l.length, nI (t - s), .byte, co, cap1, g, f1, rfl, m4, m2, rfl, q2', hbd, nI_pos (by omega), nI_pos (by omega), nI_pos (by omega), by rw [c1, c3]; omega, by rw [c2, c3]; omega, ?_, ?_⟩
    · intro i hi
      rw [c3] at hi
      rw [c1]
      apply fit_8
      rw [hg _ (by omega), List.getD_eq_getElem?_getD, List.getElem?_eq_getElem (by omega)]
      exact h8' _ (List.getElem_mem _)
    · rw [c1, c2, c3]
      have n1 := (pm_up_ne M1 (.inl (.byte, cap1, .inl (va_cpy g f1 s l.length (t - s)))) hbd1).trans m1
      refine pg_ar hG rfl l0 ?_
      refine pgc hG rfl rfl rfl ?_
      refine pg_gf hG rfl rfl n1 rfl ?_
      refine pg_iw hG rfl l4 ?_
      refine pgs hG rfl rfl ?_
      rw [nI_add]
      refine pg_pf hG rfl rfl n1 q1 (Nat.le_of_ble_eq_true rfl) rfl rfl ?_
      have hlen : (l ++ (lo.drop s).take (t - s)).length = l.length + (t - s) := by
        rw [List.length_append, List.length_take, List.length_drop, Nat.min_eq_left (by omega)]
      refine pg_rv hG rfl rfl (k hst htl _ d1 cap1 kc1 ks1 ⟨va_cpy g f1 s l.length (t - s), ⟨?_, (pm_up_ne _ _ hbd1.symm).trans (pm_up_self _ _ _), ?_, h16, h1m⟩, ?_, ?_, q1, hbd, hbd1⟩ (hgr _ ?_ ?_))
      · rw [hlen]
        exact pm_up_self _ _ _
      · rw [hlen]
        exact hroom
      · intro i hi
        rw [hlen] at hi
        by_cases h : i < l.length
        · rw [pk_cpy_out (Or.inl h), hf1 i h, hf i h, List.getD_eq_getElem?_getD, List.getD_eq_getElem?_getD, List.getElem?_append_left h]
        · rw [pk_cpy_in (by omega) (by omega), hg _ (by omega), List.getD_eq_getElem?_getD, List.getD_eq_getElem?_getD, List.getElem?_append_right (by omega), List.getElem?_take_of_lt (by omega), List.getElem?_drop]
      · intro x hx
        rcases List.mem_append.mp hx with h | h
        · exact h8 x h
        · exact h8' x (List.mem_of_mem_drop (List.mem_of_mem_take h))
      · intro a ha1 ha2
        rw [pm_up_ne _ _ ha1, pm_up_ne _ _ ha2]
      · intro a ha
        unfold pm_up
        split
        · simp
        · split
          · simp
          · exact ha
  refine pgs hG rfl rfl ?_
  refine pgs hG rfl rfl ?_
  refine pgs hG rfl rfl ?_
  refine pgc hG rfl rfl (Nat.le_of_ble_eq_true rfl) ?_
  refine pgs hG rfl rfl ?_
  refine pz_lt hG (t := 22) rfl rfl (fun c => absurd c (nI_pos (by omega))) (fun _ => ?_)
  refine pgs hG rfl rfl ?_
  refine pz_le hG (t := 22) rfl rfl (fun c => ?_) (fun c => ?_)
  · refine pg_rv hG rfl rfl (k0 (Or.inl ?_))
    rcases Nat.lt_or_ge s t with h | h
    · rw [pk_sub (by omega)] at c
      exact absurd c (nI_nle (by omega) (by omega))
    · exact h
  · have hst : s < t := by
      rcases Nat.lt_or_ge s t with h | h
      · exact h
      · exfalso
        apply c
        rcases Nat.eq_or_lt_of_le h with h | h
        · rw [h, pk_sub (Nat.le_refl _), Nat.sub_self]
          decide
        · exact Int32.le_of_lt (pk_sneg hs h)
    rw [pk_sub (by omega)]
    refine pgs hG rfl rfl ?_
    refine pgs hG rfl rfl ?_
    refine pg_gf hG rfl rfl hoo rfl ?_
    refine pi_le hG (t := 23) rfl rfl (fun c2 => ?_) (fun c2 => ?_)
    · have htl : t ≤ lo.length := (nI_leI (by omega) (by omega)).mp c2
      refine pgs hG rfl rfl ?_
      refine pg_gf hG rfl rfl hob rfl ?_
      refine pgs hG rfl rfl ?_
      refine pgs hG rfl rfl ?_
      rw [nI_add]
      refine pgs hG rfl rfl ?_
      refine pg_gf hG rfl rfl hob rfl ?_
      refine pg_al hG rfl r2 ?_
      refine pi_le hG (t := 80) rfl rfl (fun c3 => ?_) (fun c3 => ?_)
      · have hroom := (nI_leI (by omega) (by omega)).mp c3
        refine tail M _ d cap f kc ks hst htl hob r2 hoo r2' hde q3 q2 hroom r4 r5 (fun _ _ => rfl) rfl rfl rfl rfl ?_
        intro M' h1 h2
        exact ⟨fun a ha1 ha2 _ => h1 a ha1 ha2, h2, Or.inl rfl, Nat.le_refl _, Nat.le_refl _, Nat.le_refl _⟩
      · have hno : cap < l.length + (t - s) := by
          rcases Nat.lt_or_ge cap (l.length + (t - s)) with h | h
          · exact h
          · exact absurd ((nI_leI (by omega) (by omega)).mpr h) c3
        refine pgs hG rfl rfl ?_
        refine pg_gf hG rfl rfl hob rfl ?_
        refine pg_al hG rfl r2 ?_
        refine pgs hG rfl rfl ?_
        refine pgs hG rfl rfl ?_
        refine pgs hG rfl rfl ?_
        refine pg_gf hG rfl rfl hob rfl ?_
        refine pgs hG rfl rfl ?_
        refine pgs hG rfl rfl ?_
        have e2 : nI cap * Int32.ofInt 2 = nI (2 * cap) := by rw [show Int32.ofInt 2 = nI 2 from rfl, pk_mul, Nat.mul_comm]
        rw [e2, nI_add]
        refine pg_cal hG 2 rfl rfl (Nat.le_of_ble_eq_true rfl) (by decide) (Nat.le_of_ble_eq_true rfl) ?_
        refine ⟨nI (2 * cap), nI (l.length + (t - s)), rfl, ?_⟩
        have emx : (if nI (2 * cap) < nI (l.length + (t - s)) then nI (l.length + (t - s)) else nI (2 * cap)) = nI (max (2 * cap) (l.length + (t - s))) := by
          split
          · rename_i h
            rw [Nat.max_eq_right (Nat.le_of_lt ((nI_ltI (by omega) (by omega)).mp h))]
          · rename_i h
            rw [Nat.max_eq_left]
            rcases Nat.lt_or_ge (2 * cap) (l.length + (t - s)) with h' | h'
            · exact absurd ((nI_ltI (by omega) (by omega)).mpr h') h
            · exact h'
        rw [emx]
        generalize hw : max (2 * cap) (l.length + (t - s)) = w
        have w1 : 2 * cap ≤ w := by omega
        have w2 : l.length + (t - s) ≤ w := by omega
        have w3 : w = 2 * cap ∨ w = l.length + (t - s) := by omega
        refine pg_nar hG (n := w) rfl rfl (by omega) (by omega) (by omega) (fun q hq hbq => ?_)
        have hqb : b ≠ q := fun x => by rw [← x, hob] at hq; cases hq
        have hqd : d ≠ q := fun x => by rw [← x, r2] at hq; cases hq
        have hqo : o ≠ q := fun x => by rw [← x, hoo] at hq; cases hq
        have hqe : e ≠ q := fun x => by rw [← x, r2'] at hq; cases hq
        refine pgc hG rfl rfl (Nat.le_of_ble_eq_true rfl) ?_
        refine pgs hG rfl rfl ?_
        refine pg_gf hG rfl rfl ((pm_up_ne _ _ hqb).trans hob) rfl ?_
        refine pgs hG rfl rfl ?_
        refine pgs hG rfl rfl ?_
        refine pgs hG rfl rfl ?_
        refine pgs hG rfl rfl ?_
        refine pg_gf hG rfl rfl ((pm_up_ne _ _ hqb).trans hob) rfl ?_
        refine pg_cal hG 2 rfl rfl (Nat.le_of_ble_eq_true rfl) (by decide) (Nat.le_of_ble_eq_true rfl) ?_
        have c2' : (nI l.length).toNatClampNeg = l.length := nI_clamp (by omega)
        have c0 : (Int32.ofInt 0).toNatClampNeg = 0 := by decide
        refine ⟨d, q, Int32.ofInt 0, Int32.ofInt 0, nI l.length, .byte, cap, w, f, fun _ => 0, rfl, (pm_up_ne _ _ hqd).trans r2, pm_up_self _ _ _, rfl, q2, hbq, by decide, by decide, nI_pos (by omega), by rw [c0, c2']; omega, by rw [c0, c2']; omega, ?_, ?_⟩
        · intro i hi
          rw [c2'] at hi
          rw [c0, Nat.zero_add]
          apply fit_8
          rw [hf _ hi, List.getD_eq_getElem?_getD, List.getElem?_eq_getElem hi]
          exact h8 _ (List.getElem_mem _)
        · rw [c0, c2']
          have nb := (pm_up_ne (pm_up M q (.inl (.byte, w, .inl fun _ => 0))) (.inl (.byte, w, .inl (va_cpy f (fun _ => 0) 0 0 l.length))) hqb).trans ((pm_up_ne _ _ hqb).trans hob)
          refine pgs hG rfl rfl ?_
          refine pgs hG rfl rfl ?_
          refine pg_pf hG rfl rfl nb q1 (Nat.le_of_ble_eq_true rfl) rfl rfl ?_
          refine tail _ _ q w (va_cpy f (fun _ => 0) 0 0 l.length) _ _ hst htl (pm_up_self _ _ _) ((pm_up_ne _ _ hqb.symm).trans (pm_up_self _ _ _)) ?_ ?_ hqe.symm hqb hbq w2 (by omega) (by omega) (fun i hi => by rw [pk_cpy_in (by omega) (by omega)]; simp) rfl rfl rfl rfl ?_
          · rw [pm_up_ne _ _ hbo.symm, pm_up_ne _ _ hqo, pm_up_ne _ _ hqo]
            exact hoo
          · rw [pm_up_ne _ _ hbe.symm, pm_up_ne _ _ hqe, pm_up_ne _ _ hqe]
            exact r2'
          · intro M' h1 h2
            refine ⟨fun a ha1 ha2 ha3 => ?_, fun a ha => ?_, Or.inr hq, by omega, by omega, by omega⟩
            · have haq : a ≠ q := fun x => ha3 (x ▸ hq)
              rw [h1 a ha1 haq, pm_up_ne _ _ ha1, pm_up_ne _ _ haq, pm_up_ne _ _ haq]
            · apply h2
              unfold pm_up
              split
              · simp
              · split
                · simp
                · exact ha
    · refine pg_rv hG rfl rfl (k0 (Or.inr ?_))
      rcases Nat.lt_or_ge lo.length t with h | h
      · exact h
      · exact absurd ((nI_leI (by omega) (by omega)).mpr h) c2
