/-! Which key a datagram bears that came: the class. -/
/-- how it goes on behind the keys' sum -/
def KsK (G H : Nat → Nat → Nat) (sa : Nat → Nat) (x c : Nat) (s : cS) (t : moS) (kc ks : Nat) (s' : cS) (kc' ks' : Nat) : Prop := RR G H sa x s' t ∧ fr Rwk Pwk [] s s' ∧ (∀ a, okO s 1 a → a ≠ c → s'.P 28 a = s.P 28 a) ∧ kc + wkC s' c ≤ kc' + wkC s c ∧ ks + 792 * wkC s' c ≤ ks' + 792 * wkC s c
section Kg
variable {G H : Nat → Nat → Nat} {sa : Nat → Nat} {x kc ks c b w cap : Nat} {s : cS} {t : moS} {V : chV} {tm num : Int32} {L : List Int32}
theorem enN_b (sha : Int32) : enN sha ≤ 40 ∧ 4 + szN sha ≤ enN sha := by unfold enN szN; split <;> omega
theorem c_ends {Q : Int32 → cS → Nat → Nat → Prop} {i : Nat} {v : kV} (hg : RGl G H sa x s) (hc : okO s 1 c) (hC : CC H s c V) (h4 : V.2.2.length ≤ 4) (hv : V.2.2[i]? = some v) (k : Q (nI (enN v.2.1)) s kc ks) : C_Ch_endSize sa c (nI i) s kc ks Q := by
  obtain ⟨-, -, ⟨p4, q4⟩, -⟩ := chK hg hc
  have hi : i < V.2.2.length := by
    rcases Nat.lt_or_ge i V.2.2.length with z | z
    · exact z
    · rw [List.getElem?_eq_none z] at hv
      cases hv
  have e4 := (hC.2.2.1 i v hv).2.1
  unfold C_Ch_endSize
  refine ⟨_, gd_to hc, _, p4, _, rd_E q4 (by decide) (show i < 4 by omega) (by decide) e4, ?_⟩
  unfold enN at k
  by_cases z : v.2.1 = 0
  · rw [if_pos z] at k ⊢
    exact ifT rfl k
  · rw [if_neg z] at k ⊢
    exact ifF (by decide) k
theorem c_keyOf {Q : Int32 → cS → Nat → Nat → Prop} (hR : RR G H sa x s t) (hM : MV t) (hc : okO s 1 c) (hV : VV V) (hC : CC H s c V) (kb : (s.K b).1 = 3) (hb : BL s b 129 L 600) (h24 : 24 ≤ L.length) (hkc : wkC s c ≤ kc ∧ 792 * wkC s c ≤ ks) (k1 : ∀ i v z s' kc' ks', kgK V tm L i v → kgB L v z → KsK G H sa x c s t kc ks s' kc' ks' → Q (nI i) s' kc' ks') (k0 : ∀ s' kc' ks', (¬ ∃ i v z, kgK V tm L i v ∧ kgB L v z) → KsK G H sa x c s t kc ks s' kc' ks' → Q (-1) s' kc' ks') : C_Ch_keyOf sa c (some b) tm s kc ks Q := by
  have h4 := hV.2.1
  have hg := hR.q.1.1
  have hL6 : L.length ≤ 600 := by obtain ⟨-, -, d, -, -, -, h, -⟩ := hb; exact h
  have ob := okr kb 0
  have i1 : s.I 1 b = nI L.length := by obtain ⟨-, -, d, -, -, h, -⟩ := hb; exact h
  have self : KsK G H sa x c s t kc ks s kc ks := ⟨hR, fr.rf, fun _ _ _ => rfl, Nat.le_refl _, Nat.le_refl _⟩
  have lt : ∀ (i : Nat) (v : kV), V.2.2[i]? = some v → i < 4 := fun i v hv => by
    rcases Nat.lt_or_ge i V.2.2.length with z | z
    · omega
    · rw [List.getElem?_eq_none z] at hv
      cases hv
  have uq : ∀ i v i' v', kgK V tm L i v → kgK V tm L i' v' → i = i' ∧ v = v' := fun i v i' v' h h' => by
    by_cases z : i' = i
    · subst z
      exact ⟨rfl, Option.some.inj (h.1.symm.trans h'.1)⟩
    · exact absurd (h'.2.1.trans h.2.1.symm) (hV.2.2.2.2.2 i i' v v' h.1 h'.1 z)
  obtain ⟨-, -, ⟨p4, q4⟩, -⟩ := chK hg hc
  unfold C_Ch_keyOf
  refine ⟨b, rfl, ob, w_at (i := 10) hb (by omega) ⟨hc, c_good hg hc hC h4 (fun i v e1 e2 e3 => ?_) fun no => ?_⟩⟩
  rotate_left
  · exact ifT rfl (k0 s kc ks (fun ⟨i, v, z, h1, h2⟩ => no i v h1.1 h1.2.1 h1.2.2) self)
  have hK : kgK V tm L i v := ⟨e1, e2, e3⟩
  have hi := lt i v e1
  have bad : (∀ z, ¬ kgB L v z) → ¬ ∃ i v z, kgK V tm L i v ∧ kgB L v z := fun h ⟨i', v', z, h1, h2⟩ => by
    obtain ⟨-, rfl⟩ := uq i v i' v' hK h1
    exact h z h2
  obtain ⟨y1, y2⟩ := enN_b v.2.1
  refine ifF (nI_ne (by omega)) ⟨ob, w_numAt (a := 4) (n := 4) hb (by decide) ?_⟩
  by_cases z1 : is4 L 4 255 255 0 3
  rotate_left
  · exact ifF (fun z => z1 ((nb_is hb (by omega) (by decide) (by decide) (by decide) (by decide)).mp z)) (k0 s kc ks (bad fun z h => z1 h.1.1) self)
  refine ifT ((nb_is hb (by omega) (by decide) (by decide) (by decide) (by decide)).mpr z1) ⟨ob, w_at (i := 11) hb (by omega) ⟨_, gd_to hc, _, p4, _, rd_E q4 (by decide) (show i < 4 by omega) (by decide) (hC.2.2.1 i v e1).2.1, ?_⟩⟩
  by_cases z2 : nI (vc L 11) = szK v.2.1
  rotate_left
  · exact ifF z2 (k0 s kc ks (bad fun z h => z2 h.1.2.1) self)
  refine ifT z2 ⟨_, gd_to ob, hc, c_ends hg hc hC h4 e1 ?_⟩
  rw [show s.I (20 * 0 + 1) b = nI L.length from i1]
  by_cases z3 : L.length < enN v.2.1 + 24
  · refine ifT ?_ (k0 s kc ks (bad fun z h => by have := h.1.2.2.1; have := h.1.2.2.2.1; omega) self)
    show nI L.length - nI (enN v.2.1) < nI 24
    rw [Int32.lt_iff_toInt_lt, pk_sub_toInt (by omega) (by omega), nI_toInt (by decide)]
    omega
  obtain ⟨z, hz⟩ : ∃ z, z + enN v.2.1 = L.length := ⟨L.length - enN v.2.1, by omega⟩
  have ez : nI L.length - nI (enN v.2.1) = nI z := by rw [pk_sub (by omega)]; congr 1; omega
  rw [ez]
  refine ifF (nI_nlt (b := 24) (by omega) (by omega)) ⟨ob, w_numAt (a := 8) (n := 2) hb (by decide) ?_⟩
  rw [nb_v2 hb (by omega), nI_L (by omega)]
  have b8 := vc_b L 8
  have b9 := vc_b L 9
  by_cases z4 : vc L 8 * 256 + vc L 9 = z
  rotate_left
  · refine ifF (fun y => z4 (L_inj (by omega) (by omega) y)) (k0 s kc ks (bad fun z' h => z4 ?_) self)
    have := h.1.2.2.1
    rw [h.1.2.2.2.2]
    omega
  refine ifT (by rw [z4]) ⟨ob, w_zer (a := 16) (c := 24) hb (by omega) (by decide) (fun z5 => ?_) (fun z5 => ?_)⟩
  rotate_left
  · exact ifT rfl (k0 s kc ks (bad fun z' h => z5 h.2.1.1) self)
  refine ifF (by decide) ⟨ob, w_numAt (a := z) (n := 4) hb (by omega) ?_⟩
  by_cases z6 : is4 L z 255 255 0 1
  rotate_left
  · refine ifF (fun y => z6 ((nb_is hb (by omega) (by decide) (by decide) (by decide) (by decide)).mp y)) (k0 s kc ks (bad fun z' h => z6 ?_) self)
    have := h.1.2.2.1
    rw [show z = z' by omega]
    exact h.2.1.2.1
  refine ifT ((nb_is hb (by omega) (by decide) (by decide) (by decide) (by decide)).mpr z6) ⟨_, gd_to hc, _, p4, _, rd_E q4 (by decide) (show i < 4 by omega) (by decide) (hC.2.2.1 i v e1).2.1, _, gd_to ob, ob, ?_⟩
  rw [show s.I (20 * 0 + 1) b = nI L.length from i1, show nI z + 4 = nI (z + 4) from nI_add z 4, show (if v.2.1 = 0 then (16 : Int32) else 20) = nI (szN v.2.1) by unfold szN; split <;> rfl, nI_add]
  refine w_zer (a := z + 4 + szN v.2.1) (c := L.length) hb (by omega) (by omega) (fun z7 => ?_) (fun z7 => ?_)
  rotate_left
  · refine ifT rfl (k0 s kc ks (bad fun z' h => z7 ?_) self)
    have := h.1.2.2.1
    rw [show z = z' by omega]
    exact h.2.1.2.2
  have hky := ky_of hg hc hC hV e1
  have hsz := sz_n v.2.1
  refine ifF (by decide) ⟨hc, c_sum (m := z + 4) hR hM hc hky hb ⟨kb, by decide⟩ (by decide) (by decide) (by omega) (by omega) hkc fun s' kc' ks' hR' f' o' n' e' hd => ?_⟩
  obtain ⟨W, S, V', s0, d1, d2, d3⟩ := hd
  have w0 : wkC s' c = 0 := by unfold wkC; rw [if_neg n']
  have keep : KsK G H sa x c s t kc ks s' kc' ks' := ⟨hR', f', o', by rw [w0]; omega, by rw [w0]; omega⟩
  have hb' : BL s' b 129 L 600 := hb.fr f' kb (by decide) (by decide) (by decide)
  have oc' : okO s' 1 c := by unfold okO; rw [(f' c hc.n0).1]; exact hc
  have kb' : (s'.K b).1 = 3 := f'.r kb
  have ob' := okr kb' 0
  have hky' := hky.fr hc f'
  obtain ⟨-, T4, T7, ww, ⟨a1, a2, a3⟩, -⟩ := hky'
  unfold C_Ch_keyOf_b142
  intro P hP
  have loop : ∀ m j, j + m = szN v.2.1 → (∀ i, i < j → nI (vc L (z + 4 + i)) = sumP v.2.1 (L.take (z + 4)) (fun i => v.2.2.1.getD i 0) i) → P (nI j) s' kc' ks' := by
    intro m
    induction m with
    | zero =>
      intro j hj ok
      have hj : j = szN v.2.1 := by omega
      subst hj
      apply hP
      unfold C_Ch_keyOf_s142
      refine ⟨_, gd_to oc', _, a1, _, rd_E a2 (by decide) (show i < 4 by omega) (by decide) a3, ?_⟩
      rw [show (if v.2.1 = 0 then (16 : Int32) else 20) = nI (szN v.2.1) by unfold szN; split <;> rfl]
      exact ifF (nI_nlt (Nat.le_refl _) (by omega)) (k1 i v z s' kc' ks' hK ⟨⟨z1, z2, hz, by omega, z4⟩, ⟨z5, z6, z7⟩, ok⟩ keep)
    | succ m ih =>
      intro j hj ok
      apply hP
      unfold C_Ch_keyOf_s142
      refine ⟨_, gd_to oc', _, a1, _, rd_E a2 (by decide) (show i < 4 by omega) (by decide) a3, ?_⟩
      rw [show (if v.2.1 = 0 then (16 : Int32) else 20) = nI (szN v.2.1) by unfold szN; split <;> rfl, show nI z + 4 = nI (z + 4) from nI_add z 4, nI_add, nI_1]
      refine ifT (nI_lt (by omega) (by omega)) ⟨b, rfl, ob', w_at (i := z + 4 + j) hb' (by omega) ⟨oc', c_sby d1 d2 (by omega) ?_⟩⟩
      rw [d3, ← sumS_p hky.1.2.2]
      by_cases y : nI (vc L (z + 4 + j)) = sumP v.2.1 (L.take (z + 4)) (fun i => v.2.2.1.getD i 0) j
      · refine ifT y (ih (j + 1) (by omega) fun i' hi' => ?_)
        by_cases u : i' = j
        · rw [u]; exact y
        · exact ok i' (by omega)
      · refine ifF y (k0 s' kc' ks' (bad fun z' h => y ?_) keep)
        have := h.1.2.2.1
        have e : z = z' := by omega
        subst e
        exact h.2.2 j (by omega)
  exact loop (szN v.2.1) 0 (by omega) (fun i' hi' => absurd hi' (by omega))
end Kg
