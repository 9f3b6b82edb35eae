/-! Rows of bytes: a byte behind, and what is made of it. -/
/-- an array with another content -/
def cSa (s : cS) (q : Nat) (f : Nat → Int32) : cS := (s.1, s.2.1, s.2.2.1, s.2.2.2.1, fun x => if x = q then f else s.E x, s.2.2.2.2.2)
theorem cSa_se {s : cS} {q i : Nat} {f : Nat → Int32} {v : Int32} : cSE (cSa s q f) q i v = cSa s q (upd f i v) := by
  unfold cSE cSa
  refine Prod.ext rfl (Prod.ext rfl (Prod.ext rfl (Prod.ext rfl (Prod.ext ?_ rfl))))
  funext x
  show (if x = q then upd (if q = q then f else s.E q) i v else if x = q then f else s.E x) = if x = q then upd f i v else s.E x
  rw [if_pos rfl]
  by_cases h : x = q
  · rw [if_pos h, if_pos h]
  · rw [if_neg h, if_neg h, if_neg h]
theorem cSa_id {s : cS} {q : Nat} : cSa s q (s.E q) = s := by
  unfold cSa
  refine Prod.ext rfl (Prod.ext rfl (Prod.ext rfl (Prod.ext rfl (Prod.ext ?_ rfl))))
  funext x
  show (if x = q then s.E q else s.E x) = s.E x
  by_cases h : x = q
  · rw [if_pos h, h]
  · rw [if_neg h]
theorem cSa_es {s : cS} {q : Nat} {f : Nat → Int32} : (cSa s q f).E q = f := if_pos rfl
theorem cSa_en {s : cS} {q x : Nat} {f : Nat → Int32} (h : x ≠ q) : (cSa s q f).E x = s.E x := if_neg h
theorem fx.sa {A : Nat → Prop} {s : cS} {a : Nat} {f : Nat → Int32} (hA : A a) : fx A s (cSa s a f) := fun b _ => ⟨rfl, fun hb => ⟨fun _ => rfl, fun _ => rfl, fun _ => rfl, cSa_en (fun e => hb (e ▸ hA)), rfl⟩⟩
section Ap
variable {sa : Nat → Nat} {b w F L k0 m0 : Nat} {s0 s : cS} {l : List Int32} {kc ks : Nat} {Q : cS → Nat → Nat → Prop}
theorem ap_add {v : Int32} (h : AP sa b w F L s0 k0 m0 l s kc ks) (hl : l.length + 1 ≤ F) (k : ∀ s' kc' ks', AP sa b w F L s0 k0 m0 (l ++ [v &&& 255]) s' kc' ks' → Q s' kc' ks') : C_By_add sa b v s kc ks Q := by
  obtain ⟨cap, d, ⟨a1, a2, a3, a4, a5, a6, a7, a8, a9⟩, hF, hL, hk, h1, h2, ht, hx, hd, h0, hg⟩ := h
  have haL : aL s d = some (nI cap) := gd_to (by rw [a4]; show 100 ≤ w ∧ w < 160; omega) |>.trans (by rw [a4])
  unfold C_By_add
  refine ⟨_, gd_to a1, _, gd_to a1, d, a3, _, haL, ?_⟩
  by_cases hlt : l.length < cap
  · refine ifT (by show s.I 1 b < nI cap; rw [a5]; exact nI_lt hlt (by omega)) ?_
    exact ap_b53 ⟨a1, a2, a3, a4, a5, a6, a7, a8, a9⟩ hF hL hk h1 h2 ht hx hd h0 hg hlt (fun s' h' => k s' kc ks h')
  · refine ifF (by show ¬ s.I 1 b < nI cap; rw [a5]; exact nI_nlt (by omega) (by omega)) ?_
    refine ⟨_, gd_to a1, d, a3, _, haL, 2 * cap, ?_, by omega, by omega, by omega, w, a2, fun q hq => ?_⟩
    · rw [show (2 : Int32) = nI 2 from rfl, nI_mul, Nat.mul_comm]
    have hq0 := hq.1
    have hqd : d ≠ q := fun e => by rw [← e, a4] at hq0; exact absurd hq0 (by omega)
    have hqb : b ≠ q := fun e => a1.n0 (e ▸ hq0)
    unfold C_By_add_b24
    intro P hP
    have key : ∀ n j f, j + n = cap → (∀ i, i < j → f i = s.E d i) → P (nI j) (cSa (cNw s q (w, 2 * cap)) q f) (kc - 1) (ks - 2 * cap) := by
      intro n
      induction n with
      | zero =>
        intro j f hj hf
        have hj : j = cap := by omega
        subst hj
        apply hP
        have o1 : okO (cSa (cNw s q (w, 2 * j)) q f) 0 b := a1.nw hq0
        have p1 : (cSa (cNw s q (w, 2 * j)) q f).P 0 b = some d := (cNw_pn (t := (w, 2 * j)) hqb).trans a3
        have k1 : (cSa (cNw s q (w, 2 * j)) q f).K d = (w, j) := (cNw_kn hqd).trans a4
        have haL1 : aL (cSa (cNw s q (w, 2 * j)) q f) d = some (nI j) := gd_to (by rw [k1]; show 100 ≤ w ∧ w < 160; omega) |>.trans (by rw [k1])
        unfold C_By_add_s24
        refine ⟨_, gd_to o1, d, p1, _, haL1, ?_⟩
        refine ifF (nI_nlt (Nat.le_refl _) (by omega)) ?_
        refine ⟨_, gd_to o1, ?_⟩
        refine ap_b53 (s := cSP (cSa (cNw s q (w, 2 * j)) q f) 0 b (some q)) (cap := 2 * j) (d := q) (F := F) (L := L) (s0 := s0) (k0 := k0) (m0 := m0) (l := l) ⟨o1.sp, a2, cSP_s, cNw_ks, ?_, by omega, by omega, by omega, ?_⟩ (by omega) hL ⟨hk.1, by omega⟩ (by omega) (by omega) ?_ ?_ ?_ h0 ⟨fun a ha => by
          have haq : a ≠ q := fun e => ha (by rw [← (hx a ha).1, e]; exact hq0)
          obtain ⟨q1, q2⟩ := hg.1 a ha
          refine ⟨(cNw_qn (t := (w, 2 * j)) haq).trans q1, fun g hgn => ?_⟩
          by_cases hg0 : g = 0
          · subst hg0
            rw [cSP_a (fun e => hgn ⟨rfl, e⟩)]
            exact (cNw_pn (t := (w, 2 * j)) haq).trans (q2 0 hgn)
          · rw [cSP_g hg0]
            exact (cNw_pn (t := (w, 2 * j)) haq).trans (q2 g hgn), fun a ha => by
          by_cases haq : a = q
          · rw [haq]; exact Or.inr (by show (if q = q then (w, 2 * j) else s.K q).1 = w; rw [if_pos rfl])
          · show ((cNw s q (w, 2 * j)).K a).1 = 0 ∨ ((cNw s q (w, 2 * j)).K a).1 = w
            rw [cNw_kn haq]; exact hg.2 a ha⟩ (by omega) (fun s' h' => k s' _ _ h')
        · show (cNw s q (w, 2 * j)).I 1 b = _
          rw [cNw_in hqb, a5]
        · intro i hi
          show (cSa (cNw s q (w, 2 * j)) q f).E q i = _ ∧ _
          rw [cSa_es, hf i (by omega)]
          exact a9 i hi
        · exact ht.nw hq
        · have f1 : fx (fun a => a = b ∨ s0.P 0 b = some a) s (cNw s q (w, 2 * j)) := fx.nw hq0
          have f2 : fx (fun a => a = q) (cNw s q (w, 2 * j)) (cSa (cNw s q (w, 2 * j)) q f) := fx.sa rfl
          have f3 : fx (fun a => a = b) (cSa (cNw s q (w, 2 * j)) q f) (cSP (cSa (cNw s q (w, 2 * j)) q f) 0 b (some q)) := fx.sp rfl
          refine ((hx.tr f1).or f2 ?_).or f3 (fun a _ e => Or.inl e)
          intro a ha e
          subst e
          have := (hx a ha).1
          rw [this] at hq0
          exact absurd hq0 ha
        · refine Or.inr (Classical.byContradiction fun z => ?_)
          have := (hx q z).1
          rw [this] at hq0
          exact z hq0
      | succ n ih =>
        intro j f hj hf
        apply hP
        have o1 : okO (cSa (cNw s q (w, 2 * cap)) q f) 0 b := a1.nw hq0
        have p1 : (cSa (cNw s q (w, 2 * cap)) q f).P 0 b = some d := (cNw_pn (t := (w, 2 * cap)) hqb).trans a3
        have k1 : (cSa (cNw s q (w, 2 * cap)) q f).K d = (w, cap) := (cNw_kn hqd).trans a4
        have k2 : (cSa (cNw s q (w, 2 * cap)) q f).K q = (w, 2 * cap) := cNw_ks
        have haL1 : aL (cSa (cNw s q (w, 2 * cap)) q f) d = some (nI cap) := gd_to (by rw [k1]; show 100 ≤ w ∧ w < 160; omega) |>.trans (by rw [k1])
        unfold C_By_add_s24
        refine ⟨_, gd_to o1, d, p1, _, haL1, ?_⟩
        refine ifT (nI_lt (by omega) (by omega)) ?_
        refine ⟨_, gd_to o1, d, p1, _, gd_to ⟨by rw [k1]; exact a2.1, by rw [k1]; exact a2.2.1, by rw [k1]; exact a2.2.2, by rw [k1]; exact vp_in_nI (by omega) (by omega)⟩, q, rfl, _, gd_to ⟨by rw [k2]; exact a2.1, by rw [k2]; exact a2.2.1, by rw [k2]; exact a2.2.2, by rw [k2]; exact vp_in_nI (by omega) (by omega)⟩, ?_⟩
        rw [cSa_se, nI_1, nI_clamp (by omega)]
        refine ih (j + 1) _ (by omega) (fun i hi => ?_)
        show (if i = j then _ else f i) = _
        by_cases hij : i = j
        · rw [if_pos hij, hij, cSa_en hqd, cNw_en hqd]
          have := a9 j (by omega)
          rw [this.1]
          exact sb_sb _
        · rw [if_neg hij]
          exact hf i (by omega)
    have := key cap 0 (fun _ => 0) (by omega) (fun i hi => absurd hi (Nat.not_lt_zero i))
    have e : cSa (cNw s q (w, 2 * cap)) q (fun _ => 0) = cNw s q (w, 2 * cap) := by
      have e2 : (cNw s q (w, 2 * cap)).E q = fun _ => 0 := cNw_es
      rw [← e2, cSa_id]
    rw [e] at this
    exact this
end Ap
