/-! A Reader that is made. -/
def reH (H : Nat → Nat → Nat) (q x : Nat) (A C : Nat → Nat) : Nat → Nat → Nat := fun g a => if a = q then (if g = 140 then x else A g) else if a = A 151 then C g else H g a
section Rd
variable {G H : Nat → Nat → Nat} {sa : Nat → Nat} {x q : Nat} {s sN : cS} {t : moS} {A C : Nat → Nat} {y : Nat → Nat → Option Nat} {L' : List (Nat × Ov)}
theorem t22 : ∀ g e, tyF 22 g = some e → (g = 140 ∧ e = (30, 0)) ∨ (g = 141 ∧ e = (107, 24)) ∨ (g = 142 ∧ e = (108, 24)) ∨ (g = 146 ∧ e = (19, 0)) ∨ (g = 147 ∧ e = (127, 16)) ∨ (g = 151 ∧ e = (5, 0)) := by
  intro g e he
  unfold tyF at he
  split at he <;> first | (cases he; done) | skip
  all_goals (rename_i h1 h2; first | (exact absurd h1 (by decide)) | skip)
  all_goals simp_all
theorem t5 : ∀ g e, tyF 5 g = some e → (g = 21 ∧ e = (103, 16)) ∨ (g = 23 ∧ e = (109, 4)) ∨ (g = 24 ∧ e = (110, 4)) ∨ (g = 25 ∧ e = (111, 4)) ∨ (g = 26 ∧ e = (112, 4)) ∨ (g = 27 ∧ e = (142, 4)) ∨ (g = 30 ∧ e = (113, 5)) ∨ (g = 31 ∧ e = (119, 80)) := by
  intro g e he
  unfold tyF at he
  split at he <;> first | (cases he; done) | skip
  all_goals (rename_i h1 h2; first | (exact absurd h1 (by decide)) | skip)
  all_goals simp_all
theorem t19 : ∀ g e, tyF 19 g = some e → False := by
  intro g e he
  unfold tyF at he
  split at he <;> simp_all
theorem t223 : ∀ u e, tyF u 223 = some e → False := by
  intro u e he
  unfold tyF at he
  split at he <;> first | (cases he; done) | skip
  all_goals (rename_i h1 h2; first | (exact absurd h2 (by decide)) | skip)
theorem re_made (h : RR G H sa x s t) (hM : MV t) (hp : HP sa s L' sN) (hm : ∀ g, g ∈ L' ↔ g ∈ [(q, rdNv A (some x)), (A 141, ov0 (107, 24)), (A 142, ov0 (108, 24)), (A 146, prNv 19), (A 147, ov0 (127, 16)), (A 151, chNv 5 C), (C 21, ov0 (103, 16)), (C 23, ov0 (109, 4)), (C 24, ov0 (110, 4)), (C 25, ov0 (111, 4)), (C 26, ov0 (112, 4)), (C 27, ovM 142 (C 27) 4), (C 30, ov0 (113, 5)), (C 31, ov0 (119, 80))] ∨ g ∈ rwF (C 27) 126 16 y 4 ∨ g ∈ ([] : List (Nat × Ov))) : RR G (reH H q x A C) sa x sN t ∧ fr [] [] [] s sN ∧ hA H (reH H q x A C) s ∧ sN.K q = (22, 0) ∧ sN.P 140 q = some x := by
  have mem : ∀ {a : Nat} {v : Ov}, (a, v) ∈ L' → ov sN a = v ∧ (s.K a).1 = 0 := fun {a v} hav => ⟨(hp.2.1 (a, v) hav).1, (hp.2.1 (a, v) hav).2.1.1⟩
  have mq := mem ((hm (q, rdNv A (some x))).mpr (Or.inl (by simp)))
  have m141 := mem ((hm (A 141, ov0 (107, 24))).mpr (Or.inl (by simp)))
  have m142 := mem ((hm (A 142, ov0 (108, 24))).mpr (Or.inl (by simp)))
  have m146 := mem ((hm (A 146, prNv 19)).mpr (Or.inl (by simp)))
  have m147 := mem ((hm (A 147, ov0 (127, 16))).mpr (Or.inl (by simp)))
  have m151 := mem ((hm (A 151, chNv 5 C)).mpr (Or.inl (by simp)))
  have c21 := mem ((hm (C 21, ov0 (103, 16))).mpr (Or.inl (by simp)))
  have c23 := mem ((hm (C 23, ov0 (109, 4))).mpr (Or.inl (by simp)))
  have c24 := mem ((hm (C 24, ov0 (110, 4))).mpr (Or.inl (by simp)))
  have c25 := mem ((hm (C 25, ov0 (111, 4))).mpr (Or.inl (by simp)))
  have c26 := mem ((hm (C 26, ov0 (112, 4))).mpr (Or.inl (by simp)))
  have c27 := mem ((hm (C 27, ovM 142 (C 27) 4)).mpr (Or.inl (by simp)))
  have c30 := mem ((hm (C 30, ov0 (113, 5))).mpr (Or.inl (by simp)))
  have c31 := mem ((hm (C 31, ov0 (119, 80))).mpr (Or.inl (by simp)))
  have rw' : ∀ k, k < 4 → ov sN (C 27 + 1 + k) = ovR 126 16 (y (C 27 + 1 + k)) ∧ (s.K (C 27 + 1 + k)).1 = 0 := fun k hk => mem ((hm _).mpr (Or.inr (Or.inl (rwF_i hk))))
  have kq : sN.K q = (22, 0) := ov_K mq.1
  have k151 : sN.K (A 151) = (5, 0) := ov_K m151.1
  have k146 : sN.K (A 146) = (19, 0) := ov_K m146.1
  have k21 : sN.K (C 21) = (103, 16) := ov_K c21.1
  have q151 : A 151 ≠ q := fun e => by rw [e, kq] at k151; exact absurd (congrArg Prod.fst k151) (show ¬ (22 : Nat) = 5 by decide)
  have ex := hp_ex hp
  have f : fr [] [] [] s sN := ex.fr (fun a ha => by
    obtain ⟨p, hpm, e⟩ := List.mem_map.mp ha
    rw [← e]; exact (hp.2.1 p hpm).2.1.1)
  have hh : hA H (reH H q x A C) s := fun g a ha => by
    unfold reH
    rw [if_neg (fun e => ha (by rw [e]; exact mq.2)), if_neg (fun e => ha (by rw [e]; exact m151.2))]
  have h1 := rr_gh h hM gA.rf hh
  have ht : TK sa sN := h.q.1.tk.ex ex (fun a ha => by
    obtain ⟨p, hpm, e⟩ := List.mem_map.mp ha
    rw [← e]; exact (hp.2.1 p hpm).2.1.2)
  have cas : ∀ a, nwd s sN a → a = q ∨ a = A 151 ∨ a = C 21 ∨ a = A 146 ∨ (100 ≤ (sN.K a).1 ∧ (sN.K a).1 ≠ 103) := fun a ha => by
    obtain ⟨p, hpm, e⟩ := List.mem_map.mp (ex.new ha)
    have hv := (hp.2.1 p hpm).1
    rw [e] at hv
    have hK := ov_K hv
    have arr : 100 ≤ p.2.1.1 ∧ p.2.1.1 ≠ 103 → a = q ∨ a = A 151 ∨ a = C 21 ∨ a = A 146 ∨ (100 ≤ (sN.K a).1 ∧ (sN.K a).1 ≠ 103) := fun w => Or.inr (Or.inr (Or.inr (Or.inr (by rw [hK]; exact w))))
    rcases (hm p).mp hpm with w | w | w
    · simp only [List.mem_cons, List.not_mem_nil, or_false] at w
      rcases w with rfl | rfl | rfl | rfl | rfl | rfl | rfl | rfl | rfl | rfl | rfl | rfl | rfl | rfl
      all_goals first
        | exact Or.inl e.symm
        | exact Or.inr (Or.inl e.symm)
        | exact Or.inr (Or.inr (Or.inl e.symm))
        | exact Or.inr (Or.inr (Or.inr (Or.inl e.symm)))
        | exact arr (by simp [ov0, ovE, ovQ, ovM])
    · obtain ⟨j, hj, e2⟩ := rwF_m w
      exact arr (by rw [e2]; exact (show 100 ≤ 126 ∧ (126 : Nat) ≠ 103 by decide))
    · simp at w
  have eq' : ∀ g, g ≠ 140 → reH H q x A C g q = A g := fun g a => by
    unfold reH
    rw [if_pos rfl, if_neg a]
  have e140 : reH H q x A C 140 q = x := by unfold reH; rw [if_pos rfl, if_pos rfl]
  have e151 : ∀ g, reH H q x A C g (A 151) = C g := fun g => by
    unfold reH
    rw [if_neg q151, if_pos rfl]
  have noO : ∀ c' a, c' ≠ 7 → c' ≠ 1 → c' ≠ 5 → nwd s sN a → okO sN c' a → False := fun c' a h9 h6 h5 ha ho => by
    have h2 := ho.2.2
    rcases cas a ha with rfl | rfl | rfl | rfl | e
    · rw [kq] at h2; exact h9 h2.symm
    · rw [k151] at h2; exact h6 h2.symm
    · have := ho.2.1; rw [k21] at this; exact absurd this (by decide)
    · rw [k146] at h2; exact h5 h2.symm
    · have := ho.2.1; omega
  have noR : ∀ u a, u ≠ 22 → u ≠ 5 → u ≠ 19 → u < 100 → nwd s sN a → (sN.K a).1 = u → False := fun u a g1 g2 g3 hu ha ho => by
    rcases cas a ha with rfl | rfl | rfl | rfl | e
    · rw [kq] at ho; exact g1 ho.symm
    · rw [k151] at ho; exact g2 ho.symm
    · rw [k21] at ho; have ho : 103 = u := ho; omega
    · rw [k146] at ho; exact g3 ho.symm
    · omega
  have on1 : ∀ a, nwd s sN a → okO sN 1 a → a = A 151 := fun a ha ho => by
    have h2 := ho.2.2
    rcases cas a ha with rfl | e | rfl | rfl | e
    · rw [kq] at h2; exact absurd h2 (by decide)
    · exact e
    · have := ho.2.1; rw [k21] at this; exact absurd this (by decide)
    · rw [k146] at h2; exact absurd h2 (by decide)
    · have := ho.2.1; omega
  have n19 : ∀ g e, tyF 19 g ≠ some e := fun g e z => t19 g e z
  have mkq : ∀ (g v' m : Nat) (w : Ov), g ≠ 140 → (∀ e, tyF 5 g ≠ some e) → (rdNv A (some x)).2.2.2.1 g = some (A g) → ov sN (A g) = w → w.1.1 = v' → (m = 0 ∨ w.1.2 = m) → (s.K (A g)).1 = 0 → sN.P g q = some (reH H q x A C g q) ∧ (sN.K (reH H q x A C g q)).1 = v' ∧ (m = 0 ∨ (sN.K (reH H q x A C g q)).2 = m) ∧ (g ≠ 80 → g ≠ 140 → g ≠ 180 → (s.K (reH H q x A C g q)).1 = 0 ∧ ∀ b e', nwd s sN b → tyF (sN.K b).1 g = some e' → reH H q x A C g q = reH H q x A C g b → q = b) := by
    intro g v' m w hg hg4 h2 h3 h4 h5 h6
    rw [eq' g hg]
    have hK := ov_K h3
    refine ⟨(ov_P mq.1 g).trans h2, by rw [hK]; exact h4, by rw [hK]; exact h5, fun _ _ _ => ⟨h6, fun b e' hb et' _ => ?_⟩⟩
    rcases cas b hb with rfl | rfl | rfl | rfl | e3
    · rfl
    · rw [k151] at et'; exact absurd et' (hg4 _)
    · rw [k21] at et'; have := tyF_k et'; omega
    · rw [k146] at et'; exact absurd et' (n19 _ _)
    · have := tyF_k et'; omega
  have mkc : ∀ (g v' m : Nat) (w : Ov), (∀ e, tyF 22 g ≠ some e) → (chNv 5 C).2.2.2.1 g = some (C g) → ov sN (C g) = w → w.1.1 = v' → (m = 0 ∨ w.1.2 = m) → (s.K (C g)).1 = 0 → sN.P g (A 151) = some (reH H q x A C g (A 151)) ∧ (sN.K (reH H q x A C g (A 151))).1 = v' ∧ (m = 0 ∨ (sN.K (reH H q x A C g (A 151))).2 = m) ∧ (g ≠ 80 → g ≠ 140 → g ≠ 180 → (s.K (reH H q x A C g (A 151))).1 = 0 ∧ ∀ b e', nwd s sN b → tyF (sN.K b).1 g = some e' → reH H q x A C g (A 151) = reH H q x A C g b → A 151 = b) := by
    intro g v' m w hg4 h2 h3 h4 h5 h6
    rw [e151 g]
    have hK := ov_K h3
    refine ⟨(ov_P m151.1 g).trans h2, by rw [hK]; exact h4, by rw [hK]; exact h5, fun _ _ _ => ⟨h6, fun b e' hb et' _ => ?_⟩⟩
    rcases cas b hb with rfl | rfl | rfl | rfl | e3
    · rw [kq] at et'; exact absurd et' (hg4 _)
    · rfl
    · rw [k21] at et'; have := tyF_k et'; omega
    · rw [k146] at et'; exact absurd et' (n19 _ _)
    · have := tyF_k et'; omega
  refine ⟨rr_fr h1 hM (rgl_ext h1.q.1.1 f ht ?_ (fun a ha ho => (noO 0 a (by decide) (by decide) (by decide) ha ho).elim) (fun a ha h6 => (noR 6 a (by decide) (by decide) (by decide) (by decide) ha h6).elim) (fun a ha h6 => (noR 8 a (by decide) (by decide) (by decide) (by decide) ha h6).elim) (fun a ha ho => (noO 10 a (by decide) (by decide) (by decide) ha ho).elim) (fun a ha ho => ?_) (fun a i ha h6 hi => ?_)) f (mfr.rf (W := [])) rfl rfl rfl rfl rfl rfl rfl, f, hh, kq, ov_P mq.1 140⟩
  · intro a ha g v' m et
    rcases cas a ha with rfl | rfl | rfl | rfl | e
    · rw [kq] at et
      rcases t22 _ _ et with ⟨rfl, e2⟩ | ⟨rfl, e2⟩ | ⟨rfl, e2⟩ | ⟨rfl, e2⟩ | ⟨rfl, e2⟩ | ⟨rfl, e2⟩ <;> cases e2
      · rw [e140]
        refine ⟨ov_P mq.1 140, ?_, Or.inl rfl, fun _ w => absurd rfl w⟩
        rw [(f x (by rw [h.q.1.1.1]; decide)).1]
        exact h.q.1.1.1
      · exact mkq 141 107 24 _ (by decide) (fun e w => by cases w) rfl m141.1 rfl (Or.inr rfl) m141.2
      · exact mkq 142 108 24 _ (by decide) (fun e w => by cases w) rfl m142.1 rfl (Or.inr rfl) m142.2
      · exact mkq 146 19 0 _ (by decide) (fun e w => by cases w) rfl m146.1 rfl (Or.inl rfl) m146.2
      · exact mkq 147 127 16 _ (by decide) (fun e w => by cases w) rfl m147.1 rfl (Or.inr rfl) m147.2
      · exact mkq 151 5 0 _ (by decide) (fun e w => by cases w) rfl m151.1 rfl (Or.inl rfl) m151.2
    · rw [k151] at et
      rcases t5 _ _ et with ⟨rfl, e2⟩ | ⟨rfl, e2⟩ | ⟨rfl, e2⟩ | ⟨rfl, e2⟩ | ⟨rfl, e2⟩ | ⟨rfl, e2⟩ | ⟨rfl, e2⟩ | ⟨rfl, e2⟩ <;> cases e2
      · exact mkc 21 103 16 _ (fun e w => by cases w) rfl c21.1 rfl (Or.inr rfl) c21.2
      · exact mkc 23 109 4 _ (fun e w => by cases w) rfl c23.1 rfl (Or.inr rfl) c23.2
      · exact mkc 24 110 4 _ (fun e w => by cases w) rfl c24.1 rfl (Or.inr rfl) c24.2
      · exact mkc 25 111 4 _ (fun e w => by cases w) rfl c25.1 rfl (Or.inr rfl) c25.2
      · exact mkc 26 112 4 _ (fun e w => by cases w) rfl c26.1 rfl (Or.inr rfl) c26.2
      · exact mkc 27 142 4 _ (fun e w => by cases w) rfl c27.1 rfl (Or.inr rfl) c27.2
      · exact mkc 30 113 5 _ (fun e w => by cases w) rfl c30.1 rfl (Or.inr rfl) c30.2
      · exact mkc 31 119 80 _ (fun e w => by cases w) rfl c31.1 rfl (Or.inr rfl) c31.2
    · rw [k21] at et; have := tyF_k et; omega
    · rw [k146] at et; exact absurd et (n19 _ _)
    · have := tyF_k et; omega
  · have e := on1 a ha ho
    subst e
    refine ⟨ov_P m151.1 28, fun k hk => ⟨C 27 + 1 + k, ?_, ov_K (rw' k hk).1, (rw' k hk).2, fun b k' hb hob hk' ee => ?_⟩⟩
    · rw [e151, ov_Q c27.1]; exact if_pos hk
    · have e := on1 b hb hob
      subst e
      rw [e151, ov_Q c27.1] at ee
      have ee : (if k' < 4 then some (C 27 + 1 + k') else none) = some (C 27 + 1 + k) := ee
      rw [if_pos hk'] at ee
      have := Option.some.inj ee
      exact ⟨rfl, by omega⟩
  · rcases cas a ha with rfl | rfl | rfl | rfl | e
    · rw [kq] at h6; exact absurd h6 (by decide)
    · rw [k151] at h6; exact absurd h6 (by decide)
    · rw [ov_E c21.1]; rfl
    · rw [k146] at h6; exact absurd h6 (by decide)
    · omega
/-- the field's Reader is set -/
theorem rr_223 (h : RR G H sa x s t) (hM : MV t) (hq : (s.K q).1 = 22) : RR G H sa x (cSP s 223 x (some q)) t := by
  have hx := h.q.1.1.1
  have f : fr [] [(223, 30)] [] s (cSP s 223 x (some q)) := fr.sp (by rw [hx]; decide)
  refine rr_fr h hM ?_ f (mfr.rf (W := [])) rfl rfl rfl rfl rfl rfl rfl
  obtain ⟨a1, a2, a3, a4, a5, a6, a7, a8, a9, a10, a11, a12, a13, a14, a15, a16, a17⟩ := h.q.1.1
  have pF : ∀ g', g' ≠ 223 → (cSP s 223 x (some q)).P g' = s.P g' := fun g' h1 => funext fun b => cSP_g h1
  refine ⟨a1, ⟨fun b g' v n hu et => ?_, a2.2.1, ?_⟩, a3, fun b hb => ?_, ?_, ?_, ?_, ?_, ?_, ?_, ?_, ?_, a13, a14, a15, ?_, ?_⟩
  · have n3 : g' ≠ 223 := fun z => by
      subst z
      exact t223 _ _ et
    rw [pF g' n3]
    exact a2.1 b g' v n hu et
  · rw [pF 0 (by decide)]; exact a2.2.2
  · obtain ⟨l, o, w, d, b1, b2⟩ := a4 b hb
    exact ⟨l, o, w, d, by rw [pF 0 (by decide)]; exact b1, b2⟩
  · obtain ⟨n, c1⟩ := a5
    refine ⟨n, ?_⟩
    unfold RTa at c1 ⊢
    rw [pF 200 (by decide)]
    exact c1
  · exact Or.inr ⟨q, cSP_s, hq⟩
  · rw [pF 96 (by decide)]; exact a7
  · rw [pF 97 (by decide)]; exact a8
  · rw [pF 200 (by decide)]; exact a9
  · rw [pF 28 (by decide)]; exact a10
  · rw [pF 28 (by decide)]; exact a11
  · rw [pF 0 (by decide)]; exact a12
  · rw [pF 96 (by decide), pF 97 (by decide)]; exact a16
  · rw [pF 200 (by decide)]; exact a17
end Rd
