/-! An interface that is made: books, relation. -/
def poG (G : Nat → Nat → Nat) (i q w : Nat) : Nat → Nat → Nat := fun b j => if b = 2 ∧ j = i then q else if b = 8 ∧ 4 * i ≤ j ∧ j < 4 * i + 4 then w + 1 + (j - 4 * i) else G b j
def poH (H : Nat → Nat → Nat) (q lk : Nat) (A C : Nat → Nat) : Nat → Nat → Nat := fun g a => if a = q then (if g = 80 then lk else A g) else if a = A 86 then C g else H g a
section Pm
variable {G H : Nat → Nat → Nat} {sa : Nat → Nat} {x r n lk q : Nat} {s sN : cS} {t : moS} {A C : Nat → Nat} {y : Nat → Nat → Option Nat} {LA : List (Nat × Ov)}
theorem poG_n {i w b j : Nat} (h1 : ¬ (b = 2 ∧ j = i)) (h2 : ¬ (b = 8 ∧ 4 * i ≤ j ∧ j < 4 * i + 4)) : poG G i q w b j = G b j := by
  unfold poG
  rw [if_neg h1, if_neg h2]
theorem gA_po {w : Nat} (hM : MV t) (hn : n = cI t r) (h4 : n < 4) : gA G (poG G (4 * r + n) q w) t := by
  have ne : ∀ r' p, r' < cR t → p < cI t r' → 4 * r' + p ≠ 4 * r + n := fun r' p hr' hp z => by
    have := hM.nIf hr'
    have : r' = r := by omega
    subst this
    omega
  refine ⟨fun i hi => ?_, fun r' hr' => ⟨?_, fun p hp => ⟨?_, fun k hk => ?_⟩, ⟨?_, fun j hj => ?_⟩, ⟨?_, ?_⟩, ⟨?_, fun j hj => ?_, fun j hj => ?_⟩, fun k hk => ⟨?_, ?_⟩⟩, fun i hi => ?_, fun i => ?_, fun i => ?_, ?_, fun i => ?_⟩
  case refine_3 =>
    have := ne r' p hr' hp
    apply poG_n <;> omega
  case refine_4 =>
    have := ne r' p hr' hp
    apply poG_n <;> omega
  all_goals (apply poG_n <;> omega)
theorem t8 : ∀ g e, tyF 8 g = some e → (g = 80 ∧ e = (7, 0)) ∨ (g = 86 ∧ e = (4, 0)) ∨ (g = 87 ∧ e = (136, 4)) ∨ (g = 89 ∧ e = (114, 4)) ∨ (g = 90 ∧ e = (116, 4)) ∨ (g = 91 ∧ e = (137, 4)) := by
  intro g e he
  unfold tyF at he
  split at he <;> first | (cases he; done) | skip
  all_goals (rename_i h1 h2; first | (exact absurd h1 (by decide)) | skip)
  all_goals simp_all
theorem t4 : ∀ g e, tyF 4 g = some e → (g = 21 ∧ e = (103, 16)) ∨ (g = 23 ∧ e = (109, 4)) ∨ (g = 24 ∧ e = (110, 4)) ∨ (g = 25 ∧ e = (111, 4)) ∨ (g = 26 ∧ e = (112, 4)) ∨ (g = 27 ∧ e = (142, 4)) ∨ (g = 30 ∧ e = (113, 5)) ∨ (g = 31 ∧ e = (119, 80)) := by
  intro g e he
  unfold tyF at he
  split at he <;> first | (cases he; done) | skip
  all_goals (rename_i h1 h2; first | (exact absurd h1 (by decide)) | skip)
  all_goals simp_all
/-- what is new with an interface -/
def poNw (A C : Nat → Nat) (y : Nat → Nat → Option Nat) (LA : List (Nat × Ov)) : Prop := ∀ g, g ∈ LA ↔ g ∈ [(A 86, chNv 4 C), (A 87, ov0 (136, 4)), (A 89, ov0 (114, 4)), (A 90, ov0 (116, 4)), (A 91, ov0 (137, 4)), (A 96, ov0 (115, 4)), (A 97, ov0 (120, 4)), (C 21, ov0 (103, 16)), (C 23, ov0 (109, 4)), (C 24, ov0 (110, 4)), (C 25, ov0 (111, 4)), (C 26, ov0 (112, 4)), (C 27, ovM 142 (C 27) 4), (C 30, ov0 (113, 5)), (C 31, ov0 (119, 80))] ∨ g ∈ rwF (C 27) 126 16 y 4
theorem po_made (h : RR G H sa x s t) (hM : MV t) (hr : r < cR t) (hn : n = cI t r) (h4 : n < 4) (hlk : (s.K lk).1 = 7) (hp : HP sa s ((q, poNv A (some lk)) :: (LA ++ [])) sN) (hm : poNw A C y LA) : RR (poG G (4 * r + n) q (C 27)) (poH H q lk A C) sa x sN t ∧ fr [] [] [] s sN ∧ hA H (poH H q lk A C) s ∧ PoN (poH H q lk A C) sN q lk (fun k => C 27 + 1 + k) ∧ (s.K q).1 = 0 ∧ ∀ k, k < 4 → (s.K (C 27 + 1 + k)).1 = 0 := by
  have mem : ∀ {a : Nat} {v : Ov}, (a, v) ∈ LA → ov sN a = v ∧ (s.K a).1 = 0 := fun {a v} hav => ⟨(hp.2.1 (a, v) (by simp [hav])).1, (hp.2.1 (a, v) (by simp [hav])).2.1.1⟩
  have mq : ov sN q = poNv A (some lk) ∧ (s.K q).1 = 0 := ⟨(hp.2.1 (q, poNv A (some lk)) (by simp)).1, (hp.2.1 (q, poNv A (some lk)) (by simp)).2.1.1⟩
  have m86 := mem ((hm (A 86, chNv 4 C)).mpr (Or.inl (by simp)))
  have m87 := mem ((hm (A 87, ov0 (136, 4))).mpr (Or.inl (by simp)))
  have m89 := mem ((hm (A 89, ov0 (114, 4))).mpr (Or.inl (by simp)))
  have m90 := mem ((hm (A 90, ov0 (116, 4))).mpr (Or.inl (by simp)))
  have m91 := mem ((hm (A 91, ov0 (137, 4))).mpr (Or.inl (by simp)))
  have m96 := mem ((hm (A 96, ov0 (115, 4))).mpr (Or.inl (by simp)))
  have m97 := mem ((hm (A 97, ov0 (120, 4))).mpr (Or.inl (by simp)))
  have c21 := mem ((hm (C 21, ov0 (103, 16))).mpr (Or.inl (by simp)))
  have c23 := mem ((hm (C 23, ov0 (109, 4))).mpr (Or.inl (by simp)))
  have c24 := mem ((hm (C 24, ov0 (110, 4))).mpr (Or.inl (by simp)))
  have c25 := mem ((hm (C 25, ov0 (111, 4))).mpr (Or.inl (by simp)))
  have c26 := mem ((hm (C 26, ov0 (112, 4))).mpr (Or.inl (by simp)))
  have c27 := mem ((hm (C 27, ovM 142 (C 27) 4)).mpr (Or.inl (by simp)))
  have c30 := mem ((hm (C 30, ov0 (113, 5))).mpr (Or.inl (by simp)))
  have c31 := mem ((hm (C 31, ov0 (119, 80))).mpr (Or.inl (by simp)))
  have rw' : ∀ k, k < 4 → ov sN (C 27 + 1 + k) = ovR 126 16 (y (C 27 + 1 + k)) ∧ (s.K (C 27 + 1 + k)).1 = 0 := fun k hk => mem ((hm _).mpr (Or.inr (rwF_i hk)))
  have kq : sN.K q = (8, 0) := ov_K mq.1
  have k86 : sN.K (A 86) = (4, 0) := ov_K m86.1
  have q86 : A 86 ≠ q := fun e => by rw [e, kq] at k86; exact absurd (congrArg Prod.fst k86) (show ¬ (8 : Nat) = 4 by decide)
  have ex := hp_ex hp
  have f : fr [] [] [] s sN := ex.fr (fun a ha => by
    obtain ⟨p, hpm, e⟩ := List.mem_map.mp ha
    rw [← e]; exact (hp.2.1 p hpm).2.1.1)
  have hh : hA H (poH H q lk A C) s := fun g a ha => by
    unfold poH
    rw [if_neg (fun e => ha (by rw [e]; exact mq.2)), if_neg (fun e => ha (by rw [e]; exact m86.2))]
  have h1 := rr_gh h hM (gA_po (q := q) (w := C 27) hM hn h4) hh
  have ht : TK sa sN := h.q.1.tk.ex ex (fun a ha => by
    obtain ⟨p, hpm, e⟩ := List.mem_map.mp ha
    rw [← e]; exact (hp.2.1 p hpm).2.1.2)
  have cas : ∀ a, nwd s sN a → a = q ∨ a = A 86 ∨ a = C 21 ∨ (100 ≤ (sN.K a).1 ∧ (sN.K a).1 ≠ 103) := fun a ha => by
    obtain ⟨p, hpm, e⟩ := List.mem_map.mp (ex.new ha)
    have hv := (hp.2.1 p hpm).1
    rw [e] at hv
    have hK := ov_K hv
    have arr : 100 ≤ p.2.1.1 ∧ p.2.1.1 ≠ 103 → a = q ∨ a = A 86 ∨ a = C 21 ∨ (100 ≤ (sN.K a).1 ∧ (sN.K a).1 ≠ 103) := fun w => Or.inr (Or.inr (Or.inr (by rw [hK]; exact w)))
    rcases List.mem_cons.mp hpm with w | w
    · exact Or.inl (by rw [← e, w])
    rw [List.append_nil] at w
    rcases (hm p).mp w with w | w
    · simp only [List.mem_cons, List.not_mem_nil, or_false] at w
      rcases w with rfl | rfl | rfl | rfl | rfl | rfl | rfl | rfl | rfl | rfl | rfl | rfl | rfl | rfl | rfl
      all_goals first
        | exact Or.inr (Or.inl e.symm)
        | exact Or.inr (Or.inr (Or.inl e.symm))
        | exact arr (by simp [ov0, ovE, ovQ, ovM])
    · obtain ⟨j, hj, e2⟩ := rwF_m w
      exact arr (by rw [e2]; exact (show 100 ≤ 126 ∧ (126 : Nat) ≠ 103 by decide))
  have k21 : sN.K (C 21) = (103, 16) := ov_K c21.1
  have eq' : ∀ g, g ≠ 80 → poH H q lk A C g q = A g := fun g a => by
    unfold poH
    rw [if_pos rfl, if_neg a]
  have e80 : poH H q lk A C 80 q = lk := by unfold poH; rw [if_pos rfl, if_pos rfl]
  have e86 : ∀ g, poH H q lk A C g (A 86) = C g := fun g => by
    unfold poH
    rw [if_neg q86, if_pos rfl]
  have noO : ∀ c' a, c' ≠ 4 → c' ≠ 1 → nwd s sN a → okO sN c' a → False := fun c' a h9 h6 ha ho => by
    have h2 := ho.2.2
    rcases cas a ha with rfl | rfl | rfl | e
    · rw [kq] at h2; exact h9 h2.symm
    · rw [k86] at h2; exact h6 h2.symm
    · have := ho.2.1; rw [k21] at this; exact absurd this (by decide)
    · have := ho.2.1; omega
  have on1 : ∀ a, nwd s sN a → okO sN 1 a → a = A 86 := fun a ha ho => by
    have h2 := ho.2.2
    rcases cas a ha with rfl | e | rfl | e
    · rw [kq] at h2; exact absurd h2 (by decide)
    · exact e
    · have := ho.2.1; rw [k21] at this; exact absurd this (by decide)
    · have := ho.2.1; omega
  have on8 : ∀ a, nwd s sN a → (sN.K a).1 = 8 → a = q := fun a ha ho => by
    rcases cas a ha with rfl | rfl | rfl | e
    · rfl
    · rw [k86] at ho; exact absurd ho (by decide)
    · rw [k21] at ho; exact absurd ho (by decide)
    · omega
  have mkq : ∀ (g v' m : Nat) (w : Ov), g ≠ 80 → (∀ e, tyF 4 g ≠ some e) → (poNv A (some lk)).2.2.2.1 g = some (A g) → ov sN (A g) = w → w.1.1 = v' → (m = 0 ∨ w.1.2 = m) → (s.K (A g)).1 = 0 → sN.P g q = some (poH H q lk A C g q) ∧ (sN.K (poH H q lk A C g q)).1 = v' ∧ (m = 0 ∨ (sN.K (poH H q lk A C g q)).2 = m) ∧ (g ≠ 80 → g ≠ 140 → g ≠ 180 → (s.K (poH H q lk A C g q)).1 = 0 ∧ ∀ b e', nwd s sN b → tyF (sN.K b).1 g = some e' → poH H q lk A C g q = poH H q lk A C g b → q = b) := by
    intro g v' m w hg hg4 h2 h3 h4 h5 h6
    rw [eq' g hg]
    have hK := ov_K h3
    refine ⟨(ov_P mq.1 g).trans h2, by rw [hK]; exact h4, by rw [hK]; exact h5, fun _ _ _ => ⟨h6, fun b e' hb et' _ => ?_⟩⟩
    rcases cas b hb with rfl | rfl | rfl | e3
    · rfl
    · rw [k86] at et'; exact absurd et' (hg4 _)
    · rw [k21] at et'; have := tyF_k et'; omega
    · have := tyF_k et'; omega
  have mkc : ∀ (g v' m : Nat) (w : Ov), (∀ e, tyF 8 g ≠ some e) → (chNv 4 C).2.2.2.1 g = some (C g) → ov sN (C g) = w → w.1.1 = v' → (m = 0 ∨ w.1.2 = m) → (s.K (C g)).1 = 0 → sN.P g (A 86) = some (poH H q lk A C g (A 86)) ∧ (sN.K (poH H q lk A C g (A 86))).1 = v' ∧ (m = 0 ∨ (sN.K (poH H q lk A C g (A 86))).2 = m) ∧ (g ≠ 80 → g ≠ 140 → g ≠ 180 → (s.K (poH H q lk A C g (A 86))).1 = 0 ∧ ∀ b e', nwd s sN b → tyF (sN.K b).1 g = some e' → poH H q lk A C g (A 86) = poH H q lk A C g b → A 86 = b) := by
    intro g v' m w hg4 h2 h3 h4 h5 h6
    rw [e86 g]
    have hK := ov_K h3
    refine ⟨(ov_P m86.1 g).trans h2, by rw [hK]; exact h4, by rw [hK]; exact h5, fun _ _ _ => ⟨h6, fun b e' hb et' _ => ?_⟩⟩
    rcases cas b hb with rfl | rfl | rfl | e3
    · rw [kq] at et'; exact absurd et' (hg4 _)
    · rfl
    · rw [k21] at et'; have := tyF_k et'; omega
    · have := tyF_k et'; omega
  refine ⟨rr_fr h1 hM (rgl_ext h1.q.1.1 f ht ?_ (fun a ha ho => (noO 0 a (by decide) (by decide) ha ho).elim) (fun a ha h6 => ?_) (fun a ha h6 => ?_) (fun a ha ho => (noO 10 a (by decide) (by decide) ha ho).elim) (fun a ha ho => ?_) (fun a i ha h6 hi => ?_)) f (mfr.rf (W := [])) rfl rfl rfl rfl rfl rfl rfl, f, hh, ⟨⟨by rw [kq], e80, ov_P mq.1 81, ov_P mq.1 82⟩, ⟨ov_I mq.1 83, ov_I mq.1 84, ov_I mq.1 85, ov_I mq.1 88, ov_I mq.1 92, ov_I mq.1 93, ov_I mq.1 94, ov_I mq.1 95, ov_I mq.1 98⟩, ?_, ⟨A 96, A 97, ov_P mq.1 96, ov_P mq.1 97, ov_K m96.1, ov_K m97.1⟩⟩, mq.2, fun k hk => (rw' k hk).2⟩
  · intro a ha g v' m et
    rcases cas a ha with rfl | rfl | rfl | e
    · rw [kq] at et
      rcases t8 _ _ et with ⟨rfl, e2⟩ | ⟨rfl, e2⟩ | ⟨rfl, e2⟩ | ⟨rfl, e2⟩ | ⟨rfl, e2⟩ | ⟨rfl, e2⟩ <;> cases e2
      · rw [e80]
        refine ⟨ov_P mq.1 80, ?_, Or.inl rfl, fun w => absurd rfl w⟩
        rw [(f lk (by rw [hlk]; decide)).1]
        exact hlk
      · exact mkq 86 4 0 _ (by decide) (fun e w => by cases w) rfl m86.1 rfl (Or.inl rfl) m86.2
      · exact mkq 87 136 4 _ (by decide) (fun e w => by cases w) rfl m87.1 rfl (Or.inr rfl) m87.2
      · exact mkq 89 114 4 _ (by decide) (fun e w => by cases w) rfl m89.1 rfl (Or.inr rfl) m89.2
      · exact mkq 90 116 4 _ (by decide) (fun e w => by cases w) rfl m90.1 rfl (Or.inr rfl) m90.2
      · exact mkq 91 137 4 _ (by decide) (fun e w => by cases w) rfl m91.1 rfl (Or.inr rfl) m91.2
    · rw [k86] at et
      rcases t4 _ _ et with ⟨rfl, e2⟩ | ⟨rfl, e2⟩ | ⟨rfl, e2⟩ | ⟨rfl, e2⟩ | ⟨rfl, e2⟩ | ⟨rfl, e2⟩ | ⟨rfl, e2⟩ | ⟨rfl, e2⟩ <;> cases e2
      · exact mkc 21 103 16 _ (fun e w => by cases w) rfl c21.1 rfl (Or.inr rfl) c21.2
      · exact mkc 23 109 4 _ (fun e w => by cases w) rfl c23.1 rfl (Or.inr rfl) c23.2
      · exact mkc 24 110 4 _ (fun e w => by cases w) rfl c24.1 rfl (Or.inr rfl) c24.2
      · exact mkc 25 111 4 _ (fun e w => by cases w) rfl c25.1 rfl (Or.inr rfl) c25.2
      · exact mkc 26 112 4 _ (fun e w => by cases w) rfl c26.1 rfl (Or.inr rfl) c26.2
      · exact mkc 27 142 4 _ (fun e w => by cases w) rfl c27.1 rfl (Or.inr rfl) c27.2
      · exact mkc 30 113 5 _ (fun e w => by cases w) rfl c30.1 rfl (Or.inr rfl) c30.2
      · exact mkc 31 119 80 _ (fun e w => by cases w) rfl c31.1 rfl (Or.inr rfl) c31.2
    · rw [k21] at et; have := tyF_k et; omega
    · have := tyF_k et; omega
  · rcases cas a ha with rfl | rfl | rfl | e
    · rw [kq] at h6; exact absurd h6 (by decide)
    · rw [k86] at h6; exact absurd h6 (by decide)
    · rw [k21] at h6; exact absurd h6 (by decide)
    · omega
  · have e := on8 a ha h6
    subst e
    refine ⟨A 96, A 97, ov_P mq.1 96, ov_P mq.1 97, congrArg Prod.fst (ov_K m96.1), congrArg Prod.fst (ov_K m97.1), m96.2, m97.2, fun b hb hb8 => ⟨fun _ => (on8 b hb hb8).symm, fun _ => (on8 b hb hb8).symm⟩⟩
  · have e := on1 a ha ho
    subst e
    refine ⟨ov_P m86.1 28, fun k hk => ⟨C 27 + 1 + k, ?_, ov_K (rw' k hk).1, (rw' k hk).2, fun b k' hb hob hk' ee => ?_⟩⟩
    · rw [e86, ov_Q c27.1]; exact if_pos hk
    · have e := on1 b hb hob
      subst e
      rw [e86, ov_Q c27.1] at ee
      have ee : (if k' < 4 then some (C 27 + 1 + k') else none) = some (C 27 + 1 + k) := ee
      rw [if_pos hk'] at ee
      have := Option.some.inj ee
      exact ⟨rfl, by omega⟩
  · rcases cas a ha with rfl | rfl | rfl | e
    · rw [kq] at h6; exact absurd h6 (by decide)
    · rw [k86] at h6; exact absurd h6 (by decide)
    · rw [ov_E c21.1]; rfl
    · omega
  · rw [eq' 86 (by decide), e86]
    refine ⟨ov_I m86.1 20, ov_I m86.1 22, ov_P m86.1 28, fun k hk => ⟨?_, ov_K (rw' k hk).1⟩⟩
    rw [ov_Q c27.1]; exact if_pos hk
end Pm
