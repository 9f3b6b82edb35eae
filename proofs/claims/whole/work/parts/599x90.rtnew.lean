/-! A router that is new: the books, the relation. -/
def rtG (G : Nat → Nat → Nat) (n q : Nat) (A F : Nat → Nat) : Nat → Nat → Nat := fun b i => if b = 1 ∧ i = n then q else if b = 13 ∧ i = n then 0 else if b = 14 ∧ i = n then 0 else if b = 5 ∧ i = 2 * n then F 0 else if b = 5 ∧ i = 2 * n + 1 then F 5 else if b = 9 ∧ 8 * n ≤ i ∧ i < 8 * n + 8 then A 189 + 1 + (i - 8 * n) else if b = 10 ∧ 8 * n ≤ i ∧ i < 8 * n + 8 then A 191 + 1 + (i - 8 * n) else G b i
def rtH (H : Nat → Nat → Nat) (x z e q : Nat) (A F : Nat → Nat) : Nat → Nat → Nat := fun g a => if a = q then (if g = 180 then x else if g = 181 then z else A g) else if a = F 0 then lsF e (F 1) (F 2) (F 3) (F 4) g else if a = F 5 then lsF e (F 6) (F 7) (F 8) (F 9) g else H g a
section Rn
variable {G H : Nat → Nat → Nat} {sa : Nat → Nat} {x : Nat} {s sN : cS} {t : moS}
theorem rtG_n {n q b i : Nat} {A F : Nat → Nat} (h1 : ¬ (b = 1 ∧ i = n)) (h2 : ¬ (b = 13 ∧ i = n)) (h3 : ¬ (b = 14 ∧ i = n)) (h4 : ¬ (b = 5 ∧ i = 2 * n)) (h5 : ¬ (b = 5 ∧ i = 2 * n + 1)) (h6 : ¬ (b = 9 ∧ 8 * n ≤ i ∧ i < 8 * n + 8)) (h7 : ¬ (b = 10 ∧ 8 * n ≤ i ∧ i < 8 * n + 8)) : rtG G n q A F b i = G b i := by
  unfold rtG
  rw [if_neg h1, if_neg h2, if_neg h3, if_neg h4, if_neg h5, if_neg h6, if_neg h7]
theorem gA_rt {n q : Nat} {A F : Nat → Nat} (hn : n = cR t) : gA G (rtG G n q A F) t := by
  have kk : ∀ {b i : Nat}, ¬ (b = 1 ∧ i = n) → ¬ (b = 13 ∧ i = n) → ¬ (b = 14 ∧ i = n) → ¬ (b = 5 ∧ i = 2 * n) → ¬ (b = 5 ∧ i = 2 * n + 1) → ¬ (b = 9 ∧ 8 * n ≤ i ∧ i < 8 * n + 8) → ¬ (b = 10 ∧ 8 * n ≤ i ∧ i < 8 * n + 8) → rtG G n q A F b i = G b i := rtG_n
  refine ⟨fun i hi => ?_, fun r hr => ⟨?_, fun p hp => ⟨?_, fun k hk => ?_⟩, ⟨?_, fun j hj => ?_⟩, ⟨?_, ?_⟩, ⟨?_, fun j hj => ?_, fun j hj => ?_⟩, fun k hk => ⟨?_, ?_⟩⟩, fun i hi => ?_, fun i => ?_, fun i => ?_, ?_, fun i => ?_⟩
  all_goals (apply kk <;> omega)
theorem t26 : ∀ g e, tyF 26 g = some e → (g = 180 ∧ e = (30, 0)) ∨ (g = 184 ∧ e = (139, 4)) ∨ (g = 186 ∧ e = (27, 0)) ∨ (g = 187 ∧ e = (28, 0)) ∨ (g = 188 ∧ e = (143, 2)) ∨ (g = 189 ∧ e = (140, 8)) ∨ (g = 191 ∧ e = (141, 8)) ∨ (g = 193 ∧ e = (121, 2)) ∨ (g = 194 ∧ e = (122, 2)) ∨ (g = 195 ∧ e = (123, 3)) ∨ (g = 196 ∧ e = (104, 11)) := by
  intro g e he
  unfold tyF at he
  split at he <;> first | (cases he; done) | skip
  all_goals (rename_i h1 h2; first | (exact absurd h1 (by decide)) | skip)
  all_goals simp_all
theorem t21 : ∀ g e, tyF 21 g = some e → (g = 121 ∧ e = (138, 32)) ∨ (g = 122 ∧ e = (102, 32)) ∨ (g = 123 ∧ e = (105, 32)) ∨ (g = 124 ∧ e = (106, 32)) := by
  intro g e he
  unfold tyF at he
  split at he <;> first | (cases he; done) | skip
  all_goals (rename_i h1 h2; first | (exact absurd h1 (by decide)) | skip)
  all_goals simp_all
/-- what is new with a router -/
def rtNw (sa : Nat → Nat) (x q : Nat) (A F : Nat → Nat) (yd yo : Nat → Nat → Option Nat) (p2 : Option Nat) (p3 tm : Int32) (L L' : List (Nat × Ov)) : Prop := (∀ g, g ∈ L' ↔ g ∈ [(q, rrV A (some x) p2 p3 tm), (A 184, ov0 (139, 4)), (A 186, tbV 27 (A 0)), (A 0, ov0 (135, 16)), (A 187, tbV 28 (A 1)), (A 1, ov0 (145, 16)), (A 188, ovQ (ovQ (ov0 (143, 2)) 0 (some (F 0))) 1 (some (F 5))), (A 189, ovM 140 (A 189) 8), (A 191, ovM 141 (A 191) 8), (A 193, ovE (ovE (ov0 (121, 2)) 0 0) 1 0), (A 194, ovE (ovE (ov0 (122, 2)) 0 (-1)) 1 (-1)), (A 195, ovE (ovE (ovE (ov0 (123, 3)) 0 30) 1 180) 2 120), (A 196, ov0 (104, 11)), (F 0, fiV sa (F 1) (F 2) (F 3) (F 4)), (F 1, ov0 (138, 32)), (F 2, ov0 (102, 32)), (F 3, ov0 (105, 32)), (F 4, ov0 (106, 32)), (F 5, fiV sa (F 6) (F 7) (F 8) (F 9)), (F 6, ov0 (138, 32)), (F 7, ov0 (102, 32)), (F 8, ov0 (105, 32)), (F 9, ov0 (106, 32))] ∨ g ∈ rwF (A 189) 100 4 yd 8 ∨ g ∈ rwF (A 191) 128 4 yo 8 ∨ g ∈ L)
theorem rt_new (h : RR G H sa x s t) (hM : MV t) {q z n : Nat} {A F : Nat → Nat} {yd yo : Nat → Nat → Option Nat} {p2 : Option Nat} {p3 tm : Int32} {L L' : List (Nat × Ov)} (hp : HP sa s L' sN) (hm : rtNw sa x q A F yd yo p2 p3 tm L L') (hL : ∀ p, p ∈ L → 100 ≤ p.2.1.1 ∧ p.2.1.1 ≠ 103 ∨ p.2.1.1 = 31) (d0 : F 0 ≠ F 5) (d1 : F 1 ≠ F 6) (d2 : F 2 ≠ F 7) (d3 : F 3 ≠ F 8) (d4 : F 4 ≠ F 9) (hn : n = cR t) : RR (rtG G n q A F) (rtH H x z (sa 3) q A F) sa x sN t ∧ fr [] [] [] s sN := by
  have mem : ∀ {a : Nat} {v : Ov}, (a, v) ∈ L' → ov sN a = v ∧ (s.K a).1 = 0 := fun {a v} hav => ⟨(hp.2.1 _ hav).1, (hp.2.1 _ hav).2.1.1⟩
  have mq := mem ((hm (q, rrV A (some x) p2 p3 tm)).mpr (Or.inl (by simp)))
  have m184 := mem ((hm (A 184, ov0 (139, 4))).mpr (Or.inl (by simp)))
  have m186 := mem ((hm (A 186, tbV 27 (A 0))).mpr (Or.inl (by simp)))
  have m0 := mem ((hm (A 0, ov0 (135, 16))).mpr (Or.inl (by simp)))
  have m187 := mem ((hm (A 187, tbV 28 (A 1))).mpr (Or.inl (by simp)))
  have m1 := mem ((hm (A 1, ov0 (145, 16))).mpr (Or.inl (by simp)))
  have m188 := mem ((hm (A 188, ovQ (ovQ (ov0 (143, 2)) 0 (some (F 0))) 1 (some (F 5)))).mpr (Or.inl (by simp)))
  have m189 := mem ((hm (A 189, ovM 140 (A 189) 8)).mpr (Or.inl (by simp)))
  have m191 := mem ((hm (A 191, ovM 141 (A 191) 8)).mpr (Or.inl (by simp)))
  have m193 := mem ((hm (A 193, ovE (ovE (ov0 (121, 2)) 0 0) 1 0)).mpr (Or.inl (by simp)))
  have m194 := mem ((hm (A 194, ovE (ovE (ov0 (122, 2)) 0 (-1)) 1 (-1))).mpr (Or.inl (by simp)))
  have m195 := mem ((hm (A 195, ovE (ovE (ovE (ov0 (123, 3)) 0 30) 1 180) 2 120)).mpr (Or.inl (by simp)))
  have m196 := mem ((hm (A 196, ov0 (104, 11))).mpr (Or.inl (by simp)))
  have f0 := mem ((hm (F 0, fiV sa (F 1) (F 2) (F 3) (F 4))).mpr (Or.inl (by simp)))
  have f1 := mem ((hm (F 1, ov0 (138, 32))).mpr (Or.inl (by simp)))
  have f2 := mem ((hm (F 2, ov0 (102, 32))).mpr (Or.inl (by simp)))
  have f3 := mem ((hm (F 3, ov0 (105, 32))).mpr (Or.inl (by simp)))
  have f4 := mem ((hm (F 4, ov0 (106, 32))).mpr (Or.inl (by simp)))
  have f5 := mem ((hm (F 5, fiV sa (F 6) (F 7) (F 8) (F 9))).mpr (Or.inl (by simp)))
  have f6 := mem ((hm (F 6, ov0 (138, 32))).mpr (Or.inl (by simp)))
  have f7 := mem ((hm (F 7, ov0 (102, 32))).mpr (Or.inl (by simp)))
  have f8 := mem ((hm (F 8, ov0 (105, 32))).mpr (Or.inl (by simp)))
  have f9 := mem ((hm (F 9, ov0 (106, 32))).mpr (Or.inl (by simp)))
  have kq : sN.K q = (26, 0) := ov_K mq.1
  have k0 : sN.K (F 0) = (21, 0) := ov_K f0.1
  have k5 : sN.K (F 5) = (21, 0) := ov_K f5.1
  have k27 : sN.K (A 186) = (27, 0) := ov_K m186.1
  have k28 : sN.K (A 187) = (28, 0) := ov_K m187.1
  have qf0 : F 0 ≠ q := fun e => by rw [e, kq] at k0; exact absurd (congrArg Prod.fst k0) (by decide)
  have qf5 : F 5 ≠ q := fun e => by rw [e, kq] at k5; exact absurd (congrArg Prod.fst k5) (by decide)
  have ex := hp_ex hp
  have f : fr [] [] [] s sN := ex.fr (fun a ha => by
    obtain ⟨p, hpm, e⟩ := List.mem_map.mp ha
    rw [← e]; exact (hp.2.1 p hpm).2.1.1)
  have g := gA_rt (G := G) (q := q) (A := A) (F := F) hn
  have hh : hA H (rtH H x z (sa 3) q A F) s := fun g a ha => by
    unfold rtH
    rw [if_neg (fun e => ha (by rw [e]; exact mq.2)), if_neg (fun e => ha (by rw [e]; exact f0.2)), if_neg (fun e => ha (by rw [e]; exact f5.2))]
  have h1 := rr_gh h hM g hh
  have ht : TK sa sN := h.q.1.tk.ex ex (fun a ha => by
    obtain ⟨p, hpm, e⟩ := List.mem_map.mp ha
    rw [← e]; exact (hp.2.1 p hpm).2.1.2)
  have cas : ∀ a, nwd s sN a → a = q ∨ a = F 0 ∨ a = F 5 ∨ a = A 186 ∨ a = A 187 ∨ (100 ≤ (sN.K a).1 ∧ (sN.K a).1 ≠ 103) ∨ (sN.K a).1 = 31 := fun a ha => by
    obtain ⟨p, hpm, e⟩ := List.mem_map.mp (ex.new ha)
    have hv := (hp.2.1 p hpm).1
    rw [e] at hv
    have hK := ov_K hv
    have arr : 100 ≤ p.2.1.1 ∧ p.2.1.1 ≠ 103 → a = q ∨ a = F 0 ∨ a = F 5 ∨ a = A 186 ∨ a = A 187 ∨ (100 ≤ (sN.K a).1 ∧ (sN.K a).1 ≠ 103) ∨ (sN.K a).1 = 31 := fun w => Or.inr (Or.inr (Or.inr (Or.inr (Or.inr (Or.inl (by rw [hK]; exact w))))))
    rcases (hm p).mp hpm with w | w | w | w
    · simp only [List.mem_cons, List.not_mem_nil, or_false] at w
      rcases w with rfl | rfl | rfl | rfl | rfl | rfl | rfl | rfl | rfl | rfl | rfl | rfl | rfl | rfl | rfl | rfl | rfl | rfl | rfl | rfl | rfl | rfl | rfl
      all_goals first
        | exact Or.inl e.symm
        | exact Or.inr (Or.inl e.symm)
        | exact Or.inr (Or.inr (Or.inl e.symm))
        | exact Or.inr (Or.inr (Or.inr (Or.inl e.symm)))
        | exact Or.inr (Or.inr (Or.inr (Or.inr (Or.inl e.symm))))
        | exact arr (by simp [ov0, ovE, ovQ, ovM])
    · obtain ⟨j, hj, e2⟩ := rwF_m w
      exact arr (by rw [e2]; exact (show 100 ≤ 100 ∧ (100 : Nat) ≠ 103 by decide))
    · obtain ⟨j, hj, e2⟩ := rwF_m w
      exact arr (by rw [e2]; exact (show 100 ≤ 128 ∧ (128 : Nat) ≠ 103 by decide))
    · rcases hL p w with w | w
      · exact arr w
      · exact Or.inr (Or.inr (Or.inr (Or.inr (Or.inr (Or.inr (by rw [hK]; exact w))))))
  have noO : ∀ c' a, c' ≠ 9 → c' ≠ 6 → c' ≠ 10 → c' ≠ 13 → nwd s sN a → okO sN c' a → False := fun c' a h9 h6 h10 h13 ha ho => by
    have h2 := ho.2.2
    rcases cas a ha with rfl | rfl | rfl | rfl | rfl | e | e
    · rw [kq] at h2; exact h9 h2.symm
    · rw [k0] at h2; exact h6 h2.symm
    · rw [k5] at h2; exact h6 h2.symm
    · rw [k27] at h2; exact h10 h2.symm
    · rw [k28] at h2; exact h10 h2.symm
    · have := ho.2.1; omega
    · rw [e] at h2; exact h13 h2.symm
  have noR : ∀ u a, u ≠ 26 → u ≠ 21 → u ≠ 27 → u ≠ 28 → u ≠ 31 → (u < 100 ∨ u = 103) → nwd s sN a → (sN.K a).1 = u → False := fun u a h26 h21 h27 h28 h31 hu ha hr => by
    rcases cas a ha with rfl | rfl | rfl | rfl | rfl | e | e
    · rw [kq] at hr; exact h26 hr.symm
    · rw [k0] at hr; exact h21 hr.symm
    · rw [k5] at hr; exact h21 hr.symm
    · rw [k27] at hr; exact h27 hr.symm
    · rw [k28] at hr; exact h28 hr.symm
    · omega
    · omega
  have eq' : ∀ g, g ≠ 180 → g ≠ 181 → rtH H x z (sa 3) q A F g q = A g := fun g a b => by
    unfold rtH
    rw [if_pos rfl, if_neg a, if_neg b]
  have eF0 : ∀ g, rtH H x z (sa 3) q A F g (F 0) = lsF (sa 3) (F 1) (F 2) (F 3) (F 4) g := fun g => by
    unfold rtH
    rw [if_neg qf0, if_pos rfl]
  have eF5 : ∀ g, rtH H x z (sa 3) q A F g (F 5) = lsF (sa 3) (F 6) (F 7) (F 8) (F 9) g := fun g => by
    unfold rtH
    rw [if_neg qf5, if_neg (fun e => d0 e.symm), if_pos rfl]
  have mkq : ∀ (g v' m : Nat) (w : Ov), 182 ≤ g → (rrV A (some x) p2 p3 tm).2.2.2.1 g = some (A g) → ov sN (A g) = w → w.1.1 = v' → (m = 0 ∨ w.1.2 = m) → (s.K (A g)).1 = 0 → sN.P g q = some (rtH H x z (sa 3) q A F g q) ∧ (sN.K (rtH H x z (sa 3) q A F g q)).1 = v' ∧ (m = 0 ∨ (sN.K (rtH H x z (sa 3) q A F g q)).2 = m) ∧ (g ≠ 80 → g ≠ 140 → g ≠ 180 → (s.K (rtH H x z (sa 3) q A F g q)).1 = 0 ∧ ∀ b e', nwd s sN b → tyF (sN.K b).1 g = some e' → rtH H x z (sa 3) q A F g q = rtH H x z (sa 3) q A F g b → q = b) := by
    intro g v' m w hg h2 h3 h4 h5 h6
    rw [eq' g (by omega) (by omega)]
    have hK := ov_K h3
    refine ⟨(ov_P mq.1 g).trans h2, by rw [hK]; exact h4, by rw [hK]; exact h5, fun _ _ _ => ⟨h6, fun b e' hb et' _ => ?_⟩⟩
    rcases cas b hb with rfl | rfl | rfl | rfl | rfl | e3 | e3
    · rfl
    · rw [k0] at et'; rcases t21 _ _ et' with z | z | z | z <;> omega
    · rw [k5] at et'; rcases t21 _ _ et' with z | z | z | z <;> omega
    · rw [k27] at et'; cases et'
    · rw [k28] at et'; cases et'
    · have := tyF_k et'; omega
    · rw [e3] at et'; cases et'
  refine ⟨rr_fr h1 hM (rgl_ext h1.q.1.1 f ht ?_ (fun a ha ho => (noO 0 a (by decide) (by decide) (by decide) (by decide) ha ho).elim) (fun a ha h6 => (noR 6 a (by decide) (by decide) (by decide) (by decide) (by decide) (by decide) ha h6).elim) (fun a ha h6 => (noR 8 a (by decide) (by decide) (by decide) (by decide) (by decide) (by decide) ha h6).elim) ?_ (fun a ha ho => (noO 1 a (by decide) (by decide) (by decide) (by decide) ha ho).elim) (fun a i ha h6 => (noR 103 a (by decide) (by decide) (by decide) (by decide) (by decide) (by decide) ha h6).elim)) f (mfr.rf (W := [])) rfl rfl rfl rfl rfl rfl rfl, f⟩
  · intro a ha g v' m et
    rcases cas a ha with rfl | rfl | rfl | rfl | rfl | e | e
    · rw [kq] at et
      rcases t26 _ _ et with ⟨rfl, e2⟩ | ⟨rfl, e2⟩ | ⟨rfl, e2⟩ | ⟨rfl, e2⟩ | ⟨rfl, e2⟩ | ⟨rfl, e2⟩ | ⟨rfl, e2⟩ | ⟨rfl, e2⟩ | ⟨rfl, e2⟩ | ⟨rfl, e2⟩ | ⟨rfl, e2⟩ <;> cases e2
      · have eH : rtH H x z (sa 3) a A F 180 a = x := by unfold rtH; rw [if_pos rfl, if_pos rfl]
        rw [eH]
        refine ⟨ov_P mq.1 180, ?_, Or.inl rfl, fun _ _ w => absurd rfl w⟩
        rw [(f x (by rw [h.q.1.1.1]; decide)).1]
        exact h.q.1.1.1
      · exact mkq 184 139 4 _ (by decide) rfl m184.1 rfl (Or.inr rfl) m184.2
      · exact mkq 186 27 0 _ (by decide) rfl m186.1 rfl (Or.inl rfl) m186.2
      · exact mkq 187 28 0 _ (by decide) rfl m187.1 rfl (Or.inl rfl) m187.2
      · exact mkq 188 143 2 _ (by decide) rfl m188.1 rfl (Or.inr rfl) m188.2
      · exact mkq 189 140 8 _ (by decide) rfl m189.1 rfl (Or.inr rfl) m189.2
      · exact mkq 191 141 8 _ (by decide) rfl m191.1 rfl (Or.inr rfl) m191.2
      · exact mkq 193 121 2 _ (by decide) rfl m193.1 rfl (Or.inr rfl) m193.2
      · exact mkq 194 122 2 _ (by decide) rfl m194.1 rfl (Or.inr rfl) m194.2
      · exact mkq 195 123 3 _ (by decide) rfl m195.1 rfl (Or.inr rfl) m195.2
      · exact mkq 196 104 11 _ (by decide) rfl m196.1 rfl (Or.inr rfl) m196.2
    · rw [k0] at et
      rcases t21 _ _ et with ⟨rfl, e2⟩ | ⟨rfl, e2⟩ | ⟨rfl, e2⟩ | ⟨rfl, e2⟩ <;> cases e2
      · refine ⟨(ov_P f0.1 121).trans (by rw [eF0]; rfl), by rw [eF0]; exact congrArg Prod.fst (ov_K f1.1), Or.inr (by rw [eF0]; exact congrArg Prod.snd (ov_K f1.1)), fun _ _ _ => ⟨by rw [eF0]; exact f1.2, fun b e' hb et' hh => ?_⟩⟩
        rcases cas b hb with rfl | rfl | rfl | rfl | rfl | e3 | e3
        · rw [kq] at et'; cases et'
        · rfl
        · rw [eF0, eF5] at hh
          exact absurd (show F 1 = F 6 from hh) d1
        · rw [k27] at et'; cases et'
        · rw [k28] at et'; cases et'
        · have := tyF_k et'; omega
        · rw [e3] at et'; cases et'
      · refine ⟨(ov_P f0.1 122).trans (by rw [eF0]; rfl), by rw [eF0]; exact congrArg Prod.fst (ov_K f2.1), Or.inr (by rw [eF0]; exact congrArg Prod.snd (ov_K f2.1)), fun _ _ _ => ⟨by rw [eF0]; exact f2.2, fun b e' hb et' hh => ?_⟩⟩
        rcases cas b hb with rfl | rfl | rfl | rfl | rfl | e3 | e3
        · rw [kq] at et'; cases et'
        · rfl
        · rw [eF0, eF5] at hh
          exact absurd (show F 2 = F 7 from hh) d2
        · rw [k27] at et'; cases et'
        · rw [k28] at et'; cases et'
        · have := tyF_k et'; omega
        · rw [e3] at et'; cases et'
      · refine ⟨(ov_P f0.1 123).trans (by rw [eF0]; rfl), by rw [eF0]; exact congrArg Prod.fst (ov_K f3.1), Or.inr (by rw [eF0]; exact congrArg Prod.snd (ov_K f3.1)), fun _ _ _ => ⟨by rw [eF0]; exact f3.2, fun b e' hb et' hh => ?_⟩⟩
        rcases cas b hb with rfl | rfl | rfl | rfl | rfl | e3 | e3
        · rw [kq] at et'; cases et'
        · rfl
        · rw [eF0, eF5] at hh
          exact absurd (show F 3 = F 8 from hh) d3
        · rw [k27] at et'; cases et'
        · rw [k28] at et'; cases et'
        · have := tyF_k et'; omega
        · rw [e3] at et'; cases et'
      · refine ⟨(ov_P f0.1 124).trans (by rw [eF0]; rfl), by rw [eF0]; exact congrArg Prod.fst (ov_K f4.1), Or.inr (by rw [eF0]; exact congrArg Prod.snd (ov_K f4.1)), fun _ _ _ => ⟨by rw [eF0]; exact f4.2, fun b e' hb et' hh => ?_⟩⟩
        rcases cas b hb with rfl | rfl | rfl | rfl | rfl | e3 | e3
        · rw [kq] at et'; cases et'
        · rfl
        · rw [eF0, eF5] at hh
          exact absurd (show F 4 = F 9 from hh) d4
        · rw [k27] at et'; cases et'
        · rw [k28] at et'; cases et'
        · have := tyF_k et'; omega
        · rw [e3] at et'; cases et'
    · rw [k5] at et
      rcases t21 _ _ et with ⟨rfl, e2⟩ | ⟨rfl, e2⟩ | ⟨rfl, e2⟩ | ⟨rfl, e2⟩ <;> cases e2
      · refine ⟨(ov_P f5.1 121).trans (by rw [eF5]; rfl), by rw [eF5]; exact congrArg Prod.fst (ov_K f6.1), Or.inr (by rw [eF5]; exact congrArg Prod.snd (ov_K f6.1)), fun _ _ _ => ⟨by rw [eF5]; exact f6.2, fun b e' hb et' hh => ?_⟩⟩
        rcases cas b hb with rfl | rfl | rfl | rfl | rfl | e3 | e3
        · rw [kq] at et'; cases et'
        · rw [eF0, eF5] at hh
          exact absurd (show F 1 = F 6 from hh.symm) d1
        · rfl
        · rw [k27] at et'; cases et'
        · rw [k28] at et'; cases et'
        · have := tyF_k et'; omega
        · rw [e3] at et'; cases et'
      · refine ⟨(ov_P f5.1 122).trans (by rw [eF5]; rfl), by rw [eF5]; exact congrArg Prod.fst (ov_K f7.1), Or.inr (by rw [eF5]; exact congrArg Prod.snd (ov_K f7.1)), fun _ _ _ => ⟨by rw [eF5]; exact f7.2, fun b e' hb et' hh => ?_⟩⟩
        rcases cas b hb with rfl | rfl | rfl | rfl | rfl | e3 | e3
        · rw [kq] at et'; cases et'
        · rw [eF0, eF5] at hh
          exact absurd (show F 2 = F 7 from hh.symm) d2
        · rfl
        · rw [k27] at et'; cases et'
        · rw [k28] at et'; cases et'
        · have := tyF_k et'; omega
        · rw [e3] at et'; cases et'
      · refine ⟨(ov_P f5.1 123).trans (by rw [eF5]; rfl), by rw [eF5]; exact congrArg Prod.fst (ov_K f8.1), Or.inr (by rw [eF5]; exact congrArg Prod.snd (ov_K f8.1)), fun _ _ _ => ⟨by rw [eF5]; exact f8.2, fun b e' hb et' hh => ?_⟩⟩
        rcases cas b hb with rfl | rfl | rfl | rfl | rfl | e3 | e3
        · rw [kq] at et'; cases et'
        · rw [eF0, eF5] at hh
          exact absurd (show F 3 = F 8 from hh.symm) d3
        · rfl
        · rw [k27] at et'; cases et'
        · rw [k28] at et'; cases et'
        · have := tyF_k et'; omega
        · rw [e3] at et'; cases et'
      · refine ⟨(ov_P f5.1 124).trans (by rw [eF5]; rfl), by rw [eF5]; exact congrArg Prod.fst (ov_K f9.1), Or.inr (by rw [eF5]; exact congrArg Prod.snd (ov_K f9.1)), fun _ _ _ => ⟨by rw [eF5]; exact f9.2, fun b e' hb et' hh => ?_⟩⟩
        rcases cas b hb with rfl | rfl | rfl | rfl | rfl | e3 | e3
        · rw [kq] at et'; cases et'
        · rw [eF0, eF5] at hh
          exact absurd (show F 4 = F 9 from hh.symm) d4
        · rfl
        · rw [k27] at et'; cases et'
        · rw [k28] at et'; cases et'
        · have := tyF_k et'; omega
        · rw [e3] at et'; cases et'
    · rw [k27] at et; cases et
    · rw [k28] at et; cases et
    · have := tyF_k et; omega
    · rw [e] at et; cases et
  · intro a ha ho
    have h2 := ho.2.2
    have p27 : sN.P 200 (A 186) = some (A 0) := ov_P m186.1 200
    have p28 : sN.P 200 (A 187) = some (A 1) := ov_P m187.1 200
    have w0 : sN.K (A 0) = (135, 16) := ov_K m0.1
    have w1 : sN.K (A 1) = (145, 16) := ov_K m1.1
    have w01 : A 0 ≠ A 1 := fun e => by rw [e, w1] at w0; exact absurd w0 (by decide)
    have only : ∀ b, nwd s sN b → okO sN 10 b → b = A 186 ∨ b = A 187 := fun b hb hob => by
      have h3 := hob.2.2
      rcases cas b hb with rfl | rfl | rfl | rfl | rfl | e | e
      · rw [kq] at h3; exact absurd h3 (by decide)
      · rw [k0] at h3; exact absurd h3 (by decide)
      · rw [k5] at h3; exact absurd h3 (by decide)
      · exact Or.inl rfl
      · exact Or.inr rfl
      · have := hob.2.1; omega
      · rw [e] at h3; exact absurd h3 (by decide)
    rcases only a ha ho with rfl | rfl
    · refine ⟨A 0, p27, by rw [w0]; decide, m0.2, fun b hb hob eb => ?_⟩
      rcases only b hb hob with rfl | rfl
      · rfl
      · rw [p28] at eb; exact absurd (Option.some.inj eb).symm w01
    · refine ⟨A 1, p28, by rw [w1]; decide, m1.2, fun b hb hob eb => ?_⟩
      rcases only b hb hob with rfl | rfl
      · rw [p27] at eb; exact absurd (Option.some.inj eb) w01
      · rfl
end Rn
