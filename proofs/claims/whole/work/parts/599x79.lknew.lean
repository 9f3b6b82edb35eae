/-! A link that is new, in the relation. -/
def upG (G : Nat → Nat → Nat) (k i v : Nat) : Nat → Nat → Nat := fun k' i' => if k' = k ∧ i' = i then v else G k' i'
def upH (H : Nat → Nat → Nat) (q : Nat) (f : Nat → Nat) : Nat → Nat → Nat := fun g a => if a = q then f g else H g a
section Ln
variable {G H : Nat → Nat → Nat} {sa : Nat → Nat} {x : Nat} {s sN : cS} {t : moS} {A : List Nat}
theorem upG_n {k i v k' i' : Nat} (h : ¬ (k' = k ∧ i' = i)) : upG G k i v k' i' = G k' i' := if_neg h
theorem upH_n {q a g : Nat} {f : Nat → Nat} (h : a ≠ q) : upH H q f g a = H g a := if_neg h
theorem upH_s {q g : Nat} {f : Nat → Nat} : upH H q f g q = f g := if_pos rfl
theorem hA_up {q : Nat} {f : Nat → Nat} (hq : (s.K q).1 = 0) : hA H (upH H q f) s := fun g a ha => upH_n (fun e => ha (by rw [e]; exact hq))
theorem exA.new (h : exA A s sN) {a : Nat} (ha : nwd s sN a) : a ∈ A := by
  by_cases c : a ∈ A
  · exact c
  · exact absurd ((h a c).1 ▸ ha.2) (fun z => z ha.1)
theorem TK.ex (h : TK sa s) (e : exA A s sN) (hA : ∀ a, a ∈ A → ∀ k, k < kTx.length → sa k ≠ a) : TK sa sN := fun k hk => by
  rw [(e (sa k) (fun z => hA _ z k hk rfl)).1]
  exact h k hk
theorem lk_new (h : RR G H sa x s t) (hM : MV t) {q c z v b d n n' : Nat} (ex : exA [q, c, z, v, b, d] s sN) (fr' : ∀ a, a ∈ [q, c, z, v, b, d] → cFr sa s a) (hd : b ≠ d ∧ q ≠ b) (kq : sN.K q = (7, 0)) (kc' : sN.K c = (117, n')) (kz : sN.K z = (31, 0)) (kv : sN.K v = (118, n')) (kb : sN.K b = (2, 0)) (kd : sN.K d = (125, 16)) (p0 : sN.P 0 b = some d) (p67 : sN.P 67 q = some b) (hn : n = cL t) : RR (upG G 0 n q) (upH H q (fun g => if g = 60 then z else b)) sa x sN t ∧ fr [] [] [] s sN := by
  have f : fr [] [] [] s sN := ex.fr (fun a ha => (fr' a ha).1)
  have hq0 : (s.K q).1 = 0 := (fr' q (by simp)).1
  have g : gA G (upG G 0 n q) t := by
    refine ⟨fun i hi => upG_n (by omega), fun r hr => ⟨upG_n (by omega), fun p hp => ⟨upG_n (by omega), fun k hk => upG_n (by omega)⟩, ⟨upG_n (by omega), fun j hj => upG_n (by omega)⟩, ⟨upG_n (by omega), upG_n (by omega)⟩, ⟨upG_n (by omega), fun j hj => upG_n (by omega), fun j hj => upG_n (by omega)⟩, fun k hk => ⟨upG_n (by omega), upG_n (by omega)⟩⟩, fun i hi => upG_n (by omega), fun i => upG_n (by omega), fun i => upG_n (by omega), upG_n (by omega), fun i => upG_n (by omega)⟩
  have h1 := rr_gh h hM g (hA_up (H := H) (f := fun g => if g = 60 then z else b) hq0)
  have ht : TK sa sN := h.q.1.tk.ex ex (fun a ha => (fr' a ha).2)
  have cas : ∀ a, nwd s sN a → (a = q ∧ sN.K a = (7, 0)) ∨ (a = b ∧ sN.K a = (2, 0)) ∨ (100 ≤ (sN.K a).1 ∧ (sN.K a).1 ≠ 103) ∨ (sN.K a).1 = 31 := fun a ha => by
    have hm := ex.new ha
    simp only [List.mem_cons, List.not_mem_nil, or_false] at hm
    rcases hm with rfl | rfl | rfl | rfl | rfl | rfl
    · exact Or.inl ⟨rfl, kq⟩
    · exact Or.inr (Or.inr (Or.inl (by rw [kc']; exact ⟨show 100 ≤ 117 by decide, show (117 : Nat) ≠ 103 by decide⟩)))
    · exact Or.inr (Or.inr (Or.inr (by rw [kz])))
    · exact Or.inr (Or.inr (Or.inl (by rw [kv]; exact ⟨show 100 ≤ 118 by decide, show (118 : Nat) ≠ 103 by decide⟩)))
    · exact Or.inr (Or.inl ⟨rfl, kb⟩)
    · exact Or.inr (Or.inr (Or.inl (by rw [kd]; exact ⟨show 100 ≤ 125 by decide, show (125 : Nat) ≠ 103 by decide⟩)))
  have t7 : ∀ g e, tyF 7 g = some e → g = 67 ∧ e = (2, 0) := by
    intro g e he
    unfold tyF at he
    split at he <;> first | (cases he; done) | skip
    all_goals (rename_i h1 h2; first | (exact absurd h1 (by decide)) | skip)
    all_goals simp_all
  refine ⟨rr_fr h1 hM (rgl_ext h1.q.1.1 f ht ?_ ?_ ?_ ?_ ?_ ?_ ?_) f (mfr.rf (W := [])) rfl rfl rfl rfl rfl rfl rfl, f⟩
  · intro a ha g v' m et
    rcases cas a ha with ⟨rfl, e⟩ | ⟨rfl, e⟩ | e | e
    · rw [e] at et
      obtain ⟨rfl, e2⟩ := t7 _ _ et
      cases e2
      rw [upH_s, if_neg (show ¬ (67 : Nat) = 60 by decide)]
      refine ⟨p67, by rw [kb], Or.inl rfl, fun _ _ _ => ⟨(fr' b (by simp)).1, fun b' e' hb' et' hh => ?_⟩⟩
      rcases cas b' hb' with ⟨rfl, _⟩ | ⟨rfl, e3⟩ | e3 | e3
      · rfl
      · rw [e3] at et'; cases et'
      · have := tyF_k et'; omega
      · rw [e3] at et'; cases et'
    · rw [e] at et; cases et
    · have := tyF_k et; omega
    · rw [e] at et; cases et
  · intro a ha ho
    rcases cas a ha with ⟨rfl, e⟩ | ⟨rfl, e⟩ | e | e
    · have := ho.2.2; rw [e] at this; exact absurd this (by decide)
    · refine ⟨d, p0, by rw [kd]; exact (show 100 ≤ 125 by decide), by rw [kd]; exact (show 125 < 130 by decide), (fr' d (by simp)).1, fun b' hb' ho' _ => ?_⟩
      rcases cas b' hb' with ⟨rfl, e3⟩ | ⟨rfl, _⟩ | e3 | e3
      · have := ho'.2.2; rw [e3] at this; exact absurd this (by decide)
      · rfl
      · have := ho'.2.1; omega
      · have := ho'.2.2; rw [e3] at this; exact absurd this (by decide)
    · have := ho.2.1; omega
    · have := ho.2.2; rw [e] at this; exact absurd this (by decide)
  · intro a ha h6
    rcases cas a ha with ⟨rfl, e⟩ | ⟨rfl, e⟩ | e | e
    · rw [e] at h6; exact absurd h6 (by decide)
    · rw [e] at h6; exact absurd h6 (by decide)
    · omega
    · omega
  · intro a ha h6
    rcases cas a ha with ⟨rfl, e⟩ | ⟨rfl, e⟩ | e | e
    · rw [e] at h6; exact absurd h6 (by decide)
    · rw [e] at h6; exact absurd h6 (by decide)
    · omega
    · omega
  · intro a ha ho
    rcases cas a ha with ⟨rfl, e⟩ | ⟨rfl, e⟩ | e | e
    · have := ho.2.2; rw [e] at this; exact absurd this (by decide)
    · have := ho.2.2; rw [e] at this; exact absurd this (by decide)
    · have := ho.2.1; omega
    · have := ho.2.2; rw [e] at this; exact absurd this (by decide)
  · intro a ha ho
    rcases cas a ha with ⟨rfl, e⟩ | ⟨rfl, e⟩ | e | e
    · have := ho.2.2; rw [e] at this; exact absurd this (by decide)
    · have := ho.2.2; rw [e] at this; exact absurd this (by decide)
    · have := ho.2.1; omega
    · have := ho.2.2; rw [e] at this; exact absurd this (by decide)
  · intro a i ha h6
    rcases cas a ha with ⟨rfl, e⟩ | ⟨rfl, e⟩ | e | e
    · rw [e] at h6; exact absurd h6 (by decide)
    · rw [e] at h6; exact absurd h6 (by decide)
    · omega
    · omega
end Ln
