/-! A datagram that is new. -/
def daNv (A : Nat → Nat) : Ov := ovI (ovI (ovI (ovP (ovP (ovI (ovI (ovI (ovI (ovP (ovP (ovP (ov0 (6, 0)) 40 (some (A 40))) 41 (some (A 41))) 42 (some (A 42))) 43 1) 44 4) 45 0) 46 0) 47 none) 48 none) 49 0) 50 4) 51 4
def byNv (u d : Nat) : Ov := ovI (ovP (ov0 (u, 0)) 0 (some d)) 1 0
theorem t6 : ∀ g e, tyF 6 g = some e → (g = 40 ∧ e = (3, 0)) ∨ (g = 41 ∧ e = (12, 0)) ∨ (g = 42 ∧ e = (13, 0)) := by
  intro g e he
  unfold tyF at he
  split at he <;> first | (cases he; done) | skip
  all_goals (rename_i h1 h2; first | (exact absurd h1 (by decide)) | skip)
  all_goals simp_all
section Nd
variable {G H : Nat → Nat → Nat} {sa : Nat → Nat} {x q kc ks : Nat} {s0 s s1 : cS} {t : moS} {L : List (Nat × Ov)}
theorem hq_By {f : cS → Nat → Nat → Prop} {u w n : Nat} (h : HP sa s0 ((q, ov0 (u, 0)) :: L) s) (hu : 1 ≤ u ∧ u < 100 ∧ cKn u = 0) (hw : 100 ≤ w ∧ w < 130 ∧ cAT w = .byte) (h16 : 16 ≤ n) (hn : n ≤ 4000000) (hkc : 1 ≤ kc) (hks : n ≤ ks) (kk : ∀ d s', HP sa s0 ((q, byNv u d) :: (d, ov0 (w, n)) :: L) s' → f s' (kc - 1) (ks - n)) : C_By_init sa q (nI n) s kc ks f := by
  unfold C_By_init
  refine ifF (nI_nlt (b := 16) h16 (by omega)) ?_
  unfold C_By_init_b17
  refine hq_nwA (u := w) h hn hkc hks (fun d s1 h => ?_) hw
  refine ⟨q, rfl, ?_⟩
  refine hq_pP (L1 := [_]) h (fun s2 h => ?_) hu
  have h := hp_mv (L1 := [_]) h
  refine hq_pI (L1 := []) h (fun s3 h => ?_) hu
  exact kk d s3 h
theorem hq_Da {f : cS → Nat → Nat → Prop} (h : HP sa s0 ((q, ov0 (6, 0)) :: L) s) (hkc : 4 ≤ kc) (hks : 610 ≤ ks) (kk : ∀ (A : Nat → Nat) s', HP sa s0 ((q, daNv A) :: (A 42, prNv 13) :: (A 41, prNv 12) :: (A 40, byNv 3 (A 0)) :: (A 0, ov0 (129, 600)) :: L) s' → f s' (kc - 4) (ks - 610)) : C_Da_init sa q s kc ks f := by
  have o2 : 1 ≤ 6 ∧ 6 < 100 ∧ cKn 6 = 2 := by decide
  have o0 : 1 ≤ 3 ∧ 3 < 100 ∧ cKn 3 = 0 := by decide
  have p1 : 1 ≤ 12 ∧ 12 < 100 ∧ cKn 12 = 5 := by decide
  have p2 : 1 ≤ 13 ∧ 13 < 100 ∧ cKn 13 = 5 := by decide
  unfold C_Da_init
  refine hq_nwO (u := 3) h (by omega) (by omega) (fun q1 s1 h => ?_) o0
  refine ⟨hp_o (L1 := []) h o0, hq_By (n := 600) (w := 129) h o0 (by decide) (by decide) (by decide) (by omega) (by omega) fun d s2 h => ?_⟩
  have h := hp_mv (L1 := [_, _]) h
  refine hq_pP (L1 := []) h (fun s3 h => ?_) o2
  refine hq_nwO (u := 12) h (by omega) (by omega) (fun q4 s4 h => ?_) p1
  refine ⟨hp_o (L1 := []) h p1, hq_Pr h p1 fun s5 h => ?_⟩
  refine hq_pP (L1 := [_]) h (fun s6 h => ?_) o2
  have h := hp_mv (L1 := [_]) h
  refine hq_nwO (u := 13) h (by omega) (by omega) (fun q7 s7 h => ?_) p2
  refine ⟨hp_o (L1 := []) h p2, hq_Pr h p2 fun s8 h => ?_⟩
  refine hq_pP (L1 := [_]) h (fun s9 h => ?_) o2
  have h := hp_mv (L1 := [_]) h
  refine hq_pZ (L1 := []) h (fun s10 h => ?_) (Or.inr rfl) o2
  refine hq_pI (L1 := []) h (fun s11 h => ?_) o2
  refine hq_pI (L1 := []) h (fun s12 h => ?_) o2
  refine hq_pI (L1 := []) h (fun s13 h => ?_) o2
  refine hq_pP (L1 := []) h (fun s14 h => ?_) o2
  refine hq_pP (L1 := []) h (fun s15 h => ?_) o2
  refine hq_pI (L1 := []) h (fun s16 h => ?_) o2
  refine hq_pI (L1 := []) h (fun s17 h => ?_) o2
  refine hq_pI (L1 := []) h (fun s18 h => ?_) o2
  obtain ⟨A, rfl, rfl, rfl, rfl⟩ : ∃ A : Nat → Nat, A 40 = q1 ∧ A 41 = q4 ∧ A 42 = q7 ∧ A 0 = d := ⟨fun g => if g = 40 then q1 else if g = 41 then q4 else if g = 42 then q7 else d, rfl, rfl, rfl, rfl⟩
  have := kk A s18 h
  rw [show kc - 4 = kc - 1 - 1 - 1 - 1 by omega, show ks - 610 = ks - 2 - 600 - 4 - 4 by omega] at this
  exact this
/-- the relation where a datagram is new and stands nowhere -/
theorem rr_newDa (h : RR G H sa x s t) (hM : MV t) {A : Nat → Nat} (e : HP sa s [(q, daNv A), (A 42, prNv 13), (A 41, prNv 12), (A 40, byNv 3 (A 0)), (A 0, ov0 (129, 600))] s1) : RR G (upH H q A) sa x s1 t ∧ fr [] [] [] s s1 ∧ s1.K q = (6, 0) ∧ (s.K q).1 = 0 := by
  have ex := hp_ex e
  have mem : ∀ {a : Nat} {v : Ov}, (a, v) ∈ [(q, daNv A), (A 42, prNv 13), (A 41, prNv 12), (A 40, byNv 3 (A 0)), (A 0, ov0 (129, 600))] → ov s1 a = v ∧ cFr sa s a := fun {a v} hav => ⟨(e.2.1 _ hav).1, (e.2.1 _ hav).2.1⟩
  have mq := mem (a := q) (v := daNv A) (by simp)
  have m0 := mem (a := A 0) (v := ov0 (129, 600)) (by simp)
  have m1 := mem (a := A 40) (v := byNv 3 (A 0)) (by simp)
  have m2 := mem (a := A 41) (v := prNv 12) (by simp)
  have m3 := mem (a := A 42) (v := prNv 13) (by simp)
  have kq : s1.K q = (6, 0) := ov_K mq.1
  have k0 : s1.K (A 0) = (129, 600) := ov_K m0.1
  have k1 : s1.K (A 40) = (3, 0) := ov_K m1.1
  have k2 : s1.K (A 41) = (12, 0) := ov_K m2.1
  have k3 : s1.K (A 42) = (13, 0) := ov_K m3.1
  have fresh : ∀ a, a ∈ [q, A 42, A 41, A 40, A 0] → cFr sa s a := fun a ha => by
    simp only [List.mem_cons, List.not_mem_nil, or_false] at ha
    rcases ha with rfl | rfl | rfl | rfl | rfl
    · exact mq.2
    · exact m3.2
    · exact m2.2
    · exact m1.2
    · exact m0.2
  have f : fr [] [] [] s s1 := ex.fr (fun a ha => (fresh a ha).1)
  have hq0 : (s.K q).1 = 0 := mq.2.1
  have h1 := rr_gh h hM gA.rf (hA_up (H := H) (f := A) hq0)
  have ht : TK sa s1 := h.q.1.tk.ex ex (fun a ha => (fresh a ha).2)
  have cas : ∀ a, nwd s s1 a → (a = q ∧ s1.K a = (6, 0)) ∨ (a = A 40 ∧ s1.K a = (3, 0)) ∨ (a = A 0 ∧ s1.K a = (129, 600)) ∨ (s1.K a).1 = 12 ∨ (s1.K a).1 = 13 := fun a ha => by
    have hm := ex.new ha
    simp only [List.map_cons, List.map_nil, List.mem_cons, List.not_mem_nil, or_false] at hm
    rcases hm with rfl | rfl | rfl | rfl | rfl
    · exact Or.inl ⟨rfl, kq⟩
    · rw [k3]; exact Or.inr (Or.inr (Or.inr (Or.inr rfl)))
    · rw [k2]; exact Or.inr (Or.inr (Or.inr (Or.inl rfl)))
    · exact Or.inr (Or.inl ⟨rfl, k1⟩)
    · exact Or.inr (Or.inr (Or.inl ⟨rfl, k0⟩))
  have noT : ∀ a g e', nwd s s1 a → tyF (s1.K a).1 g = some e' → a = q := fun a g e' ha et => by
    rcases cas a ha with ⟨z, -⟩ | ⟨-, z⟩ | ⟨-, z⟩ | z | z
    · exact z
    all_goals (rw [z] at et; cases et)
  have noO : ∀ c a, c ≠ 5 → c ≠ 2 → c ≠ 0 → nwd s s1 a → okO s1 c a → False := fun c a h5 h2 h0 ha ho => by
    have := ho.2.2
    have hl := ho.2.1
    rcases cas a ha with ⟨-, z⟩ | ⟨-, z⟩ | ⟨-, z⟩ | z | z
    · rw [z] at this; exact h2 this.symm
    · rw [z] at this; exact h0 this.symm
    · rw [z] at hl; exact absurd hl (by decide)
    · rw [z] at this; exact h5 this.symm
    · rw [z] at this; exact h5 this.symm
  have noK : ∀ c a, c ≠ 6 → c ≠ 3 → c ≠ 129 → c ≠ 12 → c ≠ 13 → nwd s s1 a → (s1.K a).1 = c → False := fun c a h1 h2 h3 h4 h5 ha ho => by
    rcases cas a ha with ⟨-, z⟩ | ⟨-, z⟩ | ⟨-, z⟩ | z | z <;> rw [z] at ho
    · exact h1 ho.symm
    · exact h2 ho.symm
    · exact h3 ho.symm
    · exact h4 ho.symm
    · exact h5 ho.symm
  have is0 : ∀ a, nwd s s1 a → okO s1 0 a → a = A 40 := fun a ha ho => by
    have := ho.2.2
    have hl := ho.2.1
    rcases cas a ha with ⟨-, z⟩ | ⟨z, -⟩ | ⟨-, z⟩ | z | z
    · rw [z] at this; exact absurd this (by decide)
    · exact z
    · rw [z] at hl; exact absurd hl (by decide)
    · rw [z] at this; exact absurd this (by decide)
    · rw [z] at this; exact absurd this (by decide)
  have p0 : s1.P 0 (A 40) = some (A 0) := ov_P m1.1 0
  refine ⟨rr_fr h1 hM (rgl_ext h1.q.1.1 f ht ?_ ?_ ?_ ?_ ?_ ?_ ?_) f (mfr.rf (W := [])) rfl rfl rfl rfl rfl rfl rfl, f, kq, hq0⟩
  · intro a ha g v n et
    have eq := noT a g _ ha et
    subst eq
    rw [kq] at et
    rw [upH_s]
    rcases t6 g _ et with ⟨rfl, e3⟩ | ⟨rfl, e3⟩ | ⟨rfl, e3⟩ <;> cases e3
    · exact ⟨ov_P mq.1 40, by rw [k1], Or.inl rfl, fun _ _ _ => ⟨m1.2.1, fun b e' hb eb _ => (noT b _ e' hb eb).symm⟩⟩
    · exact ⟨ov_P mq.1 41, by rw [k2], Or.inl rfl, fun _ _ _ => ⟨m2.2.1, fun b e' hb eb _ => (noT b _ e' hb eb).symm⟩⟩
    · exact ⟨ov_P mq.1 42, by rw [k3], Or.inl rfl, fun _ _ _ => ⟨m3.2.1, fun b e' hb eb _ => (noT b _ e' hb eb).symm⟩⟩
  · intro a ha ho
    rw [is0 a ha ho]
    exact ⟨A 0, p0, by rw [k0]; decide, by rw [k0]; decide, m0.2.1, fun b hb hob _ => (is0 b hb hob).symm⟩
  · intro a ha h6
    have : a = q := by
      rcases cas a ha with ⟨z, -⟩ | ⟨-, z⟩ | ⟨-, z⟩ | z | z
      · exact z
      all_goals (rw [z] at h6; exact absurd h6 (by decide))
    subst this
    rw [upH_s]
    refine ⟨[], okr (u := 3) (by rw [k1]) 0, by decide, A 0, p0, k0, ov_I m1.1 1, by decide, by decide, by decide, fun i hi => absurd hi (Nat.not_lt_zero i)⟩
  · exact fun a ha h6 => (noK 8 a (by decide) (by decide) (by decide) (by decide) (by decide) ha h6).elim
  · exact fun a ha ho => (noO 10 a (by decide) (by decide) (by decide) ha ho).elim
  · exact fun a ha ho => (noO 1 a (by decide) (by decide) (by decide) ha ho).elim
  · exact fun a i ha h6 => (noK 103 a (by decide) (by decide) (by decide) (by decide) (by decide) ha h6).elim
end Nd
