/-! A route that is new. -/
def roNv (ur : Nat) (A : Nat → Nat) : Ov := ovI (ovI (ovI (ovI (ovP (ovI (ovI (ovI (ovP (ovP (ovP (ov0 (ur, 0)) 160 (some (A 160))) 161 (some (A 161))) 162 (some (A 162))) 163 2) 164 16) 165 0) 166 none) 167 0) 168 0) 169 0) 170 0
/-- what the routes of a table are, and their three prefixes -/
def ro3 (ur u1 u2 u3 : Nat) : Prop := (ur = 23 ∧ u1 = 9 ∧ u2 = 10 ∧ u3 = 11) ∨ (ur = 24 ∧ u1 = 36 ∧ u2 = 37 ∧ u3 = 38) ∨ (ur = 25 ∧ u1 = 33 ∧ u2 = 34 ∧ u3 = 35)
theorem t23 : ∀ g e, tyF 23 g = some e → (g = 160 ∧ e = (9, 0)) ∨ (g = 161 ∧ e = (10, 0)) ∨ (g = 162 ∧ e = (11, 0)) := by
  intro g e he
  unfold tyF at he
  split at he <;> first | (cases he; done) | skip
  all_goals (rename_i h1 h2; first | (exact absurd h1 (by decide)) | skip)
  all_goals simp_all
theorem t24 : ∀ g e, tyF 24 g = some e → (g = 160 ∧ e = (36, 0)) ∨ (g = 161 ∧ e = (37, 0)) ∨ (g = 162 ∧ e = (38, 0)) := by
  intro g e he
  unfold tyF at he
  split at he <;> first | (cases he; done) | skip
  all_goals (rename_i h1 h2; first | (exact absurd h1 (by decide)) | skip)
  all_goals simp_all
theorem t25 : ∀ g e, tyF 25 g = some e → (g = 160 ∧ e = (33, 0)) ∨ (g = 161 ∧ e = (34, 0)) ∨ (g = 162 ∧ e = (35, 0)) := by
  intro g e he
  unfold tyF at he
  split at he <;> first | (cases he; done) | skip
  all_goals (rename_i h1 h2; first | (exact absurd h1 (by decide)) | skip)
  all_goals simp_all
theorem ro3.t {ur u1 u2 u3 g : Nat} {e : Nat × Nat} (h : ro3 ur u1 u2 u3) (he : tyF ur g = some e) : (g = 160 ∧ e = (u1, 0)) ∨ (g = 161 ∧ e = (u2, 0)) ∨ (g = 162 ∧ e = (u3, 0)) := by
  rcases h with ⟨rfl, rfl, rfl, rfl⟩ | ⟨rfl, rfl, rfl, rfl⟩ | ⟨rfl, rfl, rfl, rfl⟩
  · exact t23 g e he
  · exact t24 g e he
  · exact t25 g e he
theorem ro3.u {ur u1 u2 u3 : Nat} (h : ro3 ur u1 u2 u3) : (1 ≤ ur ∧ ur < 100 ∧ cKn ur = 8) ∧ (1 ≤ u1 ∧ u1 < 100 ∧ cKn u1 = 5) ∧ (1 ≤ u2 ∧ u2 < 100 ∧ cKn u2 = 5) ∧ (1 ≤ u3 ∧ u3 < 100 ∧ cKn u3 = 5) := by
  rcases h with ⟨rfl, rfl, rfl, rfl⟩ | ⟨rfl, rfl, rfl, rfl⟩ | ⟨rfl, rfl, rfl, rfl⟩ <;> decide
theorem ro3.n {ur u1 u2 u3 : Nat} (h : ro3 ur u1 u2 u3) (g : Nat) : tyF u1 g = none ∧ tyF u2 g = none ∧ tyF u3 g = none := by
  rcases h with ⟨rfl, rfl, rfl, rfl⟩ | ⟨rfl, rfl, rfl, rfl⟩ | ⟨rfl, rfl, rfl, rfl⟩ <;> exact ⟨rfl, rfl, rfl⟩
section Nr
variable {G H : Nat → Nat → Nat} {sa : Nat → Nat} {x q ur u1 u2 u3 kc ks : Nat} {s0 s s1 : cS} {t : moS} {L : List (Nat × Ov)}
theorem hq_Ro {f : cS → Nat → Nat → Prop} (h : HP sa s0 ((q, ov0 (ur, 0)) :: L) s) (h3 : ro3 ur u1 u2 u3) (hkc : 3 ≤ kc) (hks : 12 ≤ ks) (kk : ∀ (A : Nat → Nat) s', HP sa s0 ((q, roNv ur A) :: (A 162, prNv u3) :: (A 161, prNv u2) :: (A 160, prNv u1) :: L) s' → f s' (kc - 3) (ks - 12)) : C_Ro_init sa q s kc ks f := by
  obtain ⟨o8, p1, p2, p3⟩ := h3.u
  unfold C_Ro_init
  refine hq_nwO (u := u1) h (by omega) (by omega) (fun q1 s1 h => ?_) p1
  refine ⟨hp_o (L1 := []) h p1, hq_Pr h p1 fun s2 h => ?_⟩
  refine hq_pP (L1 := [_]) h (fun s3 h => ?_) o8
  have h := hp_mv (L1 := [_]) h
  refine hq_nwO (u := u2) h (by omega) (by omega) (fun q4 s4 h => ?_) p2
  refine ⟨hp_o (L1 := []) h p2, hq_Pr h p2 fun s5 h => ?_⟩
  refine hq_pP (L1 := [_]) h (fun s6 h => ?_) o8
  have h := hp_mv (L1 := [_]) h
  refine hq_nwO (u := u3) h (by omega) (by omega) (fun q7 s7 h => ?_) p3
  refine ⟨hp_o (L1 := []) h p3, hq_Pr h p3 fun s8 h => ?_⟩
  refine hq_pP (L1 := [_]) h (fun s9 h => ?_) o8
  have h := hp_mv (L1 := [_]) h
  refine hq_pI (L1 := []) h (fun s10 h => ?_) o8
  refine hq_pI (L1 := []) h (fun s11 h => ?_) o8
  refine hq_pI (L1 := []) h (fun s12 h => ?_) o8
  refine hq_pP (L1 := []) h (fun s13 h => ?_) o8
  refine hq_pZ (L1 := []) h (fun s14 h => ?_) (Or.inl rfl) o8
  refine hq_pI (L1 := []) h (fun s15 h => ?_) o8
  refine hq_pI (L1 := []) h (fun s16 h => ?_) o8
  refine hq_pI (L1 := []) h (fun s17 h => ?_) o8
  obtain ⟨A, rfl, rfl, rfl⟩ : ∃ A : Nat → Nat, A 160 = q1 ∧ A 161 = q4 ∧ A 162 = q7 := ⟨fun g => if g = 160 then q1 else if g = 161 then q4 else q7, rfl, rfl, rfl⟩
  have := kk A s17 h
  rw [show kc - 3 = kc - 1 - 1 - 1 by omega, show ks - 12 = ks - 4 - 4 - 4 by omega] at this
  exact this
/-- the relation where a route is new and stands nowhere -/
theorem rr_newRo (h : RR G H sa x s t) (hM : MV t) (h3 : ro3 ur u1 u2 u3) {A : Nat → Nat} (e : HP sa s [(q, roNv ur A), (A 162, prNv u3), (A 161, prNv u2), (A 160, prNv u1)] s1) : RR G (upH H q A) sa x s1 t ∧ fr [] [] [] s s1 ∧ s1.K q = (ur, 0) ∧ (s.K q).1 = 0 := by
  have ex := hp_ex e
  have mem : ∀ {a : Nat} {v : Ov}, (a, v) ∈ [(q, roNv ur A), (A 162, prNv u3), (A 161, prNv u2), (A 160, prNv u1)] → ov s1 a = v ∧ cFr sa s a := fun {a v} hav => ⟨(e.2.1 _ hav).1, (e.2.1 _ hav).2.1⟩
  have mq := mem (a := q) (v := roNv ur A) (by simp)
  have m1 := mem (a := A 160) (v := prNv u1) (by simp)
  have m2 := mem (a := A 161) (v := prNv u2) (by simp)
  have m3 := mem (a := A 162) (v := prNv u3) (by simp)
  have kq : s1.K q = (ur, 0) := ov_K mq.1
  have k1 : s1.K (A 160) = (u1, 0) := ov_K m1.1
  have k2 : s1.K (A 161) = (u2, 0) := ov_K m2.1
  have k3 : s1.K (A 162) = (u3, 0) := ov_K m3.1
  have fresh : ∀ a, a ∈ [q, A 162, A 161, A 160] → cFr sa s a := fun a ha => by
    simp only [List.mem_cons, List.not_mem_nil, or_false] at ha
    rcases ha with rfl | rfl | rfl | rfl
    · exact mq.2
    · exact m3.2
    · exact m2.2
    · exact m1.2
  have f : fr [] [] [] s s1 := ex.fr (fun a ha => (fresh a ha).1)
  have hq0 : (s.K q).1 = 0 := mq.2.1
  have h1 := rr_gh h hM gA.rf (hA_up (H := H) (f := A) hq0)
  have ht : TK sa s1 := h.q.1.tk.ex ex (fun a ha => (fresh a ha).2)
  obtain ⟨o8, p1, p2, p3⟩ := h3.u
  have cas : ∀ a, nwd s s1 a → (a = q ∧ s1.K a = (ur, 0)) ∨ ((∀ g, tyF (s1.K a).1 g = none) ∧ (s1.K a).1 < 100 ∧ cKn (s1.K a).1 = 5) := fun a ha => by
    have hm := ex.new ha
    simp only [List.map_cons, List.map_nil, List.mem_cons, List.not_mem_nil, or_false] at hm
    rcases hm with rfl | rfl | rfl | rfl
    · exact Or.inl ⟨rfl, kq⟩
    · rw [k3]; exact Or.inr ⟨fun g => (h3.n g).2.2, p3.2⟩
    · rw [k2]; exact Or.inr ⟨fun g => (h3.n g).2.1, p2.2⟩
    · rw [k1]; exact Or.inr ⟨fun g => (h3.n g).1, p1.2⟩
  have noO : ∀ c a, c ≠ 5 → c ≠ 8 → nwd s s1 a → okO s1 c a → False := fun c a h5 h8 ha ho => by
    rcases cas a ha with ⟨-, e⟩ | ⟨-, -, e⟩
    · have := ho.2.2; rw [e] at this; exact h8 (this.symm.trans o8.2.2)
    · have := ho.2.2; exact h5 (this.symm.trans e)
  have noK : ∀ c a, cKn c ≠ 5 → cKn c ≠ 8 → nwd s s1 a → (s1.K a).1 = c → False := fun c a h5 h8 ha ho => by
    rcases cas a ha with ⟨-, e⟩ | ⟨-, -, e⟩
    · rw [e] at ho
      have ho : ur = c := ho
      exact h8 (ho ▸ o8.2.2)
    · exact h5 (ho ▸ e)
  refine ⟨rr_fr h1 hM (rgl_ext h1.q.1.1 f ht ?_ ?_ ?_ ?_ ?_ ?_ ?_) f (mfr.rf (W := [])) rfl rfl rfl rfl rfl rfl rfl, f, kq, hq0⟩
  · intro a ha g v n et
    rcases cas a ha with ⟨rfl, ek⟩ | ⟨ek, -⟩
    · rw [ek] at et
      have only : ∀ b e', nwd s s1 b → tyF (s1.K b).1 g = some e' → a = b := fun b e' hb eb => by
        rcases cas b hb with ⟨rfl, -⟩ | ⟨e2, -⟩
        · rfl
        · rw [e2 g] at eb; cases eb
      rw [upH_s]
      rcases h3.t et with ⟨rfl, e3⟩ | ⟨rfl, e3⟩ | ⟨rfl, e3⟩ <;> cases e3
      · exact ⟨ov_P mq.1 160, by rw [k1], Or.inl rfl, fun _ _ _ => ⟨m1.2.1, fun b e' hb eb _ => only b e' hb eb⟩⟩
      · exact ⟨ov_P mq.1 161, by rw [k2], Or.inl rfl, fun _ _ _ => ⟨m2.2.1, fun b e' hb eb _ => only b e' hb eb⟩⟩
      · exact ⟨ov_P mq.1 162, by rw [k3], Or.inl rfl, fun _ _ _ => ⟨m3.2.1, fun b e' hb eb _ => only b e' hb eb⟩⟩
    · rw [ek g] at et; cases et
  · exact fun a ha ho => (noO 0 a (by decide) (by decide) ha ho).elim
  · exact fun a ha h6 => (noK 6 a (by decide) (by decide) ha h6).elim
  · exact fun a ha h6 => (noK 8 a (by decide) (by decide) ha h6).elim
  · exact fun a ha ho => (noO 10 a (by decide) (by decide) ha ho).elim
  · exact fun a ha ho => (noO 1 a (by decide) (by decide) ha ho).elim
  · intro a i ha h6
    rcases cas a ha with ⟨-, e⟩ | ⟨-, e, -⟩
    · rw [e] at h6
      have h6 : ur = 103 := h6
      omega
    · omega
end Nr
