/-! A list that is new. -/
section Ls
variable {G H : Nat → Nat → Nat} {sa : Nat → Nat} {x kc ks : Nat} {s sN : cS} {t : moS}
theorem w_PlI {Q : cS → Nat → Nat → Prop} {q n : Nat} {p1 : Option Nat} (hq : okO s 6 q) (hn1 : 1 ≤ n) (hn : n ≤ 32) (hkc : 4 ≤ kc) (hks : 4 * n ≤ ks) (k : ∀ a1 a2 a3 a4 s', cFr sa s a1 → cFr sa s a2 → cFr sa s a3 → cFr sa s a4 → a1 ≠ a2 → a1 ≠ a3 → a1 ≠ a4 → a2 ≠ a3 → a2 ≠ a4 → a3 ≠ a4 → exA [q, a1, a2, a3, a4] s s' → s'.K q = s.K q → s'.K a1 = (138, n) → s'.K a2 = (102, n) → s'.K a3 = (105, n) → s'.K a4 = (106, n) → s'.P 120 q = p1 → s'.P 121 q = some a1 → s'.P 122 q = some a2 → s'.P 123 q = some a3 → s'.P 124 q = some a4 → s'.I 125 q = 0 → Q s' (kc - 1 - 1 - 1 - 1) (ks - n - n - n - n)) : C_Pl_init sa q p1 (nI n) s kc ks Q := by
  have hq0 := hq.n0
  have emx : mxI (nI n) 1 = nI n := by
    unfold mxI
    rw [if_neg (show ¬ nI n < (1 : Int32) from nI_nlt (b := 1) hn1 (by omega))]
  unfold C_Pl_init
  refine ⟨_, gd_to hq, _, gd_to hq, ?_⟩
  rw [emx]
  refine ⟨n, rfl, by omega, by omega, by omega, 138, by decide, fun a1 h1 => ?_⟩
  have e1q : a1 ≠ q := fun e => hq0 (by rw [← e]; exact h1.1)
  have o1 : okO (cNw (cSP (cSI s (20 * 6 + 5) q 0) (20 * 6 + 0) q p1) a1 (138, n)) 6 q := okO.nw (show okO (cSP (cSI s (20 * 6 + 5) q 0) (20 * 6 + 0) q p1) 6 q from hq) h1.1
  refine ⟨_, gd_to o1, ?_⟩
  refine ⟨n, rfl, by omega, by omega, by omega, 102, by decide, fun a2 h2 => ?_⟩
  have e21 : a2 ≠ a1 := fun e => by have := h2.1; rw [e] at this; exact absurd (show (138 : Nat) = 0 from by have z := this; simp [evKP, evKN] at z) (by decide)
  have s2 : (s.K a2).1 = 0 := by have := h2.1; simpa [evKP, evKN, evKI, e21] using this
  have e2q : a2 ≠ q := fun e => hq0 (by rw [← e]; exact s2)
  have o2 := okO.nw (t := (102, n)) (show okO (cSP (cNw (cSP (cSI s (20 * 6 + 5) q 0) (20 * 6 + 0) q p1) a1 (138, n)) (20 * 6 + 1) q (some a1)) 6 q from o1) h2.1
  refine ⟨_, gd_to o2, ?_⟩
  refine ⟨n, rfl, by omega, by omega, by omega, 105, by decide, fun a3 h3 => ?_⟩
  have e32 : a3 ≠ a2 := fun e => by have := h3.1; rw [e] at this; simp [evKP, evKN] at this
  have e31 : a3 ≠ a1 := fun e => by have := h3.1; rw [e] at this; simp [evKP, evKN, e21.symm] at this
  have s3 : (s.K a3).1 = 0 := by have := h3.1; simpa [evKP, evKN, evKI, e32, e31] using this
  have e3q : a3 ≠ q := fun e => hq0 (by rw [← e]; exact s3)
  have o3 := okO.nw (t := (105, n)) (show okO (cSP (cNw (cSP (cNw (cSP (cSI s (20 * 6 + 5) q 0) (20 * 6 + 0) q p1) a1 (138, n)) (20 * 6 + 1) q (some a1)) a2 (102, n)) (20 * 6 + 2) q (some a2)) 6 q from o2) h3.1
  refine ⟨_, gd_to o3, ?_⟩
  refine ⟨n, rfl, by omega, by omega, by omega, 106, by decide, fun a4 h4 => ?_⟩
  have e43 : a4 ≠ a3 := fun e => by have := h4.1; rw [e] at this; simp [evKP, evKN] at this
  have e42 : a4 ≠ a2 := fun e => by have := h4.1; rw [e] at this; simp [evKP, evKN, e32.symm] at this
  have e41 : a4 ≠ a1 := fun e => by have := h4.1; rw [e] at this; simp [evKP, evKN, e31.symm, e21.symm] at this
  have s4 : (s.K a4).1 = 0 := by have := h4.1; simpa [evKP, evKN, evKI, e43, e42, e41] using this
  have e4q : a4 ≠ q := fun e => hq0 (by rw [← e]; exact s4)
  have o4 := okO.nw (t := (106, n)) (show okO (cSP (cNw (cSP (cNw (cSP (cNw (cSP (cSI s (20 * 6 + 5) q 0) (20 * 6 + 0) q p1) a1 (138, n)) (20 * 6 + 1) q (some a1)) a2 (102, n)) (20 * 6 + 2) q (some a2)) a3 (105, n)) (20 * 6 + 3) q (some a3)) 6 q from o3) h4.1
  refine ⟨_, gd_to o4, k a1 a2 a3 a4 _ h1 ⟨s2, h2.2⟩ ⟨s3, h3.2⟩ ⟨s4, h4.2⟩ e21.symm e31.symm e41.symm e32.symm e42.symm e43.symm ?_ ?_ ?_ ?_ ?_ ?_ ?_ ?_ ?_ ?_ ?_ ?_⟩
  · exact (exA.si (by simp)).tr ((exA.sp (by simp)).tr ((exA.nw (by simp)).tr ((exA.sp (by simp)).tr ((exA.nw (by simp)).tr ((exA.sp (by simp)).tr ((exA.nw (by simp)).tr ((exA.sp (by simp)).tr ((exA.nw (by simp)).tr (exA.sp (by simp))))))))))
  all_goals simp [evI, evP, evIP, evPI, evKI, evKP, evKN, evIN, evPN, e1q.symm, e2q.symm, e3q.symm, e4q.symm, e1q, e2q, e3q, e4q, e21, e21.symm, e31, e31.symm, e32, e32.symm, e41, e41.symm, e42, e42.symm, e43, e43.symm]
/-- where a list's rows lie -/
def lsF (z a1 a2 a3 a4 : Nat) : Nat → Nat := fun g => if g = 120 then z else if g = 121 then a1 else if g = 122 then a2 else if g = 123 then a3 else a4
theorem t20 : ∀ g e, tyF 20 g = some e → (g = 121 ∧ e = (138, 16)) ∨ (g = 122 ∧ e = (102, 16)) ∨ (g = 123 ∧ e = (105, 16)) ∨ (g = 124 ∧ e = (106, 16)) := by
  intro g e he
  unfold tyF at he
  split at he <;> first | (cases he; done) | skip
  all_goals (rename_i h1 h2; first | (exact absurd h1 (by decide)) | skip)
  all_goals simp_all
theorem ls_new (h : RR G H sa x s t) (hM : MV t) {q c z v a1 a2 a3 a4 n n' : Nat} (ex : exA [q, c, z, v, a1, a2, a3, a4] s sN) (fr' : ∀ a, a ∈ [q, c, z, v, a1, a2, a3, a4] → cFr sa s a) (kq : sN.K q = (20, 0)) (kc' : sN.K c = (117, n')) (kz : sN.K z = (31, 0)) (kv : sN.K v = (118, n')) (k1 : sN.K a1 = (138, 16)) (k2 : sN.K a2 = (102, 16)) (k3 : sN.K a3 = (105, 16)) (k4 : sN.K a4 = (106, 16)) (p1 : sN.P 121 q = some a1) (p2 : sN.P 122 q = some a2) (p3 : sN.P 123 q = some a3) (p4 : sN.P 124 q = some a4) (hn : n = cS' t) : RR (upG G 3 n q) (upH H q (lsF z a1 a2 a3 a4)) sa x sN t ∧ fr [] [] [] s sN := by
  have f : fr [] [] [] s sN := ex.fr (fun a ha => (fr' a ha).1)
  have hq0 : (s.K q).1 = 0 := (fr' q (by simp)).1
  have g : gA G (upG G 3 n q) t := by
    refine ⟨fun i hi => upG_n (by omega), fun r hr => ⟨upG_n (by omega), fun p hp => ⟨upG_n (by omega), fun k hk => upG_n (by omega)⟩, ⟨upG_n (by omega), fun j hj => upG_n (by omega)⟩, ⟨upG_n (by omega), upG_n (by omega)⟩, ⟨upG_n (by omega), fun j hj => upG_n (by omega), fun j hj => upG_n (by omega)⟩, fun k hk => ⟨upG_n (by omega), upG_n (by omega)⟩⟩, fun i hi => upG_n (by omega), fun i => upG_n (by omega), fun i => upG_n (by omega), upG_n (by omega), fun i => upG_n (by omega)⟩
  have h1 := rr_gh h hM g (hA_up (H := H) (f := lsF z a1 a2 a3 a4) hq0)
  have ht : TK sa sN := h.q.1.tk.ex ex (fun a ha => (fr' a ha).2)
  have cas : ∀ a, nwd s sN a → (a = q ∧ sN.K a = (20, 0)) ∨ (100 ≤ (sN.K a).1 ∧ (sN.K a).1 ≠ 103) ∨ (sN.K a).1 = 31 := fun a ha => by
    have hm := ex.new ha
    simp only [List.mem_cons, List.not_mem_nil, or_false] at hm
    rcases hm with rfl | rfl | rfl | rfl | rfl | rfl | rfl | rfl
    · exact Or.inl ⟨rfl, kq⟩
    · exact Or.inr (Or.inl (by rw [kc']; exact ⟨show 100 ≤ 117 by decide, show (117 : Nat) ≠ 103 by decide⟩))
    · exact Or.inr (Or.inr (by rw [kz]))
    · exact Or.inr (Or.inl (by rw [kv]; exact ⟨show 100 ≤ 118 by decide, show (118 : Nat) ≠ 103 by decide⟩))
    · exact Or.inr (Or.inl (by rw [k1]; decide))
    · exact Or.inr (Or.inl (by rw [k2]; decide))
    · exact Or.inr (Or.inl (by rw [k3]; decide))
    · exact Or.inr (Or.inl (by rw [k4]; decide))
  have onlyq : ∀ b' e' g, nwd s sN b' → tyF (sN.K b').1 g = some e' → q = b' := fun b' e' g hb' et' => by
    rcases cas b' hb' with ⟨rfl, _⟩ | e3 | e3
    · rfl
    · have := tyF_k et'; omega
    · rw [e3] at et'; cases et'
  have noO : ∀ c' a, c' ≠ 6 → c' ≠ 13 → nwd s sN a → okO sN c' a → False := fun c' a h6 h13 ha ho => by
    rcases cas a ha with ⟨rfl, e⟩ | e | e
    · have := ho.2.2; rw [e] at this; exact h6 this.symm
    · have := ho.2.1; omega
    · have := ho.2.2; rw [e] at this; exact h13 this.symm
  have noR : ∀ u a, u ≠ 20 → u ≠ 31 → (u < 100 ∨ u = 103) → nwd s sN a → (sN.K a).1 = u → False := fun u a h20 h31 hu ha hr => by
    rcases cas a ha with ⟨rfl, e⟩ | e | e
    · rw [e] at hr; exact h20 hr.symm
    · omega
    · omega
  refine ⟨rr_fr h1 hM (rgl_ext h1.q.1.1 f ht ?_ (fun a ha ho => (noO 0 a (by decide) (by decide) ha ho).elim) (fun a ha h6 => (noR 6 a (by decide) (by decide) (by decide) ha h6).elim) (fun a ha h6 => (noR 8 a (by decide) (by decide) (by decide) ha h6).elim) (fun a ha ho => (noO 10 a (by decide) (by decide) ha ho).elim) (fun a ha ho => (noO 1 a (by decide) (by decide) ha ho).elim) (fun a i ha h6 => (noR 103 a (by decide) (by decide) (by decide) ha h6).elim)) f (mfr.rf (W := [])) rfl rfl rfl rfl rfl rfl rfl, f⟩
  intro a ha g v' m et
  have eq := onlyq a _ g ha et
  subst eq
  rw [kq] at et
  rw [upH_s]
  rcases t20 _ _ et with ⟨rfl, e2⟩ | ⟨rfl, e2⟩ | ⟨rfl, e2⟩ | ⟨rfl, e2⟩ <;> cases e2
  · exact ⟨p1, by show (sN.K a1).1 = 138; rw [k1], Or.inr (by show (sN.K a1).2 = 16; rw [k1]), fun _ _ _ => ⟨(fr' a1 (by simp)).1, fun b' e' hb' et' _ => onlyq b' e' _ hb' et'⟩⟩
  · exact ⟨p2, by show (sN.K a2).1 = 102; rw [k2], Or.inr (by show (sN.K a2).2 = 16; rw [k2]), fun _ _ _ => ⟨(fr' a2 (by simp)).1, fun b' e' hb' et' _ => onlyq b' e' _ hb' et'⟩⟩
  · exact ⟨p3, by show (sN.K a3).1 = 105; rw [k3], Or.inr (by show (sN.K a3).2 = 16; rw [k3]), fun _ _ _ => ⟨(fr' a3 (by simp)).1, fun b' e' hb' et' _ => onlyq b' e' _ hb' et'⟩⟩
  · exact ⟨p4, by show (sN.K a4).1 = 106; rw [k4], Or.inr (by show (sN.K a4).2 = 16; rw [k4]), fun _ _ _ => ⟨(fr' a4 (by simp)).1, fun b' e' hb' et' _ => onlyq b' e' _ hb' et'⟩⟩
end Ls
