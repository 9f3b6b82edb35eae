/-! A router that is new, as values. -/
section Nr
variable {sa : Nat → Nat} {s0 s s' : cS} {a q u v n k kc ks x : Nat} {L L1 L2 : List (Nat × Ov)} {y : Nat → Nat → Option Nat} {p : Nat × Ov}
theorem ndp_mv : ∀ {L1 : List (Nat × Ov)}, ndp (L1 ++ p :: L2) → ndp (p :: (L1 ++ L2))
  | [], h => h
  | b :: L1, h => by
    obtain ⟨h1, h2⟩ : (∀ p', p' ∈ L1 ++ p :: L2 → p'.1 ≠ b.1) ∧ ndp (L1 ++ p :: L2) := h
    obtain ⟨i1, i2⟩ := ndp_mv h2
    refine ⟨fun p' hp' => ?_, fun p' hp' => ?_, i2⟩
    · rcases List.mem_cons.mp hp' with z | z
      · rw [z]; exact fun e => h1 p (by simp) e.symm
      · exact i1 p' z
    · refine h1 p' ?_
      rcases List.mem_append.mp hp' with z | z
      · exact List.mem_append.mpr (Or.inl z)
      · exact List.mem_append.mpr (Or.inr (List.mem_cons.mpr (Or.inr z)))
theorem hp_mv (h : HP sa s0 (L1 ++ p :: L2) s) : HP sa s0 (p :: (L1 ++ L2)) s := by
  have hm : ∀ p', p' ∈ L1 ++ p :: L2 ↔ p' ∈ p :: (L1 ++ L2) := fun p' => by
    simp only [List.mem_append, List.mem_cons]
    constructor
    · rintro (z | z | z)
      · exact Or.inr (Or.inl z)
      · exact Or.inl z
      · exact Or.inr (Or.inr z)
    · rintro (z | z | z)
      · exact Or.inr (Or.inl z)
      · exact Or.inl z
      · exact Or.inr (Or.inr z)
  exact ⟨fun b hb => h.1 b fun p' hp' => hb p' ((hm p').mp hp'), fun p' hp' => h.2.1 p' ((hm p').mpr hp'), ndp_mv h.2.2⟩
theorem hp_old (h : HP sa s0 L s) (ha : (s0.K a).1 ≠ 0) : ov s a = ov s0 a := h.1 a fun p hp e => ha (by rw [← e]; exact (h.2.1 p hp).2.1.1)
theorem hq_rE {i n : Nat} {w : Ov} {f : Int32 → Prop} (hv : ov s a = w) (hi : i < n) (hn : n < 2 ^ 31) (he : w.1.2 = n) (kk : f (w.2.2.2.2.1 i)) (hu : 100 ≤ w.1.1 ∧ w.1.1 < 130 ∧ cAT w.1.1 = .int) : ob (rE s .int a (nI i)) f := by
  have hK := ov_K hv
  refine ⟨_, gd_to ⟨by rw [hK]; exact hu.1, by rw [hK]; exact hu.2.1, by rw [hK]; exact hu.2.2, by rw [hK, he]; exact vp_in_nI hi hn⟩, ?_⟩
  rw [nI_clamp (by omega), ov_E hv]
  exact kk
def tbV (u d : Nat) : Ov := ovI (ovP (ov0 (u, 0)) 200 (some d)) 201 0
def fiV (sa : Nat → Nat) (a1 a2 a3 a4 : Nat) : Ov := ovP (ovP (ovP (ovP (ovP (ovI (ov0 (21, 0)) 125 0) 120 (some (sa 3))) 121 (some a1)) 122 (some a2)) 123 (some a3)) 124 (some a4)
/-- a router's fields when it is new -/
def rrV (A : Nat → Nat) (p1 p2 : Option Nat) (p3 tm : Int32) : Ov := ovI (ovI (ovP (ovP (ovI (ovI (ovP (ovP (ovP (ovP (ovI (ovP (ovI (ovP (ovP (ovP (ovP (ovI (ovP (ovI (ov0 (26, 0)) 183 1) 184 (some (A 184))) 185 0) 186 (some (A 186))) 187 (some (A 187))) 188 (some (A 188))) 189 (some (A 189))) 190 0) 191 (some (A 191))) 192 0) 193 (some (A 193))) 194 (some (A 194))) 195 (some (A 195))) 196 (some (A 196))) 198 (-1)) 199 0) 180 p1) 181 p2) 182 p3) 197 tm
theorem hq_Rr {f : cS → Nat → Nat → Prop} {p2 : Option Nat} {p3 tm : Int32} (h : HP sa s0 ((q, ov0 (26, 0)) :: L) s) (hx : okO s0 11 x) (htm : s0.I 225 x + 30 = tm) (hkc : 40 ≤ kc) (hks : 420 ≤ ks) (kk : ∀ (A : Nat → Nat) (F : Nat → Nat) (yd yo : Nat → Nat → Option Nat) L' s' kc' ks', HP sa s0 L' s' → (∀ g, g ∈ L' ↔ g ∈ [(q, rrV A (some x) p2 p3 tm), (A 184, ov0 (139, 4)), (A 186, tbV 27 (A 0)), (A 0, ov0 (135, 16)), (A 187, tbV 28 (A 1)), (A 1, ov0 (145, 16)), (A 188, ovQ (ovQ (ov0 (143, 2)) 0 (some (F 0))) 1 (some (F 5))), (A 189, ovM 140 (A 189) 8), (A 191, ovM 141 (A 191) 8), (A 193, ovE (ovE (ov0 (121, 2)) 0 0) 1 0), (A 194, ovE (ovE (ov0 (122, 2)) 0 (-1)) 1 (-1)), (A 195, ovE (ovE (ovE (ov0 (123, 3)) 0 30) 1 180) 2 120), (A 196, ov0 (104, 11)), (F 0, fiV sa (F 1) (F 2) (F 3) (F 4)), (F 1, ov0 (138, 32)), (F 2, ov0 (102, 32)), (F 3, ov0 (105, 32)), (F 4, ov0 (106, 32)), (F 5, fiV sa (F 6) (F 7) (F 8) (F 9)), (F 6, ov0 (138, 32)), (F 7, ov0 (102, 32)), (F 8, ov0 (105, 32)), (F 9, ov0 (106, 32))] ∨ g ∈ rwF (A 189) 100 4 yd 8 ∨ g ∈ rwF (A 191) 128 4 yo 8 ∨ g ∈ L) → F 0 ≠ F 5 → F 1 ≠ F 6 → F 2 ≠ F 7 → F 3 ≠ F 8 → F 4 ≠ F 9 → kc ≤ kc' + 40 → ks ≤ ks' + 420 → f s' kc' ks') : C_Rr_init sa q (some x) p2 p3 s kc ks f := by
  have o21 : (1 : Nat) ≤ 21 ∧ (21 : Nat) < 100 ∧ cKn 21 = 6 := by decide
  have o143 : 130 ≤ 143 ∧ 143 < 146 ∧ cAk 143 < 99 ∧ cAk 143 = 6 := by decide
  have o123 : 100 ≤ 123 ∧ 123 < 130 ∧ cAT 123 = .int := by decide
  have o26 : (1 : Nat) ≤ 26 ∧ (26 : Nat) < 100 ∧ cKn 26 = 9 := by decide
  unfold C_Rr_init
  refine hq_pZ (L1 := []) h (fun s1 h => ?_)
  refine hq_nwQ (n := 4) (u := 139) h (by decide) (by omega) (by omega) fun q2 s2 h => ?_
  refine hq_pP (L1 := [_]) h (fun s3 h => ?_) o26
  refine hq_pI (L1 := [_]) h (fun s4 h => ?_) o26
  have h := hp_mv (L1 := [_]) h
  refine hq_nwO (u := 27) h (by omega) (by omega) fun q5 s5 h => ?_
  refine ⟨hp_o (L1 := []) h (by decide), ?_⟩
  refine hq_Ta (u := 135) h (by decide) (by decide) (by omega) (by omega) fun w5 s6 h => ?_
  refine hq_pP (L1 := [_, _]) h (fun s7 h => ?_) o26
  have h := hp_mv (L1 := [_, _]) h
  refine hq_nwO (u := 28) h (by omega) (by omega) fun q8 s8 h => ?_
  refine ⟨hp_o (L1 := []) h (by decide), ?_⟩
  refine hq_Ta (u := 145) h (by decide) (by decide) (by omega) (by omega) fun w8 s9 h => ?_
  refine hq_pP (L1 := [_, _]) h (fun s10 h => ?_) o26
  have h := hp_mv (L1 := [_, _]) h
  refine hq_nwQ (n := 2) (u := 143) h (by decide) (by omega) (by omega) fun q11 s11 h => ?_
  refine hq_pP (L1 := [_]) h (fun s12 h => ?_) o26
  have h := hp_mv (L1 := [_]) h
  refine hq_nwM (u := 140) (v := 100) h (by decide) (by decide) (by omega) (by omega) fun q13 yd s13 h => ?_
  have h := hp_mv (L1 := _ :: rwF q13 100 4 yd 8) h
  have h := hp_mv (L1 := _ :: _ :: rwF q13 100 4 yd 8) h
  have h := hp_mv (L1 := [_]) h
  refine hq_pP (L1 := []) h (fun s14 h => ?_) o26
  refine hq_pI (L1 := []) h (fun s15 h => ?_) o26
  refine hq_nwM (u := 141) (v := 128) h (by decide) (by decide) (by omega) (by omega) fun q16 yo s16 h => ?_
  have h := hp_mv (L1 := _ :: rwF q16 128 4 yo 8) h
  have h := hp_mv (L1 := _ :: _ :: rwF q16 128 4 yo 8) h
  have h := hp_mv (L1 := [_]) h
  refine hq_pP (L1 := []) h (fun s17 h => ?_) o26
  refine hq_pI (L1 := []) h (fun s18 h => ?_) o26
  refine hq_nwA (n := 2) (u := 121) h (by decide) (by omega) (by omega) fun q19 s19 h => ?_
  refine hq_wE (L1 := []) (i := 0) (n := 2) h (by decide) (by decide) rfl (fun s20 h => ?_) (by decide)
  refine hq_wE (L1 := []) (i := 1) (n := 2) h (by decide) (by decide) rfl (fun s21 h => ?_) (by decide)
  refine hq_pP (L1 := [_]) h (fun s22 h => ?_) o26
  refine hq_nwA (n := 2) (u := 122) h (by decide) (by omega) (by omega) fun q23 s23 h => ?_
  refine hq_wE (L1 := []) (i := 0) (n := 2) h (by decide) (by decide) rfl (fun s24 h => ?_) (by decide)
  refine hq_wE (L1 := []) (i := 1) (n := 2) h (by decide) (by decide) rfl (fun s25 h => ?_) (by decide)
  refine hq_pP (L1 := [_, _]) h (fun s26 h => ?_) o26
  refine hq_nwA (n := 3) (u := 123) h (by decide) (by omega) (by omega) fun q27 s27 h => ?_
  refine hq_wE (L1 := []) (i := 0) (n := 3) h (by decide) (by decide) rfl (fun s28 h => ?_) (by decide)
  refine hq_wE (L1 := []) (i := 1) (n := 3) h (by decide) (by decide) rfl (fun s29 h => ?_) (by decide)
  refine hq_wE (L1 := []) (i := 2) (n := 3) h (by decide) (by decide) rfl (fun s30 h => ?_) (by decide)
  refine hq_pP (L1 := [_, _, _]) h (fun s31 h => ?_) o26
  refine hq_nwA (n := 11) (u := 104) h (by decide) (by omega) (by omega) fun q32 s32 h => ?_
  have h := hp_mv (L1 := [_, _, _, _]) h
  refine hq_pP (L1 := []) h (fun s33 h => ?_) o26
  refine hq_pI (L1 := []) h (fun s34 h => ?_) o26
  refine hq_pI (L1 := []) h (fun s35 h => ?_) o26
  refine hq_pP (L1 := []) h (fun s36 h => ?_) o26
  refine hq_pP (L1 := []) h (fun s37 h => ?_) o26
  refine hq_pI (L1 := []) h (fun s38 h => ?_) o26
  refine hq_gP (L1 := []) h ?_ o26
  refine hq_nwO (u := 21) h (by omega) (by omega) fun f0 s40 h => ?_
  refine ⟨hp_o (L1 := []) h (by decide), ?_⟩
  refine hq_Pl (n := 32) h (by decide) (by decide) (by decide) (by omega) (by omega) fun f1 f2 f3 f4 s41 h => ?_
  refine ⟨q11, rfl, ?_⟩
  refine hq_wQ (L1 := [_, _, _, _, _, _, _, _, _, _]) (i := 0) (n := 2) h (hp_o (L1 := [_, _, _, _]) h o21) (by decide) (by decide) rfl (fun s43 h => ?_) (by decide)
  refine hq_gP (L1 := [_, _, _, _, _]) h ?_ o26
  refine hq_nwO (u := 21) h (by omega) (by omega) fun f5 s45 h => ?_
  refine ⟨hp_o (L1 := []) h (by decide), ?_⟩
  refine hq_Pl (n := 32) h (by decide) (by decide) (by decide) (by omega) (by omega) fun f6 f7 f8 f9 s46 h => ?_
  refine ⟨q11, rfl, ?_⟩
  refine hq_wQ (L1 := [_, _, _, _, _, _, _, _, _, _, _, _, _, _, _]) (i := 1) (n := 2) h (hp_o (L1 := [_, _, _, _]) h o21) (by decide) (by decide) rfl (fun s48 h => ?_) o143
  have hox := hp_old h hx.n0
  refine ⟨x, rfl, _, gd_to (show okO s48 11 x by unfold okO at hx ⊢; rw [ov_K hox]; exact hx), ?_⟩
  refine hq_gP (L1 := [_, _, _, _, _, _, _, _, _, _]) h ?_ o26
  refine ⟨q27, rfl, hq_rE (i := 0) (n := 3) (hp_at (L1 := [_, _, _, _, _, _, _, _, _, _, _, _]) h).1 (by decide) (by decide) rfl ?_ o123⟩
  have e225 : s48.I (20 * 11 + 5) x = s0.I 225 x := ov_I hox 225
  rw [e225]
  refine hq_pI (L1 := [_, _, _, _, _, _, _, _, _, _]) h (fun s54 h => ?_) o26
  obtain ⟨A, rfl, rfl, rfl, rfl, rfl, rfl, rfl, rfl, rfl, rfl, rfl, rfl, -⟩ : ∃ A : Nat → Nat, A 0 = w5 ∧ A 1 = w8 ∧ A 184 = q2 ∧ A 186 = q5 ∧ A 187 = q8 ∧ A 188 = q11 ∧ A 189 = q13 ∧ A 191 = q16 ∧ A 193 = q19 ∧ A 194 = q23 ∧ A 195 = q27 ∧ A 196 = q32 ∧ True := ⟨fun g => if g = 0 then w5 else if g = 1 then w8 else if g = 184 then q2 else if g = 186 then q5 else if g = 187 then q8 else if g = 188 then q11 else if g = 189 then q13 else if g = 191 then q16 else if g = 193 then q19 else if g = 194 then q23 else if g = 195 then q27 else q32, rfl, rfl, rfl, rfl, rfl, rfl, rfl, rfl, rfl, rfl, rfl, rfl, trivial⟩
  obtain ⟨F, rfl, rfl, rfl, rfl, rfl, rfl, rfl, rfl, rfl, rfl⟩ : ∃ F : Nat → Nat, F 0 = f0 ∧ F 1 = f1 ∧ F 2 = f2 ∧ F 3 = f3 ∧ F 4 = f4 ∧ F 5 = f5 ∧ F 6 = f6 ∧ F 7 = f7 ∧ F 8 = f8 ∧ F 9 = f9 := ⟨fun g => if g = 0 then f0 else if g = 1 then f1 else if g = 2 then f2 else if g = 3 then f3 else if g = 4 then f4 else if g = 5 then f5 else if g = 6 then f6 else if g = 7 then f7 else if g = 8 then f8 else f9, rfl, rfl, rfl, rfl, rfl, rfl, rfl, rfl, rfl, rfl⟩
  have h : HP sa s0 ((F 9, ov0 (106, 32)) :: (F 8, ov0 (105, 32)) :: (F 7, ov0 (102, 32)) :: (F 6, ov0 (138, 32)) :: (F 5, fiV sa (F 6) (F 7) (F 8) (F 9)) :: (F 4, ov0 (106, 32)) :: (F 3, ov0 (105, 32)) :: (F 2, ov0 (102, 32)) :: (F 1, ov0 (138, 32)) :: (F 0, fiV sa (F 1) (F 2) (F 3) (F 4)) :: (q, rrV A (some x) p2 p3 (s0.I 225 x + 30)) :: (A 196, ov0 (104, 11)) :: (A 195, ovE (ovE (ovE (ov0 (123, 3)) 0 30) 1 180) 2 120) :: (A 194, ovE (ovE (ov0 (122, 2)) 0 (-1)) 1 (-1)) :: (A 193, ovE (ovE (ov0 (121, 2)) 0 0) 1 0) :: (A 188, ovQ (ovQ (ov0 (143, 2)) 0 (some (F 0))) 1 (some (F 5))) :: (A 191, ovM 141 (A 191) 8) :: (rwF (A 191) 128 4 yo 8 ++ ((A 189, ovM 140 (A 189) 8) :: (rwF (A 189) 100 4 yd 8 ++ ((A 1, ov0 (145, 16)) :: (A 187, tbV 28 (A 1)) :: (A 0, ov0 (135, 16)) :: (A 186, tbV 27 (A 0)) :: (A 184, ov0 (139, 4)) :: L))))) s54 := h
  rw [htm] at h
  have d := h.2.2
  refine kk A F yd yo _ s54 _ _ h (fun g => ?_) (d.2.2.2.2.1 (F 0, fiV sa (F 1) (F 2) (F 3) (F 4)) (by simp)) (d.2.2.2.1 (F 1, ov0 (138, 32)) (by simp)) (d.2.2.1 (F 2, ov0 (102, 32)) (by simp)) (d.2.1 (F 3, ov0 (105, 32)) (by simp)) (d.1 (F 4, ov0 (106, 32)) (by simp)) (by omega) (by omega)
  simp only [List.mem_append, List.mem_cons, List.not_mem_nil, or_false]
  exact iff_of_eq (by ac_rfl)
end Nr
