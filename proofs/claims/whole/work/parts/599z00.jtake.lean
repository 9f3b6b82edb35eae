/-! A join's options are taken, in the class. -/
abbrev jT : Type := Int32 × Int32 × Int32 × chV × Int32
/-- one option: cost, split, passive, keys, fault -/
noncomputable def jS (l : List Int32) (ws : List (Nat × Nat)) (z : jT) (e : Nat × Nat) : jT := if e.1 = 1 then (oI (nmR (wN l ws (e.2 + 1)) 1 15), z.2.1, z.2.2.1, z.2.2.2.1, if oI (nmR (wN l ws (e.2 + 1)) 1 15) = -1 then 4 else z.2.2.2.2) else if e.1 = 2 then (z.1, spV (wC l ws (e.2 + 1)), z.2.2) else if e.1 = 6 then (z.1, z.2.1, 1, z.2.2.2) else (z.1, z.2.1, z.2.2.1, (kyO l ws e.1 e.2 z.2.2.2.1).2, if (kyO l ws e.1 e.2 z.2.2.2.1).1 = 4 then (kyO l ws e.1 e.2 z.2.2.2.1).1 else if z.2.2.2.2 = 0 then (kyO l ws e.1 e.2 z.2.2.2.1).1 else z.2.2.2.2)
section Jt
variable {G H : Nat → Nat → Nat} {sa : Nat → Nat} {x rd kc ks : Nat} {s s1 : cS} {t : moS} {l : List Int32} {ws : List (Nat × Nat)} {Q : Int32 → cS → Nat → Nat → Prop} {V : chV} {z : jT}
/-- what the reader has of it -/
def JZ (G H : Nat → Nat → Nat) (sa : Nat → Nat) (x rd : Nat) (s0 s : cS) (t : moS) (l : List Int32) (ws : List (Nat × Nat)) (z : jT) : Prop := LX G H sa x rd s t l ws ∧ CC H s (H 151 rd) z.2.2.2.1 ∧ VV z.2.2.2.1 ∧ (s.I 148 rd = z.1 ∧ s.I 149 rd = z.2.1 ∧ s.I 150 rd = z.2.2.1) ∧ fr Rjo [] [] s0 s ∧ s.K = s0.K ∧ s.P = s0.P
theorem jz_si {s0 : cS} {g : Nat} {v : Int32} (h : JZ G H sa x rd s0 s t l ws z) (hg : g ≠ 143) : LX G H sa x rd (cSI s g rd v) t l ws ∧ CC H (cSI s g rd v) (H 151 rd) z.2.2.2.1 ∧ fr Rjo [] [] s0 (cSI s g rd v) ∧ (cSI s g rd v).K = s0.K ∧ (cSI s g rd v).P = s0.P := by
  obtain ⟨h1, h2, h3, -, h5, h6, h7⟩ := h
  have f : fo rd s (cSI s g rd v) := ⟨rfl, rfl, rfl, rfl, rfl, fun g' a z => by
    rw [evI, if_neg fun y => z ⟨y.2, by rw [y.1]; exact hg⟩]⟩
  obtain ⟨-, c2, -⟩ := h1.c5
  have n5 : H 151 rd ≠ rd := fun z => by
    have := h1.2.2.1.2
    rw [z] at c2
    rw [c2] at this
    exact absurd this (by decide)
  refine ⟨h1.fo f, ?_, h5.tr (f.fr h1.2.2.1.2).wk, h6, h7⟩
  obtain ⟨e1, e2, e3⟩ := h2
  exact ⟨by rw [cSI_o n5]; exact e1, by rw [cSI_o n5]; exact e2, e3⟩
theorem w_takeL {s0 : cS} {P41 : Int32 → Int32 → cS → Nat → Nat → Prop} (hP : ∀ (a2 a3 : Int32) (s : cS) (kc ks : Nat), C_Re_takeJoinOptions_s41 sa rd a2 a3 s kc ks Q P41 → P41 a2 a3 s kc ks) : ∀ u w m P z s, m < 64 → w ≤ 4 + msz m → jP (wC l ws) ws.length u w m = some P → jOk (wC l ws) P → JZ G H sa x rd s0 s t l ws z → (∀ s' z', z' = P.foldl (jS l ws) z → JZ G H sa x rd s0 s' t l ws z' → Q z'.2.2.2.2 s' kc ks) → P41 z.2.2.2.2 (nI w) s kc ks
  | 0, _, _, _, _, _, _, _, h, _, _, _ => by cases h
  | u + 1, w, m, P, z, s, hm, hb, h, ok, hz, k => by
    have hx := hz.1
    have hn := hx.nw
    have m13 := (jsz m hm 1 (by decide) (by decide)).1
    have jk := jP_k (u + 1) w m P hm h
    have wt : s.I (20 * 7 + 3) rd = nI ws.length := hx.wt
    apply hP
    unfold C_Re_takeJoinOptions_s41
    refine ⟨_, gd_to hx.or, ?_⟩
    rw [wt]
    by_cases c : w < ws.length
    rotate_left
    · have ej : jP (wC l ws) ws.length (u + 1) w m = (if w = ws.length then some [] else none) := if_neg c
      rw [ej] at h
      have c2 : w = ws.length := Classical.byContradiction fun y => by rw [if_neg y] at h; cases h
      rw [if_pos c2] at h
      cases h
      exact ifF (nI_nlt (by omega) (by omega)) (k s z rfl hz)
    have ej : jP (wC l ws) ws.length (u + 1) w m = (if kOp (wC l ws w) = 0 then none else if m.testBit (kOp (wC l ws w) - 1) = true then none else (jP (wC l ws) ws.length u (w + szO (kOp (wC l ws w))) (m ||| 2 ^ (kOp (wC l ws w) - 1))).map fun P => (kOp (wC l ws w), w) :: P) := if_pos c
    rw [ej] at h
    refine ifT (nI_lt c (by omega)) ⟨hx.or, w_jOpt hx.rc hx.tk hx.or c (by omega) ?_⟩
    have hl := kOp_le (wC l ws w)
    generalize hk : kOp (wC l ws w) = kk at h hl ⊢
    by_cases c0 : kk = 0
    · rw [if_pos c0] at h; cases h
    rw [if_neg c0] at h
    by_cases c1 : m.testBit (kk - 1) = true
    · rw [if_pos c1] at h; cases h
    rw [if_neg c1] at h
    have c1' : m.testBit (kk - 1) = false := by cases q : m.testBit (kk - 1) with | false => rfl | true => exact absurd q c1
    obtain ⟨-, -, b3, -, -⟩ := jbit m hm kk (by omega) (by omega)
    have z2 := (jsz m hm kk (by omega) (by omega)).2 c1'
    cases e : jP (wC l ws) ws.length u (w + szO kk) (m ||| 2 ^ (kk - 1)) with
    | none => rw [e] at h; cases h
    | some P' =>
      rw [e] at h
      cases h
      have j2 : w + szO kk ≤ ws.length := (jk.2.2 (kk, w) (List.mem_cons_self ..)).2.1
      have sz := szO_b kk
      have ej0 : joO kk = nI kk := if_neg c0
      rw [ej0]
      have go : ∀ s' z', z' = jS l ws z (kk, w) → JZ G H sa x rd s0 s' t l ws z' → C_Re_takeJoinOptions_b154 sa rd z'.2.2.2.2 (nI w) (nI kk) s' kc ks Q P41 := fun s' z' hz' hJ => by
        unfold C_Re_takeJoinOptions_b154
        refine w_osz (by omega) (by omega) ?_
        rw [nI_add]
        refine w_takeL hP u (w + szO kk) _ P' z' s' b3 (by omega) e (fun e' he => ok e' (List.mem_cons_of_mem _ he)) hJ fun s'' z'' ez hJ' => k s'' z'' ?_ hJ'
        rw [ez, hz']
        rfl
      obtain ⟨i1, i2, i3⟩ := hz.2.2.2.1
      have nk : ∀ j, j < 7 → (nI kk = nI j ↔ kk = j) := fun j hj => nI_eq (by omega) (by omega)
      by_cases k1 : kk = 1
      · refine ifT ((nk 1 (by decide)).mpr k1) ⟨hx.or, ?_⟩
        rw [nI_1]
        have hw1 : w + 1 < ws.length := by rw [k1, show szO 1 = 2 from rfl] at j2; omega
        refine w_number (lo := 1) (hi := 15) hx.rc (by omega) (by decide) (by decide) (fun _ _ => ?_) fun y => absurd ⟨hw1, by omega⟩ y
        refine ⟨_, gd_to hx.or, _, gd_to hx.or, ?_⟩
        generalize hv : oI (nmR (nmb (vc l) (ws.getD (w + 1) (0, 0)).1 ((ws.getD (w + 1) (0, 0)).2 - (ws.getD (w + 1) (0, 0)).1)) 1 15) = v
        have hv' : oI (nmR (wN l ws (w + 1)) 1 15) = v := hv
        rw [show (cSI s (20 * 7 + 8) rd v).I (20 * 7 + 8) rd = v from cSI_s]
        obtain ⟨l1, l2, l3, l4, l5⟩ := jz_si (g := 148) (v := v) hz (by decide)
        have ez : jS l ws z (kk, w) = (v, z.2.1, z.2.2.1, z.2.2.2.1, if v = -1 then 4 else z.2.2.2.2) := by
          rw [← hv']; exact if_pos k1
        have hJ : JZ G H sa x rd s0 (cSI s 148 rd v) t l ws (v, z.2.1, z.2.2.1, z.2.2.2.1, if v = -1 then 4 else z.2.2.2.2) := ⟨l1, l2, hz.2.2.1, ⟨cSI_s, by rw [cSI_g (by decide)]; exact i2, by rw [cSI_g (by decide)]; exact i3⟩, l3, l4, l5⟩
        have g := go _ _ ez.symm hJ
        by_cases cv : v = -1
        · refine ifT cv ?_
          rw [if_pos cv] at g
          exact g
        · refine ifF cv ?_
          rw [if_neg cv] at g
          exact g
      refine ifF (fun y => k1 ((nk 1 (by decide)).mp y)) ?_
      by_cases k2 : kk = 2
      · refine ifT ((nk 2 (by decide)).mpr k2) ⟨hx.or, ?_⟩
        rw [nI_1]
        have hw1 : w + 1 < ws.length := by rw [k2, show szO 2 = 2 from rfl] at j2; omega
        refine w_spAt hx.rc hx.tk hx.or hw1 (by omega) ⟨_, gd_to hx.or, ?_⟩
        obtain ⟨l1, l2, l3, l4, l5⟩ := jz_si (g := 149) (v := spV (wC l ws (w + 1))) hz (by decide)
        exact go _ (z.1, spV (wC l ws (w + 1)), z.2.2) ((if_neg k1).trans (if_pos k2)).symm ⟨l1, l2, hz.2.2.1, ⟨by rw [cSI_g (by decide)]; exact i1, cSI_s, by rw [cSI_g (by decide)]; exact i3⟩, l3, l4, l5⟩
      refine ifF (fun y => k2 ((nk 2 (by decide)).mp y)) ?_
      by_cases k6 : kk = 6
      · refine ifT ((nk 6 (by decide)).mpr k6) ⟨_, gd_to ⟨hx.or, Or.inr rfl⟩, ?_⟩
        obtain ⟨l1, l2, l3, l4, l5⟩ := jz_si (g := 150) (v := 1) hz (by decide)
        exact go _ (z.1, z.2.1, 1, z.2.2.2) ((if_neg k1).trans ((if_neg k2).trans (if_pos k6))).symm ⟨l1, l2, hz.2.2.1, ⟨by rw [cSI_g (by decide)]; exact i1, by rw [cSI_g (by decide)]; exact i2, cSI_s⟩, l3, l4, l5⟩
      refine ifF (fun y => k6 ((nk 6 (by decide)).mp y)) ⟨hx.or, w_keyO hx hz.2.2.1 hz.2.1 (by omega) j2 (by omega) fun s' hx' hC' ff hKP hI => ?_⟩
      generalize hq : kyO l ws kk w z.2.2.2.1 = q at hC' ⊢
      have hV' : VV q.2 := by rw [← hq]; exact kyO_v hz.2.2.1 hx (by omega) j2
      have ez : jS l ws z (kk, w) = (z.1, z.2.1, z.2.2.1, q.2, if q.1 = 4 then q.1 else if z.2.2.2.2 = 0 then q.1 else z.2.2.2.2) := by
        rw [← hq]
        exact (if_neg k1).trans ((if_neg k2).trans (if_neg k6))
      have g := go s' _ ez.symm ⟨hx', hC', hV', ⟨by rw [hI]; exact i1, by rw [hI]; exact i2, by rw [hI]; exact i3⟩, hz.2.2.2.2.1.tr ff, hKP.1.trans hz.2.2.2.2.2.1, hKP.2.trans hz.2.2.2.2.2.2⟩
      unfold C_Re_takeJoinOptions_b153
      by_cases q4 : q.1 = 4
      · refine ifT q4 ?_
        rw [if_pos q4] at g
        exact g
      refine ifF q4 ?_
      rw [if_neg q4] at g
      by_cases f0 : z.2.2.2.2 = 0
      · refine ifT f0 ?_
        rw [if_pos f0] at g
        exact g
      · refine ifF f0 ?_
        rw [if_neg f0] at g
        exact g
end Jt
