/-! Prefixes among the words: both sides. -/
section Tk
variable {H : Nat → Nat → Nat} {sa : Nat → Nat} {rd x kc ks : Nat} {s : cS} {l : List Int32} {ws : List (Nat × Nat)} {Q : Int32 → cS → Nat → Nat → Prop}
theorem w_takeP (h : RdC H x rd s l ws) (h146 : s.P 146 rd = some (H 146 rd)) (hy : okO s 5 (H 146 rd)) (hy1 : H 146 rd ≠ H 220 x) (hy2 : H 146 rd ≠ rd) {i : Nat} {p2 : Int32} (hi : i < 2 ^ 31) (k0 : (i < ws.length → i < 24 → ∀ a1 a2 a3 n, pxP (vc l) (ws.getD i (0, 0)).1 (ws.getD i (0, 0)).2 = some (a1, a2, a3, n) → p2 = 0 ∧ ¬ mpre a2 a3 (nI n)) → ∀ s1, fp (H 146 rd) s s1 → Q 0 s1 kc ks) (k1 : i < ws.length → i < 24 → ∀ a1 a2 a3 n, pxP (vc l) (ws.getD i (0, 0)).1 (ws.getD i (0, 0)).2 = some (a1, a2, a3, n) → (p2 = 0 → mpre a2 a3 (nI n)) → ∀ s1, fp (H 146 rd) s s1 → PF s1 (H 146 rd) a1 a2 a3 (nI n) → Q 1 s1 kc ks) : C_Re_takePrefix sa rd (nI i) p2 s kc ks Q := by
  unfold C_Re_takePrefix
  refine ⟨h.2.1.1, w_isWord h hi (fun c1 c2 => ?_) (fun c => ifT rfl (k0 (fun z1 z2 => absurd ⟨z1, z2⟩ c) s fp.rf))⟩
  obtain ⟨⟨cap, hb⟩, ⟨o1, o2⟩, ⟨p1, p2'⟩, -, -, -, hv, -⟩ := id h
  have hs := hb.sm
  obtain ⟨v1, v2⟩ := hv i c1
  have k0 : (∀ a1 a2 a3 n, pxP (vc l) (ws.getD i (0, 0)).1 (ws.getD i (0, 0)).2 = some (a1, a2, a3, n) → p2 = 0 ∧ ¬ mpre a2 a3 (nI n)) → ∀ s1, fp (H 146 rd) s s1 → Q 0 s1 kc ks := fun z => k0 (fun _ _ => z)
  have k1 := k1 c1 c2
  refine ifF (by decide) (w_ba h c1 c2 ?_)
  generalize hA : (ws.getD i (0, 0)).1 = a at v1 k0 k1
  generalize hB : (ws.getD i (0, 0)).2 = b at v1 v2 k0 k1
  have hcl := fnd_le (vc l) 47 (b - a) a
  unfold pxP at k0 k1
  generalize hc : fnd (vc l) 47 (b - a) a = c at hcl k0 k1
  have b49 : C_Re_takePrefix_b49 sa rd (nI i) p2 (nI c) s kc ks Q := by
    unfold C_Re_takePrefix_b49
    refine ⟨_, gd_to o1, _, gd_to o1, _, p1, _, gd_to o2, w_ba h c1 c2 ⟨_, h146, hy, ?_⟩⟩
    rw [show s.P (20 * 11 + 0) x = some (H 220 x) from p2', hA]
    refine w_addr hb hy (fun e => hy1 e.symm) (by omega) (by omega) (fun ha s1 f1 => ifT rfl (k0 (fun a1 a2 a3 n hp => ?_) s1 f1)) (fun a1 a2 a3 ha s1 f1 hp => ?_)
    · rw [ha] at hp
      split at hp <;> cases hp
    · have h' := RdC.fp h f1 hy1 hy2
      obtain ⟨⟨cap', hb'⟩, ⟨o1', o2'⟩, ⟨q1, q2⟩, -⟩ := id h'
      have h146' : s1.P (20 * 7 + 6) rd = some (H 146 rd) := by rw [f1.2.1]; exact h146
      refine ifF (by decide) ⟨_, gd_to o1', _, gd_to o1', _, q1, _, gd_to o2', w_bb h' c1 c2 ⟨_, h146', f1.o hy, ?_⟩⟩
      rw [show s1.P (20 * 11 + 0) x = some (H 220 x) from q2, hB, nI_1]
      refine w_len hb' (f1.o hy) hp (by omega) (by omega) (by omega) (fun hl => ifT rfl (k0 (fun b1 b2 b3 n hq => ?_) s1 f1)) (fun n hl s2 f2 hp2 => ?_)
      · rw [ha] at hq
        have hq : (if c = b then none else match plM (vc l) (c + 1) b (if a1 = 4 then 32 else 128) with
          | none => none
          | some n => some (a1, a2, a3, n)) = some (b1, b2, b3, n) := hq
        rw [hl] at hq
        split at hq <;> cases hq
      · have hcb : ¬ c = b := fun e => by rw [plM_no (by omega)] at hl; cases hl
        have hpx : (if c = b then none else match adP (vc l) a c with
          | none => none
          | some (a1, a2, a3) => match plM (vc l) (c + 1) b (if a1 = 4 then 32 else 128) with
            | none => none
            | some n => some (a1, a2, a3, n)) = some (a1, a2, a3, n) := by
          rw [if_neg hcb, ha]
          show (match plM (vc l) (c + 1) b (if a1 = 4 then 32 else 128) with
            | none => none
            | some n => some (a1, a2, a3, n)) = some (a1, a2, a3, n)
          rw [hl]
        have f12 := f1.tr f2
        refine ifF (by decide) ?_
        by_cases cp : p2 = 0
        · have h146'' : s2.P (20 * 7 + 6) rd = some (H 146 rd) := by rw [f12.2.1]; exact h146
          refine ifT cp ⟨_, gd_to (f12.o o1), _, h146'', f12.o hy, w_behind (f12.o hy) (fun hm => ?_) (fun hm => ?_)⟩
          · rw [hp2.2.1, hp2.2.2.1, hp2.2.2.2] at hm
            exact ifT rfl (k1 a1 a2 a3 n hpx (fun _ => hm) s2 f12 hp2)
          · rw [hp2.2.1, hp2.2.2.1, hp2.2.2.2] at hm
            refine ifF (by decide) (k0 (fun b1 b2 b3 n' hq => ?_) s2 f12)
            have hq2 : some (a1, a2, a3, n) = some (b1, b2, b3, n') := hpx.symm.trans hq
            cases hq2
            exact ⟨cp, hm⟩
        · exact ifF cp (k1 a1 a2 a3 n hpx (fun e => absurd e cp) s2 f12 hp2)
  unfold C_Re_takePrefix_b17
  intro P hP
  have loop : ∀ q j, j + q = b → a ≤ j → fnd (vc l) 47 q j = c → P (nI j) s kc ks := by
    intro q
    induction q with
    | zero =>
      intro j hj haj hf
      have hf : j = c := hf
      apply hP
      unfold C_Re_takePrefix_s17
      refine w_bb h c1 c2 ?_
      rw [hB]
      refine ifF (nI_nlt (by omega) (by omega)) ?_
      rw [hf]; exact b49
    | succ q ih =>
      intro j hj haj hf
      have hf : (if vc l j = 47 then j else fnd (vc l) 47 q (j + 1)) = c := hf
      have hvl := vc_lt l j
      apply hP
      unfold C_Re_takePrefix_s17
      refine w_bb h c1 c2 ?_
      rw [hB]
      refine ifT (nI_lt (by omega) (by omega)) ⟨_, gd_to o1, _, p1, _, gd_to o2, _, p2', hb.1, w_at hb (by omega) ?_⟩
      by_cases c47 : vc l j = 47
      · rw [if_pos c47] at hf
        refine ifT (by rw [c47]; rfl) ?_
        rw [hf]; exact b49
      · rw [if_neg c47] at hf
        refine ifF (fun z => c47 ((nI_eq (b := 47) (by omega) (by omega)).mp z)) ?_
        rw [nI_1]
        exact ih (j + 1) (by omega) (by omega) hf
  exact loop (b - a) a (by omega) (Nat.le_refl _) hc
end Tk
