/-! Addresses, read: the class's end, and what the model's needs. -/
/-- the address from f to t: its family, its bits -/
def adP (u : Nat → Nat) (f t : Nat) : Option (Int32 × Int64 × Int64) := if fnd u 58 (t - f) f < t then (match sixQ u f t with
    | some gs => some (6, Int64.ofNat (nv gs / 2 ^ 64), Int64.ofNat (nv gs % 2 ^ 64))
    | none => none)
  else match four u t 4 f 0 with
    | some v => some (4, v <<< ((32 : Int32).toInt64 &&& 63), 0)
    | none => none
section Ad
variable {sa : Nat → Nat} {b w cap kc ks f t x : Nat} {s : cS} {l : List Int32} {Q : Int32 → cS → Nat → Nat → Prop}
theorem w_addr (hb : BL s b w l cap) (hx : okO s 5 x) (hbx : b ≠ x) (ht : t ≤ l.length) (hf : f ≤ t) (k0 : adP (vc l) f t = none → ∀ s', fp x s s' → Q 0 s' kc ks) (k1 : ∀ a1 a2 a3, adP (vc l) f t = some (a1, a2, a3) → ∀ s', fp x s s' → PF s' x a1 a2 a3 (if a1 = 4 then 32 else 128) → Q 1 s' kc ks) : C_Pr_parseAddress sa x (some b) (nI f) (nI t) s kc ks Q := by
  have hs := hb.sm
  unfold C_Pr_parseAddress C_Pr_parseAddress_b3
  intro P hP
  have inner : ∀ (q e : Nat), e + q = t → f ≤ e → fnd (vc l) 58 q e = fnd (vc l) 58 (t - f) f → P (nI e) s kc ks := by
    intro q
    induction q with
    | zero =>
      intro e he hfe hE
      have hE : e = fnd (vc l) 58 (t - f) f := hE
      apply hP
      unfold C_Pr_parseAddress_s3
      refine ifF (nI_nlt (by omega) (by omega)) ⟨hx, w_four hb hx ht (by omega) (fun h => ⟨Or.inl rfl, k0 ?_ s fp.rf⟩) (fun v h s' f' hp => ⟨Or.inr rfl, k1 4 (v <<< ((32 : Int32).toInt64 &&& 63)) 0 ?_ s' f' ?_⟩)⟩
      · unfold adP; rw [if_neg (by omega), h]
      · unfold adP; rw [if_neg (by omega), h]
      · rw [if_pos rfl]; exact hp
    | succ q ih =>
      intro e he hfe hE
      have hE' : (if vc l e = 58 then e else fnd (vc l) 58 q (e + 1)) = fnd (vc l) 58 (t - f) f := hE
      have hvl := vc_lt l e
      apply hP
      unfold C_Pr_parseAddress_s3
      refine ifT (nI_lt (by omega) (by omega)) ⟨_, rfl, hb.1, w_at hb (by omega) ?_⟩
      by_cases c : vc l e = 58
      · rw [if_pos c] at hE'
        refine ifT (by rw [c]; rfl) ⟨hx, w_six hb hx hbx ht (by omega) (fun h s' f' => ⟨Or.inl rfl, k0 ?_ s' f'⟩) (fun gs h s' f' hv => ⟨Or.inr rfl, k1 6 (Int64.ofNat (nv gs / 2 ^ 64)) (Int64.ofNat (nv gs % 2 ^ 64)) ?_ s' f' ?_⟩)⟩
        · unfold adP; rw [if_pos (by omega), h]
        · unfold adP; rw [if_pos (by omega), h]
        · rw [if_neg (by decide)]
          obtain ⟨v0, v1, v2, v3, v4⟩ := hv
          exact ⟨v3, v1, v2, v4⟩
      · rw [if_neg c] at hE'
        refine ifF (fun h => c ((nI_eq (b := 58) (by omega) (by omega)).mp h)) ?_
        rw [nI_1]
        exact ih (e + 1) (by omega) (by omega) hE'
  exact inner (t - f) f (by omega) (Nat.le_refl _) rfl
end Ad
theorem fnd_ne (u : Nat → Nat) (c : Nat) : ∀ k i p, i ≤ p → p < fnd u c k i → u p ≠ c
  | 0, i, p, h1, h2 => by
    have h2 : p < i := h2
    omega
  | k + 1, i, p, h1, h2 => by
    have h2 : p < (if u i = c then i else fnd u c k (i + 1)) := h2
    by_cases e : u i = c
    · rw [if_pos e] at h2; omega
    · rw [if_neg e] at h2
      by_cases ep : p = i
      · rw [ep]; exact e
      · exact fnd_ne u c k (i + 1) p (by omega) h2
theorem fnd_eq (u : Nat → Nat) (c : Nat) : ∀ k i, fnd u c k i < i + k → u (fnd u c k i) = c
  | 0, i, h => by
    have h : i < i + 0 := h
    omega
  | k + 1, i, h => by
    show u (if u i = c then i else fnd u c k (i + 1)) = c
    have h : (if u i = c then i else fnd u c k (i + 1)) < i + (k + 1) := h
    by_cases e : u i = c
    · rw [if_pos e]; exact e
    · rw [if_neg e] at h ⊢
      exact fnd_eq u c k (i + 1) (by omega)
theorem hxs_sn (u : Nat → Nat) : ∀ c i a0, hxs u (c + 1) i a0 = (hxs u c i a0).bind fun a => (hx (u (i + c))).bind fun d => some (16 * a + d)
  | 0, i, a0 => by
    show (match hx (u i) with
      | some d => some (16 * a0 + d)
      | none => none) = (hx (u (i + 0))).bind fun d => some (16 * a0 + d)
    rw [Nat.add_zero]
    cases hx (u i) <;> rfl
  | c + 1, i, a0 => by
    show (match hx (u i) with
      | some d => hxs u (c + 1) (i + 1) (16 * a0 + d)
      | none => none) = (match hx (u i) with
      | some d => hxs u c (i + 1) (16 * a0 + d)
      | none => none).bind fun a => (hx (u (i + (c + 1)))).bind fun d => some (16 * a + d)
    cases e : hx (u i) with
    | none => rfl
    | some d =>
      show hxs u (c + 1) (i + 1) (16 * a0 + d) = _
      rw [hxs_sn u c (i + 1), show i + 1 + c = i + (c + 1) by omega]
theorem hxs_no {u : Nat → Nat} {c i a : Nat} (h : hxs u c i 0 = some a) (hn : hx (u (i + c)) = none) : ∀ m, c < m → hxs u m i 0 = none
  | 0, h1 => absurd h1 (by omega)
  | m + 1, h1 => by
    rw [hxs_sn]
    by_cases e : m = c
    · rw [e, h]
      show (hx (u (i + c))).bind _ = none
      rw [hn]; rfl
    · rw [hxs_no h hn m (by omega)]; rfl
