/-! The start: class and model side by side. -/
section Su
variable {L : List Nat} {a b g i j : Nat} {sa : Nat → Nat}
theorem st_bl (hL : L.length = 21) (hn : L.Nodup) {w cap : Nat} (h : i = 1 ∨ i = 3 ∨ i = 5 ∨ i = 13) (hw : stX (i + 1) = (w, cap)) (h2 : 100 ≤ w ∧ w < 130 ∧ cAT w = .byte) (h3 : 16 ≤ cap ∧ cap ≤ 262144) : BL (stS L) (stq L i) w [] cap := by
  have hi : i < 21 := by omega
  have hi1 : i + 1 < 21 := by omega
  have hr : 1 ≤ (stX i).1 ∧ (stX i).1 < 100 ∧ cKn (stX i).1 = 0 := by
    rcases h with rfl | rfl | rfl | rfl <;> decide
  refine ⟨?_, h2, stq L (i + 1), st_p0 hL hn h, ?_, rfl, Nat.zero_le _, h3.1, h3.2, fun k hk => absurd hk (Nat.not_lt_zero k)⟩
  · unfold okO
    rw [stK_q hL hn hi]
    exact hr
  · rw [stK_q hL hn hi1]
    exact hw
theorem st_gl (hL : L.length = 21) (hn : L.Nodup) (hT : ∀ k, k < kTx.length → sa k ∉ L) : RGl (stG L) (stH L) sa (stq L 0) (stS L) := by
  have no8 : ∀ {a : Nat}, ((stS L).K a).1 = 8 → False := fun h => by
    obtain ⟨i, hi, -, e⟩ := st_u hL hn (by decide) h
    exact absurd e ((by decide : ∀ i, i < 21 → (stX i).1 ≠ 8) i hi)
  have no1 : ∀ {a : Nat}, okO (stS L) 1 a → False := fun h => by
    obtain ⟨i, hi, -, e⟩ := st_o hL hn h
    exact (by decide : ∀ i, i < 21 → ¬ (1 ≤ (stX i).1 ∧ (stX i).1 < 100 ∧ cKn (stX i).1 = 1)) i hi e
  have k10 : ∀ {a : Nat}, okO (stS L) 10 a → a = stq L 17 := fun h => by
    obtain ⟨i, hi, ea, e⟩ := st_o hL hn h
    rw [ea, (by decide : ∀ i, i < 21 → (1 ≤ (stX i).1 ∧ (stX i).1 < 100 ∧ cKn (stX i).1 = 10) → i = 17) i hi e]
  refine ⟨by rw [stK_q hL hn (by decide)]; rfl, st_ty hL hn, fun k hk => by rw [stK_n (hT k hk)], fun a h => ?_, ⟨0, ?_⟩, Or.inl rfl, fun a b d h => (no8 h).elim, fun a b d h => (no8 h).elim, fun a b d h h' _ _ => by rw [k10 h, k10 h'], fun a d h => (no1 h).elim, fun a b d h => (no1 h).elim, fun a h => ?_, fun a h => (no1 h).elim, fun a b k k' w h => (no1 h).elim, fun a i h => ?_, fun a h => (no8 h).elim, fun a h => ?_⟩
  · obtain ⟨i, hi, ea, e⟩ := st_u hL hn (by decide) h
    refine ⟨[], ?_⟩
    exact st_bl (i := 13) hL hn (Or.inr (Or.inr (Or.inr rfl))) rfl ⟨by decide, by decide, rfl⟩ ⟨by decide, by decide⟩
  · refine ⟨rfl, Nat.le_refl _, Nat.zero_le _, stq L 18, 16, rfl, ?_, Nat.zero_le _, by decide, by decide, fun j hj => absurd hj (Nat.not_lt_zero j), fun _ _ => rfl, fun i j hi => absurd hi (Nat.not_lt_zero i)⟩
    rw [stK_q hL hn (by decide)]
    rfl
  · obtain ⟨i, hi, ea, e⟩ := st_o hL hn h
    have f := st_four i hi e
    refine ⟨stq L (i + 1), by rw [ea]; exact st_p0 hL hn f, ?_⟩
    rw [stK_q hL hn (by omega)]
    rcases f with rfl | rfl | rfl | rfl <;> decide
  · obtain ⟨k, hk, -, e⟩ := st_u hL hn (by decide) h
    exact absurd e ((by decide : ∀ i, i < 21 → (stX i).1 ≠ 103) k hk)
  · rw [k10 h]
    refine ⟨stq L 18, rfl, ?_⟩
    rw [stK_q hL hn (by decide)]
    decide
theorem st_rr (hL : L.length = 21) (hn : L.Nodup) (hT : ∀ k, k < kTx.length → sa k ∉ L) : RR (stG L) (stH L) sa (stq L 0) (stS L) moS0 := by
  have z : ∀ {p : Prop} {k : Nat}, k < 0 → p := fun h => absurd h (Nat.not_lt_zero _)
  refine ⟨st_gl hL hn hT, ⟨fun i j h => z h, fun i j h => z h, fun r r' p p' h => z h, fun i j h => z h, fun r r' j j' h => z h, fun i j h => z h, fun r r' j j' h => z h, fun r p k r' p' k' h => z h, fun i j h => z h, fun i j h => z h, fun r j h => z h⟩, ⟨rfl, rfl, rfl, rfl, rfl⟩, ⟨⟨64, by decide, ?_⟩, stq L 3, stq L 5, 64, 64, rfl, rfl, ?_, ?_, ?_, by decide, by decide, ?_, [], ?_⟩, fun i h => z h, fun i h => z h, fun r h => z h, ⟨rfl, rfl, (by decide : 0 + 0 + 1 ≤ 258)⟩, fun i h => z h, fun i h => z h, ⟨rfl, ?_⟩, fun i j h => z h, fun i j h => z h, fun i j h => z h, fun i h => z h, fun i h => z h⟩
  · exact st_bl (i := 1) hL hn (Or.inl rfl) rfl ⟨by decide, by decide, rfl⟩ ⟨by decide, by decide⟩
  · rw [stK_q hL hn (by decide)]; rfl
  · rw [stK_q hL hn (by decide)]; rfl
  · exact fun e => absurd (st_in hL hn (by decide) (by decide) e) (by decide)
  · exact st_bl (i := 3) hL hn (Or.inr (Or.inl rfl)) rfl ⟨by decide, by decide, rfl⟩ ⟨by decide, by decide⟩
  · exact st_bl (i := 5) hL hn (Or.inr (Or.inr (Or.inl rfl))) rfl ⟨by decide, by decide, rfl⟩ ⟨by decide, by decide⟩
  · show ((stS L).K (stq L 12)).1 = 6
    rw [stK_q hL hn (by decide)]; rfl
theorem st_mv : MV moS0 := by
  have z : ∀ {p : Prop} {k : Nat}, k < 0 → p := fun h => absurd h (Nat.not_lt_zero _)
  have rz : ∀ {hi : Nat}, rng 0 0 hi := fun {hi} => ⟨0, rfl, Nat.le_refl _, Nat.zero_le _⟩
  refine ⟨⟨⟨fun _ _ => rfl, by decide +kernel, by decide +kernel, by decide +kernel⟩, rz, rz, rz, Nat.zero_le _, rz, rz, rz⟩, fun i h => z h, fun i h => z h, fun r h => z h, ⟨rz, fun _ _ => Or.inl rfl, fun i h => z h, fun i j h => z h, fun p _ h => absurd (show (0 : Int32) = 1 from h) (by decide), fun i h => z h⟩, fun _ _ _ => ⟨rfl, rfl, rfl⟩, fun _ _ _ => rfl, fun _ _ _ => ⟨⟨rfl, rfl, rfl, rfl, rfl, rfl, rfl⟩, fun _ _ => rfl⟩, fun _ _ _ _ _ => ⟨rfl, ⟨rfl, rfl⟩, rfl, rfl, rfl, rfl, rfl, rfl, rfl⟩, ⟨rz, Nat.zero_le _⟩, fun i h => z h⟩
theorem st_src : SRC [] moS0 := by
  have z : ∀ {p : Prop} {k : Nat}, k < 0 → p := fun h => absurd h (Nat.not_lt_zero _)
  have l0 : lh0 0 := ⟨0, by decide, rfl⟩
  refine ⟨⟨by decide +kernel, by decide +kernel, by decide +kernel, by decide +kernel⟩, fun e h => (nomatch h), fun q _ => ⟨l0, fun _ => rfl⟩, fun r _ => ⟨⟨0, rfl, Nat.le_refl _, Nat.zero_le _⟩, fun _ _ _ => rfl⟩, fun p _ => Or.inl rfl, fun k h => z h, fun k k' h => z h⟩
theorem st_vr (hL : L.length = 21) (hn : L.Nodup) (hT : ∀ k, k < kTx.length → sa k ∉ L) : vR sa (stq L 0) (stS L) moS0 (stG L) (stH L) (fun _ => []) [] := by
  have z : ∀ {p : Prop} {k : Nat}, k < 0 → p := fun h => absurd h (Nat.not_lt_zero _)
  exact ⟨st_rr hL hn hT, st_mv, fun _ => ⟨⟨0, rfl, Nat.le_refl _, Nat.zero_le _⟩, ⟨0, rfl, Nat.le_refl _, Nat.zero_le _⟩⟩, fun r h => z h, fun r h => z h, st_src, fun rd e => by
    have e' : (none : Option Nat) = some rd := e
    cases e'⟩
theorem sm_b {f : Nat → Nat} {c : Nat} (h : ∀ i, f i ≤ c) : ∀ n, sm f n ≤ n * c
  | 0 => Nat.zero_le _
  | n + 1 => by
    have h1 := sm_b h n
    have h2 := h n
    show sm f n + f n ≤ (n + 1) * c
    rw [Nat.add_mul]
    omega
/-- never more than so is to be made -/
theorem rc_top {s : cS} {G H : Nat → Nat → Nat} {x : Nat} {t : moS} : RcC s G H t ≤ 126074 ∧ RcS s G H x t ≤ 875260 := by
  have a := sm_b (f := fA G t) (c := 13660) (fun i => by unfold fA; split; exact pA_f; exact Nat.le_refl _) 6
  have b := sm_b (f := fB s G H t) (c := 76496) (fun i => by unfold fB; split; exact pB_f; exact Nat.le_refl _) 6
  have c := sm_b (f := fL s G H t) (c := 1200) (fun i => by unfold fL; split; exact plC_f; exact Nat.le_refl _) 10
  have d := sm_b (f := fW s G H t) (c := 1) (fun i => by unfold fW; split; exact wkC_f; exact Nat.le_refl _) 24
  have e := sm_b (f := fS s G t) (c := 700) (fun i => by unfold fS; split; exact soC_f; exact Nat.le_refl _) 24
  have f := sm_b (f := fT s G t) (c := 5600) (fun i => by unfold fT; split; exact soS_f; exact Nat.le_refl _) 24
  have g : dN G t ≤ 258 := by unfold dN; omega
  have h : tdC G ≤ 14000 := by unfold tdC; omega
  have k : tdS s G H x ≤ 78400 := by unfold tdS; omega
  unfold RcC RcS PoC PoS
  generalize sm (fA G t) 6 = v1 at a ⊢
  generalize sm (fB s G H t) 6 = v2 at b ⊢
  generalize sm (fL s G H t) 10 = v3 at c ⊢
  generalize sm (fW s G H t) 24 = v4 at d ⊢
  generalize sm (fS s G t) 24 = v5 at e ⊢
  generalize sm (fT s G t) 24 = v6 at f ⊢
  generalize dN G t = v7 at g ⊢
  generalize tdC G = v8 at h ⊢
  generalize tdS s G H x = v9 at k ⊢
  omega
theorem ar_t9 {R d k N c : Nat} (hR : R ≤ 126074) (hd : d ≤ 19) (hk : 600000 ≤ k) : 4096 * (R + d + 320 * 512 + 16 * 0) + 139027744 ≤ 4096 * k + N + 256 * c := by omega
theorem ar_ta {R d k N c : Nat} (hR : R ≤ 875260) (hd : d ≤ 292) (hk : 6400000 ≤ k) : R + d + 6000 * 512 + 300 * 0 + 2404960 ≤ k + N + 2 * c := by omega
/-- the invariant at the start -/
theorem st_iv {kc ks : Nat} (hL : L.length = 21) (hn : L.Nodup) (hT : ∀ k, k < kTx.length → sa k ∉ L) (h1 : 600000 ≤ kc) (h2 : 6400000 ≤ ks) : IVn sa (stq L 0) 512 (stS L) moS0 kc ks := by
  refine ⟨stG L, stH L, fun _ => [], [], st_vr hL hn hT, ⟨fun _ => (by decide : 14 * 0 + 0 + 20 * 512 ≤ 10640), by decide, fun j _ => ⟨0, rfl, ?_⟩⟩, ?_, ?_⟩
  · have e1 : rqN moS0 = 0 := rfl
    have e2 : tmN moS0 = 0 := rfl
    rw [e1, e2]
    decide
  · have := ar_t9 (R := RcC (stS L) (stG L) (stH L) moS0) (d := rdC (stS L) (stq L 0)) (k := kc) (N := moS0.N 7 + moS0.N 5 + 192 * moS0.N 102) (c := cpA (stS L) (stH L) (stq L 0)) (rc_top (x := 0)).1 (by unfold rdC; split <;> omega) h1
    show _ ≤ _ + (moS0.N 7 + moS0.N 5) + 192 * moS0.N 102 + _
    rw [Nat.add_assoc (4096 * kc), show btL moS0 = 0 from rfl]
    exact this
  · have := ar_ta (R := RcS (stS L) (stG L) (stH L) (stq L 0) moS0) (d := rdS (stS L) (stq L 0)) (k := ks) (N := 2 * (moS0.N 7 + moS0.N 5) + 6 * moS0.N 102) (c := cpA (stS L) (stH L) (stq L 0)) rc_top.2 (by unfold rdS; split <;> omega) h2
    rw [Nat.add_assoc ks, show btL moS0 = 0 from rfl]
    exact this
end Su
