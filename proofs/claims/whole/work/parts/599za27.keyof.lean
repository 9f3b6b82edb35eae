/-! Which key a datagram bears that came: pure, and the class. -/
def is4 (L : List Int32) (a : Nat) (v0 v1 v2 v3 : Nat) : Prop := vc L a = v0 ∧ vc L (a + 1) = v1 ∧ vc L (a + 2) = v2 ∧ vc L (a + 3) = v3
def enN (sha : Int32) : Nat := if sha = 0 then 20 else 40
def kgK (V : chV) (tm : Int32) (L : List Int32) (i : Nat) (v : kV) : Prop := V.2.2[i]? = some v ∧ v.1 = nI (vc L 10) ∧ kGood tm v
def kgB (L : List Int32) (v : kV) (z : Nat) : Prop := (is4 L 4 255 255 0 3 ∧ nI (vc L 11) = szK v.2.1 ∧ z + enN v.2.1 = L.length ∧ 24 ≤ z ∧ vc L 8 * 256 + vc L 9 = z) ∧ (zrF (fun j => L.getD j 0) 16 24 ∧ is4 L z 255 255 0 1 ∧ zrF (fun j => L.getD j 0) (z + 4 + szN v.2.1) L.length) ∧ ∀ j, j < szN v.2.1 → nI (vc L (z + 4 + j)) = sumP v.2.1 (L.take (z + 4)) (fun i => v.2.2.1.getD i 0) j
theorem vc_b (L : List Int32) (i : Nat) : vc L i < 256 := by unfold vc; omega
theorem L_inj {A B : Nat} (hA : A < 2 ^ 64) (hB : B < 2 ^ 64) (e : Int64.ofNat A = Int64.ofNat B) : A = B := by
  have := congrArg (fun z : Int64 => z.toBitVec.toNat) e
  have this : (Int64.ofNat A).toBitVec.toNat = (Int64.ofNat B).toBitVec.toNat := this
  rw [L_toNat, L_toNat, Nat.mod_eq_of_lt hA, Nat.mod_eq_of_lt hB] at this
  exact this
theorem n4_inj {a b c d a' b' c' d' : Nat} (h : N4 a b c d = N4 a' b' c' d') (h1 : b < 256) (h2 : c < 256) (h3 : d < 256) (k1 : b' < 256) (k2 : c' < 256) (k3 : d' < 256) : a = a' ∧ b = b' ∧ c = c' ∧ d = d' := by
  unfold N4 at h
  omega
section Kf
variable {G H : Nat → Nat → Nat} {sa : Nat → Nat} {x kc ks c b w cap : Nat} {s : cS} {t : moS} {V : chV} {tm num : Int32} {L : List Int32}
theorem nb_vc (hb : BL s b w L cap) {a : Nat} (ha : a + 4 ≤ L.length) : nbF (fun j => L.getD j 0) a 4 0 = Int64.ofNat (N4 (vc L a) (vc L (a + 1)) (vc L (a + 2)) (vc L (a + 3))) := nb_4 (hb.gv (by omega)) (hb.gv (by omega)) (hb.gv (by omega)) (hb.gv (by omega)) (vc_b _ _) (vc_b _ _) (vc_b _ _) (vc_b _ _)
theorem nb_is (hb : BL s b w L cap) {a v0 v1 v2 v3 : Nat} (ha : a + 4 ≤ L.length) (h0 : v0 < 256) (h1 : v1 < 256) (h2 : v2 < 256) (h3 : v3 < 256) : nbF (fun j => L.getD j 0) a 4 0 = Int64.ofNat (N4 v0 v1 v2 v3) ↔ is4 L a v0 v1 v2 v3 := by
  rw [nb_vc hb ha]
  have b0 := vc_b L a
  have b1 := vc_b L (a + 1)
  have b2 := vc_b L (a + 2)
  have b3 := vc_b L (a + 3)
  constructor
  · intro e
    have := L_inj (by rw [n4_e]; omega) (by rw [n4_e]; omega) e
    exact n4_inj this b1 b2 b3 h1 h2 h3
  · rintro ⟨e0, e1, e2, e3⟩
    rw [e0, e1, e2, e3]
theorem nb_v2 (hb : BL s b w L cap) {a : Nat} (ha : a + 2 ≤ L.length) : nbF (fun j => L.getD j 0) a 2 0 = Int64.ofNat (vc L a * 256 + vc L (a + 1)) := by
  have st : ∀ {A b : Nat} {v : Int32}, v = nI b → A < 2 ^ 32 → b < 256 → (Int64.ofNat A <<< ((Int32.toInt64 (8 : Int32)) &&& 63)) ||| Int32.toInt64 v = Int64.ofNat (A * 256 + b) := fun {A b v} e hA hb => by
    rw [e, nI_L (by omega), show (8 : Int32) = nI 8 from rfl, L_sh 8 (by decide) (by omega)]
    exact L_or 8 (by omega) (by omega) (by omega)
  have b0 := vc_b L a
  show (((Int64.ofNat 0 <<< _) ||| Int32.toInt64 (L.getD a 0)) <<< _) ||| Int32.toInt64 (L.getD (a + 1) 0) = _
  rw [st (hb.gv (by omega)) (by omega) b0, st (hb.gv (by omega)) (by omega) (vc_b _ _), Nat.zero_mul, Nat.zero_add]
theorem c_good {Q : Int32 → cS → Nat → Nat → Prop} (hg : RGl G H sa x s) (hc : okO s 1 c) (hC : CC H s c V) (h4 : V.2.2.length ≤ 4) (k1 : ∀ (i : Nat) (v : kV), V.2.2[i]? = some v → v.1 = num → kGood tm v → Q (nI i) s kc ks) (k0 : (∀ (i : Nat) (v : kV), V.2.2[i]? = some v → v.1 = num → ¬ kGood tm v) → Q (-1) s kc ks) : C_Ch_goodKey sa c num tm s kc ks Q := by
  obtain ⟨-, ⟨p3, q3⟩, -, ⟨p5, q5⟩, ⟨p6, q6⟩, -, -⟩ := chK hg hc
  obtain ⟨-, c2, c3, -⟩ := hC
  generalize V.2.2 = L at *
  have v3 : ∀ i, i < L.length → s.E (H 23 c) i = (L.getD i k0V).1 := fun i hi => (c3 i _ (gk_D hi)).1
  have v5 : ∀ i, i < L.length → s.E (H 25 c) i = (L.getD i k0V).2.2.2.1 := fun i hi => (c3 i _ (gk_D hi)).2.2.1
  have v6 : ∀ i, i < L.length → s.E (H 26 c) i = (L.getD i k0V).2.2.2.2 := fun i hi => (c3 i _ (gk_D hi)).2.2.2.1
  unfold C_Ch_goodKey C_Ch_goodKey_b2
  intro P hP
  have loop : ∀ m j, j + m = L.length → (∀ (i : Nat) (v : kV), i < j → L[i]? = some v → v.1 = num → ¬ kGood tm v) → P (nI j) s kc ks := by
    intro m
    induction m with
    | zero =>
      intro j hj no
      have hj : j = L.length := by omega
      subst hj
      apply hP
      unfold C_Ch_goodKey_s2
      refine ⟨_, gd_to hc, ?_⟩
      rw [show s.I (20 * 1 + 2) c = nI L.length from c2]
      refine ifF (nI_nlt (Nat.le_refl _) (by omega)) (k0 fun i v hi => ?_)
      have : i < L.length := by
        rcases Nat.lt_or_ge i L.length with z | z
        · exact z
        · rw [List.getElem?_eq_none z] at hi
          cases hi
      exact no i v this hi
    | succ m ih =>
      intro j hj no
      have hj4 : j < L.length := by omega
      have e1 : (nI j + 1 : Int32) = nI (j + 1) := nI_1 j
      have nx : (∀ v, L[j]? = some v → v.1 = num → ¬ kGood tm v) → P (nI (j + 1)) s kc ks := fun h => ih (j + 1) (by omega) fun i v hi => by
        by_cases z : i = j
        · rw [z]; exact h v
        · exact no i v (by omega)
      apply hP
      unfold C_Ch_goodKey_s2 C_Ch_goodKey_b42
      rw [e1]
      refine ⟨_, gd_to hc, ?_⟩
      rw [show s.I (20 * 1 + 2) c = nI L.length from c2]
      refine ifT (nI_lt hj4 (by omega)) ⟨_, gd_to hc, _, p3, _, rd_E q3 (by decide) (show j < 4 by omega) (by decide) (v3 j hj4), ?_⟩
      by_cases z1 : (L.getD j k0V).1 = num
      rotate_left
      · exact ifF z1 (nx fun v hv e => absurd e (by rw [gk_D hj4] at hv; cases hv; exact z1))
      refine ifT z1 ⟨_, gd_to hc, _, p5, _, rd_E q5 (by decide) (show j < 4 by omega) (by decide) (v5 j hj4), ?_⟩
      by_cases z2 : tm < (L.getD j k0V).2.2.2.1
      · exact ifT z2 (nx fun v hv _ g => by rw [gk_D hj4] at hv; cases hv; exact g.1 z2)
      refine ifF z2 ⟨_, gd_to hc, _, p6, _, rd_E q6 (by decide) (show j < 4 by omega) (by decide) (v6 j hj4), ?_⟩
      by_cases z3 : (L.getD j k0V).2.2.2.2 < tm
      · exact ifT z3 (nx fun v hv _ g => by rw [gk_D hj4] at hv; cases hv; exact g.2 z3)
      · exact ifF z3 (k1 j _ (gk_D hj4) z1 ⟨z2, z3⟩)
  exact loop L.length 0 (by omega) (fun i v hi => absurd hi (by omega))
end Kf
