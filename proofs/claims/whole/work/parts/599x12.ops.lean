/-! The operations that look, or write little. -/
/-- both sides do the same: the model answers, and whatever holds of its answer and of states that agree holds after the class -/
def SO (G H : Nat → Nat → Nat) (sa : Nat → Nat) (x : Nat) (t : moS) (W : List Nat) (o : Option (Int32 × moS)) (C : (Int32 → cS → Nat → Nat → Prop) → Prop) (X : cS → Nat → Nat → Prop) : Prop := ∃ r t', o = some (r, t') ∧ MV t' ∧ mfr W t t' ∧ ∀ Q, (∀ s' kc' ks', RR G H sa x s' t' → X s' kc' ks' → Q r s' kc' ks') → C Q
/-- nothing was done -/
def XN (s : cS) (kc ks : Nat) (s' : cS) (kc' ks' : Nat) : Prop := s' = s ∧ kc' = kc ∧ ks' = ks
section Ops
variable {G H : Nat → Nat → Nat} {sa : Nat → Nat} {x kc ks : Nat} {s s' : cS} {t t' : moS} {W : List Nat}
theorem SO.st {o : Option (Int32 × moS)} {C : (Int32 → cS → Nat → Nat → Prop) → Prop} (r : Int32) (hR : RR G H sa x s t) (hM : MV t) (e : o = some (r, moSS t 0 0)) (h : ∀ Q : Int32 → cS → Nat → Nat → Prop, Q r s kc ks → C Q) : SO G H sa x t [0] o C (XN s kc ks) :=
  have m0 : mfr [0] t (moSS t 0 0) := mfr.ss (by decide)
  ⟨r, _, e, hM.m0 m0, m0, fun Q k => h Q (k s kc ks (hR.mf hM m0 rfl rfl) ⟨rfl, rfl, rfl⟩)⟩
theorem P_now (hR : RR G H sa x s t) (hM : MV t) : SO G H sa x t [0] (M_now t) (C_Rf_now sa x s kc ks) (XN s kc ks) :=
  SO.st (t.S 1) hR hM rfl fun Q k => ⟨_, gd_to hR.q.1.ox, by rw [show s.I (20 * 11 + 5) x = t.S 1 from hR.q.1.2.2.1.2.1]; exact k⟩
theorem P_fault (hR : RR G H sa x s t) (hM : MV t) : SO G H sa x t [0] (M_fault t) (C_Rf_fault sa x s kc ks) (XN s kc ks) :=
  SO.st (t.S 4) hR hM rfl fun Q k => ⟨_, gd_to hR.q.1.ox, by rw [show s.I (20 * 11 + 4) x = t.S 4 from hR.q.1.2.2.1.1]; exact k⟩
theorem P_flying (hR : RR G H sa x s t) (hM : MV t) : SO G H sa x t [0] (M_flying t) (C_Rf_flying sa x s kc ks) (XN s kc ks) :=
  SO.st (t.S 123) hR hM rfl fun Q k => ⟨_, gd_to hR.q.1.ox, by rw [show s.I (20 * 11 + 13) x = t.S 123 from hR.q.1.2.2.2.2.2.2.1.1]; exact k⟩
/-- a router's number is one, or none -/
theorem w_ra (hq : RQ G H sa x s t) (hM : MV t) {r : Nat} (hr : r < cR t) {Q : Option Nat → cS → Nat → Nat → Prop} (k : Q (some (G 1 r)) s kc ks) : C_Rf_routerAt sa x (nI r) s kc ks Q := w_routerAt hq hM (fun h => absurd rfl (h r hr)) fun r' h1 h2 => by
  have h6 := hM.nR
  rw [← (nI_eq (show r < 2 ^ 31 by omega) (show r' < 2 ^ 31 by omega)).mp h2]; exact k
theorem w_rn (hq : RQ G H sa x s t) (hM : MV t) {y : Int32} (hn : ∀ r, r < cR t → y ≠ nI r) {Q : Option Nat → cS → Nat → Nat → Prop} (k : Q none s kc ks) : C_Rf_routerAt sa x y s kc ks Q := w_routerAt hq hM (fun _ => k) fun r h1 h2 => absurd h2 (hn r h1)
theorem w_la (hq : RQ G H sa x s t) (hM : MV t) {r : Nat} (hr : r < cL t) {Q : Option Nat → cS → Nat → Nat → Prop} (k : Q (some (G 0 r)) s kc ks) : C_Rf_linkAt sa x (nI r) s kc ks Q := w_linkAt hq hM (fun h => absurd rfl (h r hr)) fun r' h1 h2 => by
  have h6 := hM.nL
  rw [← (nI_eq (show r < 2 ^ 31 by omega) (show r' < 2 ^ 31 by omega)).mp h2]; exact k
theorem w_ln (hq : RQ G H sa x s t) (hM : MV t) {y : Int32} (hn : ∀ r, r < cL t → y ≠ nI r) {Q : Option Nat → cS → Nat → Nat → Prop} (k : Q none s kc ks) : C_Rf_linkAt sa x y s kc ks Q := w_linkAt hq hM (fun _ => k) fun r h1 h2 => absurd h2 (hn r h1)
theorem P_routes (hR : RR G H sa x s t) (hM : MV t) (y : Int32) : SO G H sa x t [0] (M_routes t y) (C_Rf_routes sa x y s kc ks) (XN s kc ks) := by
  have hq := hR.q.1
  rcases M_isR (hM.m0 (mfr.ss (t := t) (k := 0) (v := 0) (by decide))) y with ⟨e, hn⟩ | ⟨e, r, hr, rfl⟩
  · exact SO.st (-1) hR hM (if_pos e) fun Q k => ⟨hq.ox, w_rn hq hM hn (ifT rfl k)⟩
  have hr : r < cR t := hr
  have h6 := hM.nR
  have hrt := okr (hq.rt hr).1.1 9
  have htb := hq.ty.p (hq.rt hr).1.1 186 27
  have hot := okr htb.2 10
  have e105 : t.I 105 r = nI (cN t r) := (hM.r hr).2.2.2.2.2.2.2.2.2.2.2.2.1.n.1
  refine SO.st (nI (cN t r)) hR hM ((if_neg (show ¬ M_isRouter (moSS t 0 0) (nI r) = 0 by rw [e]; decide)).trans ?_) fun Q k => ⟨hq.ox, w_ra hq hM hr (ifF (by simp) ⟨_, rfl, _, gd_to hrt, _, htb.1, _, gd_to hot, ?_⟩)⟩
  · rw [rdI_n (t := moSS t 0 0) (k := 105) (n := 6) (hM.n.1 105 (by decide)) (by omega) (by decide)]
    show some (t.I 105 r, moSS t 0 0) = _
    rw [e105]
  · rw [show s.I (20 * 10 + 1) (H 186 (G 1 r)) = nI (cN t r) from (hq.tb hr).1.1]; exact k
theorem P_count (hR : RR G H sa x s t) (hM : MV t) (y z : Int32) : SO G H sa x t [0] (M_count t y z) (C_Rf_count sa x y z s kc ks) (XN s kc ks) := by
  have hq := hR.q.1
  rcases M_isR (hM.m0 (mfr.ss (t := t) (k := 0) (v := 0) (by decide))) y with ⟨e, hn⟩ | ⟨e, r, hr, rfl⟩
  · exact SO.st (-1) hR hM (if_pos e) fun Q k => ⟨hq.ox, w_rn hq hM hn (ifT rfl k)⟩
  have e : ¬ M_isRouter (moSS t 0 0) (nI r) = 0 := by rw [e]; decide
  have hr : r < cR t := hr
  have h6 := hM.nR
  by_cases c0 : z < 0
  · exact SO.st (-1) hR hM ((if_neg e).trans (if_pos c0)) fun Q k => ⟨hq.ox, w_ra hq hM hr (ifF (by simp) (ifT c0 k))⟩
  by_cases c1 : z < 11
  · obtain ⟨w, hw, rfl⟩ := nI_of c0
    have hw : w < 11 := Nat.lt_of_not_le fun h => (nI_nlt (b := 11) h hw) c1
    have hrt := okr (hq.rt hr).1.1 9
    have ha := hq.ty.r (hq.rt hr).1.1 196 104 11
    refine SO.st (t.I 45 (11 * r + w)) hR hM ((if_neg e).trans ((if_neg c0).trans ((if_pos c1).trans ?_))) fun Q k => ⟨hq.ox, w_ra hq hM hr (ifF (by simp) (ifF c0 (ifT c1 ⟨_, rfl, _, gd_to hrt, _, ha.1, _, gd_to ⟨by rw [ha.2]; decide, by rw [ha.2]; decide, by rw [ha.2]; rfl, by rw [ha.2]; exact vp_in_nI (by omega) (by decide)⟩, ?_⟩)))⟩
    · rw [show (11 : Int32) * nI r + nI w = nI (11 * r + w) by rw [show (11 : Int32) = nI 11 from rfl, pk_mul, nI_add], rdI_n (t := moSS t 0 0) (k := 45) (n := 66) (hM.n.1 45 (by decide)) (by omega) (by decide)]
      rfl
    · rw [nI_clamp (by omega), (hq.rt hr).2.2.2.2 w hw]; exact k
  · exact SO.st (-1) hR hM ((if_neg e).trans ((if_neg c0).trans (if_neg c1))) fun Q k => ⟨hq.ox, w_ra hq hM hr (ifF (by simp) (ifF c0 (ifF c1 k)))⟩
end Ops
