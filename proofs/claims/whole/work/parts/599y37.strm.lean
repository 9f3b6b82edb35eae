/-! An own route of other numbers; a row taken out of a table of the class. -/
/-- rows behind one nearer; row i behind all that hold something -/
def slF (f : Nat → Option Nat) (i j : Nat) : Nat → Option Nat := fun k => if i ≤ k ∧ k < j then f (k + 1) else f k
def rmF (f : Nat → Option Nat) (i n : Nat) : Nat → Option Nat := fun k => if k < i then f k else if k < n then f (k + 1) else if k = n then f i else f k
section Sm
variable {G H : Nat → Nat → Nat} {sa : Nat → Nat} {x r w a i j n hw mx cap tb u ur kc ks k : Nat} {s : cS} {t : moS} {m tg : Int32} {g : Nat → Nat}
theorem slF_s {f : Nat → Option Nat} (h : i ≤ j) : va_up (slF f i j) j (f (j + 1)) = slF f i (j + 1) := by
  funext k
  show (if k = j then f (j + 1) else if i ≤ k ∧ k < j then f (k + 1) else f k) = if i ≤ k ∧ k < j + 1 then f (k + 1) else f k
  by_cases c : k = j
  · rw [if_pos c, if_pos (by omega), c]
  · rw [if_neg c]
    by_cases c2 : i ≤ k ∧ k < j
    · rw [if_pos c2, if_pos (by omega)]
    · rw [if_neg c2, if_neg (by omega)]
theorem slF_e {f : Nat → Option Nat} (h : i ≤ n) : va_up (slF f i n) n (f i) = rmF f i n := by
  funext k
  show (if k = n then f i else if i ≤ k ∧ k < n then f (k + 1) else f k) = if k < i then f k else if k < n then f (k + 1) else if k = n then f i else f k
  by_cases c : k = n
  · rw [if_pos c, if_neg (by omega), if_neg (by omega), if_pos c]
  · rw [if_neg c]
    by_cases c2 : k < i
    · rw [if_neg (by omega), if_pos c2]
    · rw [if_neg c2]
      by_cases c3 : k < n
      · rw [if_pos (by omega), if_pos c3]
      · rw [if_neg (by omega), if_neg c3, if_neg c]
theorem w_remove {Q : cS → Nat → Nat → Prop} (h : RTa s tb u ur (n + 1) hw mx g) (ho : okO s 10 tb) (hu : (130 ≤ u ∧ u < 146 ∧ cAk u = 8) ∧ 1 ≤ ur ∧ ur < 100 ∧ cKn ur = 8) (hmx : mx ≤ 2800) (hP' : s.P 200 tb = some w) (hi : i ≤ n) (kk : Q (cQs (cSI s 201 tb (nI n)) w (rmF (s.Q w) i n)) kc ks) : C_Ta_remove sa tb (nI i) s kc ks Q := by
  obtain ⟨a1, a2, a3, w', cap', b1, b2, b3, b4, b5, b6, b7, b8⟩ := h
  rw [hP'] at b1
  cases b1
  unfold C_Ta_remove
  have okq : ∀ (s' : cS) k, s'.K = s.K → k < cap' → okQ s' w (nI k) := fun s' k e hk => ⟨by rw [e, b2]; exact hu.1.1, by rw [e, b2]; exact hu.1.2.1, by rw [e, b2]; exact vp_in_nI hk (by omega)⟩
  have cak : ∀ (s' : cS), s'.K = s.K → cAk (s'.K w).1 = 8 := fun s' e => by rw [e, b2]; exact hu.1.2.2
  have rowok : ∀ (s' : cS) y, s'.K = s.K → y < hw → okO s' 8 (g y) := fun s' y e hy => by
    have := (b6 y hy).2
    unfold okO
    rw [e, this]
    exact hu.2
  refine ifF (nI_nlt (b := 0) (by omega) (by omega)) ⟨_, gd_to ho, ?_⟩
  rw [show s.I (20 * 10 + 1) tb = nI (n + 1) from a1]
  refine ifT (nI_lt (by omega) (by omega)) ⟨_, gd_to ho, w, hP', _, gd_to (okq s i rfl (by omega)), _, gd_to ho, _, gd_to ho, ?_⟩
  rw [nI_clamp (by omega), show s.I (20 * 10 + 1) tb = nI (n + 1) from a1, show nI (n + 1) - 1 = nI n from by rw [show (1 : Int32) = nI 1 from rfl, pk_sub (by omega)]; rfl]
  have kk' : Q (cQs (cSI s (20 * 10 + 1) tb (nI n)) w (rmF (s.Q w) i n)) kc ks := kk
  have eQ : (cSI s (20 * 10 + 1) tb (nI n)).Q w = s.Q w := rfl
  have e201 : (cSI s (20 * 10 + 1) tb (nI n)).I 201 tb = nI n := cSI_s
  have oK : (cSI s (20 * 10 + 1) tb (nI n)).K = s.K := rfl
  have oP : (cSI s (20 * 10 + 1) tb (nI n)).P 200 tb = some w := hP'
  generalize cSI s (20 * 10 + 1) tb (nI n) = s6 at kk' eQ e201 oK oP ⊢
  have ho6 : okO s6 10 tb := by unfold okO; rw [oK]; exact ho
  unfold C_Ta_remove_b32
  intro P hP
  have loop : ∀ q j, j + q = n → i ≤ j → P (nI j) (cQs s6 w (slF (s.Q w) i j)) kc ks := by
    intro q
    induction q with
    | zero =>
      intro j hj hij
      have e : j = n := by omega
      subst e
      apply hP
      unfold C_Ta_remove_s32
      refine ⟨_, gd_to (show okO _ 10 tb from ho6), ?_⟩
      rw [show (cQs s6 w (slF (s.Q w) i j)).I (20 * 10 + 1) tb = nI j from e201]
      refine ifF (nI_nlt (by omega) (by omega)) ⟨_, gd_to (show okO _ 10 tb from ho6), _, gd_to (show okO _ 10 tb from ho6), w, oP, ?_⟩
      rw [show (cQs s6 w (slF (s.Q w) i j)).I (20 * 10 + 1) tb = nI j from e201]
      obtain ⟨y1, y2⟩ := b6 i (by omega)
      refine ⟨_, gd_to ⟨okq _ j oK (by omega), by rw [cak (cQs s6 w (slF (s.Q w) i j)) oK]; decide, fun b hb => by
        rw [cak (cQs s6 w (slF (s.Q w) i j)) oK]
        rw [y1] at hb
        cases hb
        exact rowok _ i oK (by omega)⟩, ?_⟩
      rw [nI_clamp (by omega), cQs_up, slF_e hij]
      exact kk'
    | succ q ih =>
      intro j hj hij
      apply hP
      unfold C_Ta_remove_s32
      refine ⟨_, gd_to (show okO _ 10 tb from ho6), ?_⟩
      rw [show (cQs s6 w (slF (s.Q w) i j)).I (20 * 10 + 1) tb = nI n from e201]
      refine ifT (nI_lt (by omega) (by omega)) ⟨_, gd_to (show okO _ 10 tb from ho6), _, gd_to (show okO _ 10 tb from ho6), w, oP, ?_⟩
      rw [show nI j + 1 = nI (j + 1) from nI_add j 1]
      refine ⟨_, gd_to (okq _ (j + 1) oK (by omega)), w, oP, ?_⟩
      rw [nI_clamp (by omega), cQs_s, show slF (s.Q w) i j (j + 1) = s.Q w (j + 1) from if_neg (by omega)]
      obtain ⟨y1, y2⟩ := b6 (j + 1) (by omega)
      refine ⟨_, gd_to ⟨okq _ j oK (by omega), by rw [cak (cQs s6 w (slF (s.Q w) i j)) oK]; decide, fun b hb => by
        rw [cak (cQs s6 w (slF (s.Q w) i j)) oK]
        rw [y1] at hb
        cases hb
        exact rowok _ (j + 1) oK (by omega)⟩, ?_⟩
      rw [nI_clamp (by omega), cQs_up, slF_s hij]
      exact ih (j + 1) (by omega) (by omega)
  have := loop (n - i) i (by omega) (Nat.le_refl _)
  rw [show slF (s.Q w) i i = s.Q w from funext fun k => if_neg (by omega), ← eQ, cQs_id] at this
  exact this
/-- an own route of another metric and tag -/
theorem rr_stm (hR : RR G H sa x s t) (hM : MV t) (hr : r < cR t) (hj : j < cSt t r) (ea : a = G 6 (32 * r + j)) (ek : k = 32 * r + G 7 (32 * r + j)) (hm : rng m 1 15) (htg : rng tg 0 65535) : RR G H sa x (cSI (cSI s 164 a m) 165 a tg) (moSI (moSI t 51 k m) 52 k tg) ∧ MV (moSI (moSI t 51 k m) 52 k tg) ∧ stC G H r a w s (cSI (cSI s 164 a m) 165 a tg) ∧ stT r t (moSI (moSI t 51 k m) 52 k tg) := by
  have h6 := hM.nR
  have h32 := (hM.st hr).2
  have hq := hR.q.1
  have hT := hq.ty
  obtain ⟨b0, b1, b2⟩ := hq.st hr
  obtain ⟨c1, c2, c3, w0, cap, d1, d2, d3, d4, d5, d6, d7, d8⟩ := id b0
  have c2' : cSt t r ≤ G 14 r := c2
  have k1 := (hq.rt hr).1.1
  have ka : (s.K a).1 = 24 := by rw [ea]; exact (d6 j (by omega)).2
  have k36 := (hT.p ka 160 36).2
  have hG7 : G 7 (32 * r + j) < cSt t r := (b1 j hj).1
  have cc : ∀ w, stC G H r a w s (cSI (cSI s 164 a m) 165 a tg) := fun w => (stC.i (Or.inr (Or.inl rfl))).tr (stC.i (Or.inr (Or.inl rfl)))
  have tI : ∀ g y, (moSI (moSI t 51 k m) 52 k tg).I g y = if g = 52 ∧ y = k then tg else if g = 51 ∧ y = k then m else t.I g y := fun g y => by rw [evMI, evMI]
  have sI : ∀ g b, (cSI (cSI s 164 a m) 165 a tg).I g b = if g = 165 ∧ b = a then tg else if g = 164 ∧ b = a then m else s.I g b := fun g b => by rw [evI, evI]
  have ct : stT r t (moSI (moSI t 51 k m) 52 k tg) := by
    refine ⟨(mfr.si (by decide)).tr (mfr.si (by decide)), fun y _ => by rw [tI, if_neg (by omega), if_neg (by omega)], fun g hg y hy => by rw [tI, if_neg (by omega), if_neg (by omega)], fun _ _ _ _ => rfl⟩
  refine ⟨?_, ?_, cc w, ct⟩
  · have sJ : (cSI (cSI s 164 a m) 165 a tg).J = s.J := rfl
    have tJ : (moSI (moSI t 51 k m) 52 k tg).J = t.J := rfl
    have sQ : (cSI (cSI s 164 a m) 165 a tg).Q = s.Q := rfl
    have sK : (cSI (cSI s 164 a m) 165 a tg).K = s.K := rfl
    have sP : (cSI (cSI s 164 a m) 165 a tg).P = s.P := rfl
    have cc' := cc w0
    generalize moSI (moSI t 51 k m) 52 k tg = t' at *
    generalize cSI (cSI s 164 a m) 165 a tg = s' at *
    have t46 : t'.I 46 r = t.I 46 r := by rw [tI, if_neg (by omega), if_neg (by omega)]
    have oth : ∀ y, y < G 14 r → y ≠ j → G 6 (32 * r + y) ≠ a := fun y h1 h2 z => h2 (d8 y j h1 (by omega) (by rw [ea] at z; exact z))
    have pfx : ∀ y, y < cSt t r → (∀ g, s'.I g (H 160 (G 6 (32 * r + y))) = s.I g (H 160 (G 6 (32 * r + y)))) := fun y hy g => by
      have kc : (s.K (G 6 (32 * r + y))).1 = 24 := (d6 y (by omega)).2
      have := ne_ro (hT.p kc 160 36).2 ka
      rw [sI, if_neg (fun z => this z.2), if_neg (fun z => this z.2)]
    have ky : ∀ y, y < cSt t r → cPk s' (H 160 (G 6 (32 * r + y))) = cPk s (H 160 (G 6 (32 * r + y))) := fun y hy => by
      unfold cPk
      rw [pfx y hy, pfx y hy, sJ]
    refine rr_st hR hM hr (fun _ _ _ _ => rfl) (fun _ _ _ => ⟨rfl, fun _ _ => rfl, fun _ _ => rfl⟩) cc' ct d1 ka ?_ (fun i' j' h1 h2 z => ?_) (fun r' j' hr' hne hj' z => ?_) fun j' hj' => Or.inr ⟨j', hj', rfl⟩
    · unfold RSt
      rw [t46]
      refine ⟨ta_keep b0 sK sQ (by rw [sP]) ?_, fun y hy => ?_, fun y1 y2 h12 hy => ?_⟩
      · have := ne_ro (hT.p k1 187 28).2 ka
        rw [sI, if_neg (fun z => this z.2), if_neg (fun z => this z.2)]
      · have hy' : y < cSt t r := hy
        obtain ⟨q1, q2, q3, q4⟩ := b1 y hy
        have q1' : G 7 (32 * r + y) < cSt t r := q1
        have hp := pfx y hy'
        have e47 : ∀ z, t'.I 47 z = t.I 47 z := fun z => by rw [tI, if_neg (by omega), if_neg (by omega)]
        have e50 : ∀ z, t'.I 50 z = t.I 50 z := fun z => by rw [tI, if_neg (by omega), if_neg (by omega)]
        rw [e47, e50, tJ]
        refine ⟨q1, ⟨by rw [hp]; exact q2.1, by rw [sJ]; exact q2.2.1, by rw [sJ]; exact q2.2.2.1, by rw [hp]; exact q2.2.2.2⟩, ?_⟩
        by_cases c : y = j
        · subst c
          rw [← ea, ← ek, sI, if_neg (by omega), if_pos ⟨rfl, rfl⟩, tI, if_neg (by omega), if_pos ⟨rfl, rfl⟩, sI, if_pos ⟨rfl, rfl⟩, tI, if_pos ⟨rfl, rfl⟩]
          exact ⟨rfl, rfl⟩
        · have hna := oth y (by omega) c
          have hnk : 32 * r + G 7 (32 * r + y) ≠ k := fun z => c (hq.2.1.2.2.2.2.2.2.2.2.2.2 r y hr hy j hj (by omega))
          rw [sI, if_neg (fun z => hna z.2), if_neg (fun z => hna z.2), tI, if_neg (fun z => hnk z.2), if_neg (fun z => hnk z.2), sI, if_neg (fun z => hna z.2), if_neg (fun z => hna z.2), tI, if_neg (fun z => hnk z.2), if_neg (fun z => hnk z.2)]
          exact ⟨q3, q4⟩
      · have hy' : y2 < cSt t r := hy
        rw [ky y1 (by omega), ky y2 hy']
        exact b2 y1 y2 h12 hy
    · have e : cSt t' r = cSt t r := by unfold cSt; rw [t46]
      rw [e] at h1 h2
      exact hq.2.1.2.2.2.2.2.2.2.2.2.2 r i' hr h1 j' h2 z
    · rw [ea] at z
      have hb := (hq.st hr').1.2.2.1
      have := hq.2.1.2.2.2.2.2.2.1 r' r j' j hr' hr hj' (by omega) z
      omega
  · have t46 : (moSI (moSI t 51 k m) 52 k tg).I 46 r = t.I 46 r := by rw [tI, if_neg (by omega), if_neg (by omega)]
    refine mv_st hM hr ct (by rw [t46]; exact (hM.r hr).2.2.2.1) fun y hy => ?_
    have e : cSt (moSI (moSI t 51 k m) 52 k tg) r = cSt t r := by unfold cSt; rw [t46]
    rw [e] at hy
    obtain ⟨q1, q2, q3⟩ := hM.sl hr hy
    rw [tI, if_neg (by omega), if_neg (by omega), tI, if_neg (by omega), if_neg (by omega), tI, if_neg (by omega), tI]
    refine ⟨q1, ?_, ?_⟩
    · by_cases c : 32 * r + y = k
      · rw [if_pos ⟨rfl, c⟩]; exact hm
      · rw [if_neg (fun z => c z.2)]; exact q2
    · by_cases c : 32 * r + y = k
      · rw [if_pos ⟨rfl, c⟩]; exact htg
      · rw [if_neg (fun z => c z.2), if_neg (by omega)]; exact q3
end Sm
