/-! Bytes: a row of n bytes f in an array of cap places at d; the object at b. -/
def rBy (M : pmM) (b d cap n : Nat) (f : Nat → Int32) : Prop := M b = some (.inr (0, [.ref d, .int (nI n)])) ∧ M d = some (.inl (.byte, cap, .inl f)) ∧ n ≤ cap ∧ 16 ≤ cap ∧ cap ≤ 1000000
set_option maxRecDepth 100000 in
theorem s_By_init (base : Nat) (sa : Nat → Nat) {b n : Nat} {M : pmM} {v0 v1 : Value} {Rt : pmR} (hb : M b = some (.inr (0, [v0, v1]))) (hbb : base ≤ b) (h16 : 16 ≤ n) (hn : n ≤ 4000000) {kc ks : Nat} (h1 : 1 ≤ kc) (h2 : n ≤ ks) (k : ∀ q, M q = none → base ≤ q → Rt none (pm_up (pm_up (pm_up M q (.inl (.byte, n, .inl fun _ => 0))) b (.inr (0, [.ref q, v1]))) b (.inr (0, [.ref q, .int 0]))) (kc - 1) (ks - n)) : kP_By_init base sa [.ref b, .int (nI n)] M kc ks Rt := by
  refine ⟨Nat.le_of_ble_eq_true rfl, fun G hG => ?_⟩
  refine pgs hG rfl rfl ?_
  refine pg_call hG (As := [.ref b]) (r := []) 1 rfl rfl rfl rfl (by decide) (by decide) ⟨b, rfl, ?_⟩
  refine pgs hG rfl rfl ?_
  refine pgs hG rfl rfl ?_
  refine pgs hG rfl rfl ?_
  refine pi_ge hG (t := 16) rfl rfl (fun _ => ?_) (fun h => ?_)
  · refine pgs hG rfl rfl ?_
    refine pg_nar hG (n := n) rfl rfl hn h1 h2 (fun q hq hbq => ?_)
    have hqb : b ≠ q := fun e => by rw [← e, hb] at hq; cases hq
    refine pg_pf hG rfl rfl ((pm_up_ne _ _ hqb).trans hb) hbb (Nat.le_of_ble_eq_true rfl) rfl rfl ?_
    refine pgs hG rfl rfl ?_
    refine pgs hG rfl rfl ?_
    refine pg_pf hG rfl rfl (pm_up_self _ _ _) hbb (Nat.le_of_ble_eq_true rfl) rfl rfl ?_
    exact pg_rv hG rfl rfl (k q hq hbq)
  · exact absurd (nI_le h16 (by omega)) h
set_option maxRecDepth 100000 in
theorem s_By_clear (base : Nat) (sa : Nat → Nat) {b : Nat} {M : pmM} {v0 v1 : Value} {Rt : pmR} (hb : M b = some (.inr (0, [v0, v1]))) (hbb : base ≤ b) {kc ks : Nat} (k : Rt none (pm_up M b (.inr (0, [v0, .int 0]))) kc ks) : kP_By_clear base sa [.ref b] M kc ks Rt := by
  refine ⟨Nat.le_of_ble_eq_true rfl, fun G hG => ?_⟩
  refine pgs hG rfl rfl ?_
  refine pgs hG rfl rfl ?_
  refine pg_pf hG rfl rfl hb hbb (Nat.le_of_ble_eq_true rfl) rfl rfl ?_
  exact pg_rv hG rfl rfl k
/-- the byte at a place, or NONE -/
def by_at (n : Nat) (f : Nat → Int32) (i : Int32) : Int32 := if i < 0 then -1 else if nI n ≤ i then -1 else f i.toNatClampNeg &&& 255
set_option maxRecDepth 100000 in
theorem s_By_at (base : Nat) (sa : Nat → Nat) {b d cap n : Nat} {f : Nat → Int32} {i : Int32} {M : pmM} {Rt : pmR} (hr : rBy M b d cap n f) {kc ks : Nat} (k : Rt (some (.int (by_at n f i))) M kc ks) : kP_By_at base sa [.ref b, .int i] M kc ks Rt := by
  obtain ⟨hb, hd, hnc, h16, hcap⟩ := hr
  refine ⟨Nat.le_of_ble_eq_true rfl, fun G hG => ?_⟩
  refine pgs hG rfl rfl ?_
  refine pz_lt hG (t := 12) rfl rfl (fun c1 => ?_) (fun c1 => ?_)
  · refine pgs hG rfl rfl ?_
    refine pg_go hG (t := 26) rfl rfl ?_
    refine pg_ri hG rfl rfl rfl ?_
    rw [show by_at n f i = -1 from if_pos c1] at k
    exact k
  · refine pgs hG rfl rfl ?_
    refine pgs hG rfl rfl ?_
    refine pg_gf hG rfl rfl hb rfl ?_
    refine pi_lt hG (t := 16) rfl rfl (fun c2 => ?_) (fun c2 => ?_)
    · refine pgs hG rfl rfl ?_
      refine pg_gf hG rfl rfl hb rfl ?_
      refine pgs hG rfl rfl ?_
      obtain ⟨j, hj, rfl⟩ := nI_of c1
      have hjn : j < n := by
        rcases Nat.lt_or_ge j n with h | h
        · exact h
        · exact absurd c2 (nI_nlt h hj)
      refine pg_ba hG rfl hd (vp_in_nI (by omega) (by omega)) ?_
      refine pgs hG rfl rfl ?_
      refine pgs hG rfl rfl ?_
      refine pg_ri hG rfl rfl rfl ?_
      rw [show by_at n f (nI j) = f (nI j).toNatClampNeg &&& 255 from by unfold by_at; rw [if_neg c1, if_neg (nI_ge hjn (by omega))]] at k
      exact k
    · refine pgs hG rfl rfl ?_
      refine pg_go hG (t := 26) rfl rfl ?_
      refine pg_ri hG rfl rfl rfl ?_
      rw [show by_at n f i = -1 from by unfold by_at; rw [if_neg c1, if_pos (Int32.not_lt.mp c2)]] at k
      exact k
set_option maxRecDepth 100000 in
theorem s_By_setAt (base : Nat) (sa : Nat → Nat) {b d cap n j : Nat} {f : Nat → Int32} {v : Int32} {M : pmM} {Rt : pmR} (hr : rBy M b d cap n f) (hdb : base ≤ d) (hj : j < n) {kc ks : Nat} (k : Rt none (pm_up M d (.inl (.byte, cap, .inl (upd f j v.toInt8.toInt32)))) kc ks) : kP_By_setAt base sa [.ref b, .int (nI j), .int v] M kc ks Rt := by
  obtain ⟨hb, hd, hnc, h16, hcap⟩ := hr
  refine ⟨Nat.le_of_ble_eq_true rfl, fun G hG => ?_⟩
  refine pgs hG rfl rfl ?_
  refine pz_lt hG (t := 20) rfl rfl (fun c1 => absurd c1 (nI_pos (by omega))) (fun c1 => ?_)
  refine pgs hG rfl rfl ?_
  refine pgs hG rfl rfl ?_
  refine pg_gf hG rfl rfl hb rfl ?_
  refine pi_ge hG (t := 20) rfl rfl (fun c2 => absurd c2 (nI_ge hj (by omega))) (fun c2 => ?_)
  refine pgs hG rfl rfl ?_
  refine pg_gf hG rfl rfl hb rfl ?_
  refine pgs hG rfl rfl ?_
  refine pgs hG rfl rfl ?_
  refine pgs hG rfl rfl ?_
  refine pg_bs hG rfl hd hdb (vp_in_nI (by omega) (by omega)) ?_
  refine pg_rv hG rfl rfl ?_
  rw [nI_clamp (by omega), show v.toInt8.toInt32.toInt8.toInt32 = v.toInt8.toInt32 from pk_vb v] 
  exact k
set_option maxRecDepth 100000 in
/-- add: one byte more; when the array is full a new one, twice as long, takes its place -/
theorem s_By_add (base : Nat) (sa : Nat → Nat) {b d cap n : Nat} {f : Nat → Int32} {v : Int32} {M : pmM} {Rt : pmR} (hr : rBy M b d cap n f) (hby : ∀ i, i < n → (f i).toInt8.toInt32 = f i) (hbb : base ≤ b) (hdb : base ≤ d) (hne : b ≠ d) {kc ks : Nat} (hroom : n < cap ∨ (1 ≤ kc ∧ 2 * cap ≤ ks ∧ cap ≤ 400000))
    (k : ∀ (M' : pmM) (d' cap' : Nat) (f' : Nat → Int32) (kc' ks' : Nat), rBy M' b d' cap' (n + 1) f' → (∀ i, i < n + 1 → (f' i).toInt8.toInt32 = f' i) → base ≤ d' → b ≠ d' → (∀ i, i < n → f' i = f i) → f' n = v.toInt8.toInt32 → (∀ a, a ≠ b → a ≠ d → M a ≠ none → M' a = M a) → (∀ a, M a ≠ none → M' a ≠ none) → ((d' = d ∧ cap' = cap ∧ kc' = kc ∧ ks' = ks ∧ n < cap) ∨ (M d' = none ∧ cap' = 2 * cap ∧ kc' = kc - 1 ∧ ks' = ks - 2 * cap ∧ n = cap)) → Rt none M' kc' ks') : kP_By_add base sa [.ref b, .int v] M kc ks Rt := by
  obtain ⟨hb, hd, hnc, h16, hcap⟩ := hr
  refine ⟨Nat.le_of_ble_eq_true rfl, fun G hG => ?_⟩
  have hv8 : v.toInt8.toInt32.toInt8.toInt32 = v.toInt8.toInt32 := pk_vb v
  have tail : ∀ (M1 : pmM) (L : pmL) (d1 cap1 : Nat) (f1 : Nat → Int32) (kc1 ks1 : Nat), M1 b = some (.inr (0, [.ref d1, .int (nI n)])) → M1 d1 = some (.inl (.byte, cap1, .inl f1)) → n < cap1 → cap1 ≤ 1000000 → base ≤ d1 → b ≠ d1 → pm_get L 0 = some (.ref b) → pm_get L 1 = some (.int v) → Rt none (pm_up (pm_up M1 d1 (.inl (.byte, cap1, .inl (upd f1 n v.toInt8.toInt32)))) b (.inr (0, [.ref d1, .int (nI (n + 1))]))) kc1 ks1 → G 53 L [] M1 kc1 ks1 := by
    intro M1 L d1 cap1 f1 kc1 ks1 tb td tn tc tbd tne l0 l1 tk
    refine pg_ar hG rfl l0 ?_
    refine pg_gf hG rfl rfl tb rfl ?_
    refine pg_ar hG rfl l0 ?_
    refine pg_gf hG rfl rfl tb rfl ?_
    refine pg_il hG rfl l1 ?_
    refine pgs hG rfl rfl ?_
    refine pg_bs hG rfl td tbd (vp_in_nI tn (by omega)) ?_
    rw [nI_clamp (by omega), hv8]
    refine pg_ar hG rfl l0 ?_
    refine pgc hG rfl rfl rfl ?_
    refine pg_gf hG rfl rfl ((pm_up_ne _ _ tne).trans tb) rfl ?_
    refine pgs hG rfl rfl ?_
    refine pgs hG rfl rfl ?_
    refine pg_pf hG rfl rfl ((pm_up_ne _ _ tne).trans tb) hbb (Nat.le_of_ble_eq_true rfl) rfl rfl ?_
    refine pg_rv hG rfl rfl ?_
    have e : nI n + Int32.ofInt 1 = nI (n + 1) := nI_1 n
    show Rt none (pm_up _ b (.inr (0, [.ref d1, .int (nI n + Int32.ofInt 1)]))) kc1 ks1
    rw [e]
    exact tk
  refine pgs hG rfl rfl ?_
  refine pg_gf hG rfl rfl hb rfl ?_
  refine pgs hG rfl rfl ?_
  refine pg_gf hG rfl rfl hb rfl ?_
  refine pg_al hG rfl hd ?_
  refine pi_lt hG (t := 53) rfl rfl (fun c1 => ?_) (fun c1 => ?_)
  · have hlt : n < cap := by
      rcases Nat.lt_or_ge n cap with h | h
      · exact h
      · exact absurd c1 (nI_nlt h (by omega))
    refine tail M _ d cap f kc ks hb hd hlt hcap hdb hne rfl rfl ?_
    refine k _ d cap (upd f n v.toInt8.toInt32) kc ks ⟨pm_up_self _ _ _, (pm_up_ne _ _ hne.symm).trans (pm_up_self _ _ _), hlt, h16, hcap⟩ ?_ hdb hne (fun i hi => pk_un (by omega)) pk_us (fun a ha1 ha2 _ => (pm_up_ne _ _ ha1).trans (pm_up_ne _ _ ha2)) ?_ (Or.inl ⟨rfl, rfl, rfl, rfl, hlt⟩)
    · intro i hi
      by_cases e : i = n
      · subst e; rw [pk_us]; exact hv8
      · rw [pk_un e]; exact hby i (by omega)
    · intro a ha
      unfold pm_up
      split
      · simp
      · split
        · simp
        · exact ha
  · have hge : n = cap := by
      rcases Nat.lt_or_ge n cap with h | h
      · exact absurd (nI_lt h (by omega)) c1
      · omega
    obtain ⟨r1, r2, hlim⟩ : 1 ≤ kc ∧ 2 * cap ≤ ks ∧ cap ≤ 400000 := by
      rcases hroom with h | h
      · omega
      · exact h
    refine pgs hG rfl rfl ?_
    refine pg_gf hG rfl rfl hb rfl ?_
    refine pg_al hG rfl hd ?_
    refine pgs hG rfl rfl ?_
    refine pgs hG rfl rfl ?_
    have e2 : nI cap * Int32.ofInt 2 = nI (2 * cap) := by rw [show Int32.ofInt 2 = nI 2 from rfl, pk_mul, Nat.mul_comm]
    rw [e2]
    refine pg_nar hG (n := 2 * cap) rfl rfl (by omega) r1 r2 (fun q hq hbq => ?_)
    have hqb : b ≠ q := fun e => by rw [← e, hb] at hq; cases hq
    have hqd : d ≠ q := fun e => by rw [← e, hd] at hq; cases hq
    refine pgc hG rfl rfl (Nat.le_of_ble_eq_true rfl) ?_
    refine pgs hG rfl rfl ?_
    refine pgc hG rfl rfl (Nat.le_of_ble_eq_true rfl) ?_
    have loop : ∀ (m i : Nat) (g : Nat → Int32) (Mi : pmM), i + m = cap → Mi b = some (.inr (0, [.ref d, .int (nI n)])) → Mi d = some (.inl (.byte, cap, .inl f)) → Mi q = some (.inl (.byte, 2 * cap, .inl g)) → (∀ j, j < i → g j = f j) → (∀ a, a ≠ q → Mi a = M a) → G 24 [(3, .int (nI i)), (2, .ref q), (0, .ref b), (1, .int v)] [] Mi (kc - 1) (ks - 2 * cap) := by
      intro m
      induction m with
      | zero =>
        intro i g Mi hi mb md mq hg hM
        refine pgs hG rfl rfl ?_
        refine pgs hG rfl rfl ?_
        refine pg_gf hG rfl rfl mb rfl ?_
        refine pg_al hG rfl md ?_
        refine pi_ge hG (t := 48) rfl rfl (fun _ => ?_) (fun c2 => absurd (nI_le (by omega) (by omega)) c2)
        refine pgs hG rfl rfl ?_
        refine pgs hG rfl rfl ?_
        refine pg_pf hG rfl rfl mb hbb (Nat.le_of_ble_eq_true rfl) rfl rfl ?_
        refine tail _ _ q (2 * cap) g _ _ (pm_up_self _ _ _) ((pm_up_ne _ _ hqb.symm).trans mq) (by omega) (by omega) hbq hqb rfl rfl ?_
        refine k _ q (2 * cap) (upd g n v.toInt8.toInt32) _ _ ⟨pm_up_self _ _ _, (pm_up_ne _ _ hqb.symm).trans (pm_up_self _ _ _), by omega, by omega, by omega⟩ ?_ hbq hqb (fun j hj => (pk_un (by omega)).trans (hg j (by omega))) pk_us ?_ ?_ (Or.inr ⟨hq, rfl, rfl, rfl, hge⟩)
        · intro j hj
          by_cases e : j = n
          · subst e; rw [pk_us]; exact hv8
          · rw [pk_un e, hg j (by omega)]; exact hby j (by omega)
        · intro a ha1 _ ha3
          have haq : a ≠ q := fun e => ha3 (e ▸ hq)
          rw [pm_up_ne _ _ ha1, pm_up_ne _ _ haq, pm_up_ne _ _ ha1, hM a haq]
        · intro a ha
          have haq : a ≠ q := fun e => ha (e ▸ hq)
          by_cases e : a = b
          · subst e; rw [pm_up_self]; simp
          · rw [pm_up_ne _ _ e, pm_up_ne _ _ haq, pm_up_ne _ _ e, hM a haq]; exact ha
      | succ m ih =>
        intro i g Mi hi mb md mq hg hM
        refine pgs hG rfl rfl ?_
        refine pgs hG rfl rfl ?_
        refine pg_gf hG rfl rfl mb rfl ?_
        refine pg_al hG rfl md ?_
        refine pi_ge hG (t := 48) rfl rfl (fun c2 => absurd c2 (nI_ge (by omega) (by omega))) (fun _ => ?_)
        refine pgs hG rfl rfl ?_
        refine pgs hG rfl rfl ?_
        refine pgs hG rfl rfl ?_
        refine pg_gf hG rfl rfl mb rfl ?_
        refine pgs hG rfl rfl ?_
        refine pg_ba hG rfl md (vp_in_nI (by omega) (by omega)) ?_
        rw [nI_clamp (by omega)]
        refine pg_bs hG rfl mq hbq (vp_in_nI (by omega) (by omega)) ?_
        rw [nI_clamp (by omega), hby i (by omega)]
        refine pgc hG rfl rfl (Nat.le_of_ble_eq_true rfl) ?_
        refine pg_go hG (t := 24) rfl rfl ?_
        have e1 : nI i + Int32.ofInt 1 = nI (i + 1) := nI_1 i
        show G 24 [(3, .int (nI i + Int32.ofInt 1)), (2, .ref q), (0, .ref b), (1, .int v)] [] _ _ _
        rw [e1]
        refine ih (i + 1) (upd g i (f i)) _ (by omega) ((pm_up_ne _ _ hqb).trans mb) ((pm_up_ne _ _ hqd).trans md) (pm_up_self _ _ _) ?_ (fun a ha => (pm_up_ne _ _ ha).trans (hM a ha))
        intro j hj
        by_cases e : j = i
        · subst e; exact pk_us
        · rw [pk_un e]; exact hg j (by omega)
    exact loop cap 0 (fun _ => 0) _ (by omega) ((pm_up_ne _ _ hqb).trans hb) ((pm_up_ne _ _ hqd).trans hd) (pm_up_self _ _ _) (fun j hj => absurd hj (by omega)) (fun a ha => pm_up_ne _ _ ha)
/-! Bytes as lists: what is appended, and what it costs. -/
/-- an object of bytes: the list l, in an array of cap places at d -/
def vBy (base : Nat) (M : pmM) (b : Nat) (l : List Int32) (d cap : Nat) : Prop := ∃ f : Nat → Int32, rBy M b d cap l.length f ∧ (∀ i, i < l.length → f i = l.getD i 0) ∧ (∀ x ∈ l, x.toInt8.toInt32 = x) ∧ base ≤ b ∧ base ≤ d ∧ b ≠ d
/-- from M to M' only the object b, its array, and new cells are otherwise; sixteen places of the array pay for a cell, half a place for a slot -/
def grw (M : pmM) (b d cap kc ks : Nat) (M' : pmM) (d' cap' kc' ks' : Nat) : Prop := (∀ a, a ≠ b → a ≠ d → M a ≠ none → M' a = M a) ∧ (∀ a, M a ≠ none → M' a ≠ none) ∧ (d' = d ∨ M d' = none) ∧ cap ≤ cap' ∧ 16 * kc + cap ≤ 16 * kc' + cap' ∧ ks + 2 * cap ≤ ks' + 2 * cap'
theorem grw_rf {M : pmM} {b d cap kc ks : Nat} : grw M b d cap kc ks M d cap kc ks := ⟨fun _ _ _ _ => rfl, fun _ h => h, Or.inl rfl, Nat.le_refl _, Nat.le_refl _, Nat.le_refl _⟩
theorem grw_tr {M M1 M2 : pmM} {b d cap kc ks d1 cap1 kc1 ks1 d2 cap2 kc2 ks2 : Nat} (h1 : grw M b d cap kc ks M1 d1 cap1 kc1 ks1) (h2 : grw M1 b d1 cap1 kc1 ks1 M2 d2 cap2 kc2 ks2) : grw M b d cap kc ks M2 d2 cap2 kc2 ks2 := by
  obtain ⟨a1, a2, a3, a4, a5, a6⟩ := h1
  obtain ⟨b1, b2, b3, b4, b5, b6⟩ := h2
  refine ⟨fun a ha hd hM => ?_, fun a hM => b2 a (a2 a hM), ?_, by omega, by omega, by omega⟩
  · have had1 : a ≠ d1 := by
      rcases a3 with e | e
      · rw [e]; exact hd
      · intro q; subst q; exact hM e
    rw [b1 a ha had1 (a2 a hM), a1 a ha hd hM]
  · rcases b3 with e | e
    · rw [e]; exact a3
    · right
      cases hq : M d2 with
      | none => rfl
      | some x => exact absurd e (a2 d2 (by rw [hq]; simp))
/-- room for lists of up to B bytes -/
def bud (B kc ks cap : Nat) : Prop := B + 16 ≤ 16 * kc + cap ∧ 4 * B ≤ ks + 2 * cap ∧ B ≤ 200000
theorem bud_tr {M M' : pmM} {b d cap kc ks d' cap' kc' ks' B : Nat} (h : bud B kc ks cap) (g : grw M b d cap kc ks M' d' cap' kc' ks') : bud B kc' ks' cap' := by
  obtain ⟨h1, h2, h3⟩ := h
  obtain ⟨-, -, -, g4, g5, g6⟩ := g
  exact ⟨by omega, by omega, h3⟩
theorem v_By_add (base : Nat) (sa : Nat → Nat) {b d cap B : Nat} {l : List Int32} {v : Int32} {M : pmM} {Rt : pmR} {kc ks : Nat} (hv : vBy base M b l d cap) (hB : l.length < B) (hb : bud B kc ks cap)
    (k : ∀ (M' : pmM) (d' cap' kc' ks' : Nat), vBy base M' b (l ++ [v.toInt8.toInt32]) d' cap' → grw M b d cap kc ks M' d' cap' kc' ks' → Rt none M' kc' ks') : kP_By_add base sa [.ref b, .int v] M kc ks Rt := by
  obtain ⟨f, hr, hf, h8, q1, q2, q3⟩ := hv
  obtain ⟨b1, b2, b3⟩ := hb
  have hr' := hr
  obtain ⟨-, -, r1, r2, r3⟩ := hr'
  have hby : ∀ i, i < l.length → (f i).toInt8.toInt32 = f i := fun i hi => by
    rw [hf i hi, List.getD_eq_getElem?_getD, List.getElem?_eq_getElem hi]
    exact h8 _ (List.getElem_mem hi)
  refine s_By_add base sa hr hby q1 q2 q3 ?_ ?_
  · by_cases hc : l.length < cap
    · exact Or.inl hc
    · exact Or.inr ⟨by omega, by omega, by omega⟩
  · intro M' d' cap' f' kc' ks' hr1 hby1 hd1 hne1 hf1 hfn hfr hal hcase
    refine k M' d' cap' kc' ks' ⟨f', ?_, ?_, ?_, q1, hd1, hne1⟩ ⟨hfr, hal, ?_, ?_, ?_, ?_⟩
    · rw [show (l ++ [v.toInt8.toInt32]).length = l.length + 1 by simp]
      exact hr1
    · intro i hi
      rw [show (l ++ [v.toInt8.toInt32]).length = l.length + 1 by simp] at hi
      by_cases h : i < l.length
      · rw [hf1 i h, hf i h, List.getD_eq_getElem?_getD, List.getD_eq_getElem?_getD, List.getElem?_append_left h]
      · have e : i = l.length := by omega
        subst e
        rw [hfn, List.getD_eq_getElem?_getD, List.getElem?_append_right (Nat.le_refl _), Nat.sub_self]
        rfl
    · intro x hx
      rcases List.mem_append.mp hx with h | h
      · exact h8 x h
      · rw [List.mem_singleton.mp h]
        exact pk_vb v
    · rcases hcase with ⟨h, -⟩ | ⟨h, -⟩
      · exact Or.inl h
      · exact Or.inr h
    · rcases hcase with ⟨-, h, -⟩ | ⟨-, h, -⟩ <;> omega
    · rcases hcase with ⟨-, e1, e2, e3, h⟩ | ⟨-, e1, e2, e3, h⟩ <;> omega
    · rcases hcase with ⟨-, e1, e2, e3, h⟩ | ⟨-, e1, e2, e3, h⟩ <;> omega
theorem vBy.ob {base : Nat} {M : pmM} {b d cap : Nat} {l : List Int32} (h : vBy base M b l d cap) : M b = some (.inr (0, [.ref d, .int (nI l.length)])) := by
  obtain ⟨f, hr, -⟩ := h
  exact hr.1
set_option maxRecDepth 100000 in
/-- addZeros: so many 0s more -/
theorem v_By_addZeros (base : Nat) (sa : Nat → Nat) {b d cap B n : Nat} {l : List Int32} {M : pmM} {Rt : pmR} {kc ks : Nat} (hv : vBy base M b l d cap) (hB : l.length + n ≤ B) (hb : bud B kc ks cap)
    (k : ∀ (M' : pmM) (d' cap' kc' ks' : Nat), vBy base M' b (l ++ List.replicate n 0) d' cap' → grw M b d cap kc ks M' d' cap' kc' ks' → Rt none M' kc' ks') : kP_By_addZeros base sa [.ref b, .int (nI n)] M kc ks Rt := by
  have hn : n < 2 ^ 31 := by have := hb.2.2; omega
  refine ⟨Nat.le_of_ble_eq_true rfl, fun G hG => ?_⟩
  refine pgs hG rfl rfl ?_
  refine pgc hG rfl rfl (Nat.le_of_ble_eq_true rfl) ?_
  have loop : ∀ (m i : Nat) (M1 : pmM) (d1 cap1 kc1 ks1 : Nat), i + m = n → vBy base M1 b (l ++ List.replicate i 0) d1 cap1 → grw M b d cap kc ks M1 d1 cap1 kc1 ks1 → G 2 [(2, .int (nI i)), (0, .ref b), (1, .int (nI n))] [] M1 kc1 ks1 := by
    intro m
    induction m with
    | zero =>
      intro i M1 d1 cap1 kc1 ks1 hi hv1 hg1
      refine pgs hG rfl rfl ?_
      refine pgs hG rfl rfl ?_
      refine pi_ge hG (t := 18) rfl rfl (fun _ => ?_) (fun c => absurd (show nI n ≤ nI i from nI_le (by omega) (by omega)) c)
      refine pg_rv hG rfl rfl ?_
      have e : i = n := by omega
      subst e
      exact k M1 d1 cap1 kc1 ks1 hv1 hg1
    | succ m ih =>
      intro i M1 d1 cap1 kc1 ks1 hi hv1 hg1
      refine pgs hG rfl rfl ?_
      refine pgs hG rfl rfl ?_
      refine pi_ge hG (t := 18) rfl rfl (fun c => absurd c (nI_ge (by omega) hn)) (fun _ => ?_)
      refine pgs hG rfl rfl ?_
      refine pgs hG rfl rfl ?_
      refine pg_cal hG 0 rfl rfl (Nat.le_of_ble_eq_true rfl) (by decide) (Nat.le_of_ble_eq_true rfl) ?_
      refine pm_rcv_of (As' := [.int 0]) hv1.ob (v_By_add base sa (B := B) hv1 (by simp; omega) (bud_tr hb hg1) ?_)
      intro M2 d2 cap2 kc2 ks2 hv2 hg2
      refine pgc hG rfl rfl (Nat.le_of_ble_eq_true rfl) ?_
      refine pg_go hG (t := 2) rfl rfl ?_
      have e1 : nI i + Int32.ofInt 1 = nI (i + 1) := nI_1 i
      show G 2 [(2, .int (nI i + Int32.ofInt 1)), (0, .ref b), (1, .int (nI n))] [] _ _ _
      rw [e1]
      refine ih (i + 1) M2 d2 cap2 kc2 ks2 (by omega) ?_ (grw_tr hg1 hg2)
      rw [List.replicate_succ', ← List.append_assoc]
      exact hv2
  exact loop n 0 M d cap kc ks (by omega) (by simpa using hv) grw_rf
set_option maxRecDepth 100000 in
/-- endLine -/
theorem v_By_endLine (base : Nat) (sa : Nat → Nat) {b d cap B : Nat} {l : List Int32} {M : pmM} {Rt : pmR} {kc ks : Nat} (hv : vBy base M b l d cap) (hB : l.length < B) (hb : bud B kc ks cap)
    (k : ∀ (M' : pmM) (d' cap' kc' ks' : Nat), vBy base M' b (l ++ [10]) d' cap' → grw M b d cap kc ks M' d' cap' kc' ks' → Rt none M' kc' ks') : kP_By_endLine base sa [.ref b] M kc ks Rt := by
  refine ⟨Nat.le_of_ble_eq_true rfl, fun G hG => ?_⟩
  refine pgs hG rfl rfl ?_
  refine pgs hG rfl rfl ?_
  refine pg_cal hG 0 rfl rfl (Nat.le_of_ble_eq_true rfl) (by decide) (Nat.le_of_ble_eq_true rfl) ?_
  refine pm_rcv_of (As' := [.int 10]) hv.ob (v_By_add base sa (B := B) (v := 10) hv hB hb ?_)
  intro M2 d2 cap2 kc2 ks2 hv2 hg2
  exact pg_rv hG rfl rfl (k M2 d2 cap2 kc2 ks2 hv2 hg2)
/-- the byte at a place of a list, or NONE -/
def v_at (l : List Int32) (i : Nat) : Int32 := if i < l.length then l.getD i 0 &&& 255 else -1
theorem v_By_at (base : Nat) (sa : Nat → Nat) {b d cap i : Nat} {l : List Int32} {M : pmM} {Rt : pmR} {kc ks : Nat} (hv : vBy base M b l d cap) (hi : i < 2 ^ 31) (k : Rt (some (.int (v_at l i))) M kc ks) : kP_By_at base sa [.ref b, .int (nI i)] M kc ks Rt := by
  obtain ⟨f, hr, hf, -⟩ := hv
  have hr' := hr
  obtain ⟨-, -, r1, r2, r3⟩ := hr'
  refine s_By_at base sa hr ?_
  have e : by_at l.length f (nI i) = v_at l i := by
    unfold by_at v_at
    rw [if_neg (nI_pos hi)]
    by_cases h : i < l.length
    · rw [if_neg (nI_ge h (by omega)), if_pos h, nI_clamp hi, hf i h]
    · rw [if_pos (nI_le (by omega) hi), if_neg h]
  rw [e]
  exact k
/-- one byte of a long -/
def by_sh (x : Int64) (sh : Nat) : Int32 := ((x.toUInt64 >>> ((nI sh).toInt64.toUInt64 &&& Int64.toUInt64 63)).toInt64).toInt32.toInt8.toInt32
/-- the bytes of a long, highest first -/
def beB (x : Int64) : Nat → List Int32
  | 0 => []
  | s + 1 => by_sh x (8 * s) :: beB x s
theorem beB_len (x : Int64) : ∀ s, (beB x s).length = s
  | 0 => rfl
  | s + 1 => by rw [beB, List.length_cons, beB_len x s]
set_option maxRecDepth 100000 in
/-- addNumber: so many bytes of a number, highest first -/
theorem v_By_addNumber (base : Nat) (sa : Nat → Nat) {b d cap B n : Nat} {x : Int64} {l : List Int32} {M : pmM} {Rt : pmR} {kc ks : Nat} (hv : vBy base M b l d cap) (hn : n ≤ 8) (hB : l.length + n ≤ B) (hb : bud B kc ks cap)
    (k : ∀ (M' : pmM) (d' cap' kc' ks' : Nat), vBy base M' b (l ++ beB x n) d' cap' → grw M b d cap kc ks M' d' cap' kc' ks' → Rt none M' kc' ks') : kP_By_addNumber base sa [.ref b, .long x, .int (nI n)] M kc ks Rt := by
  refine ⟨Nat.le_of_ble_eq_true rfl, fun G hG => ?_⟩
  have hsv : ∀ m : Nat, nI (8 * m) + Int32.ofInt (-8) = nI (8 * m) - 8 := fun m => by
    rw [Int32.sub_eq_add_neg]
    rfl
  have hsv1 : ∀ m : Nat, nI (8 * (m + 1)) - 8 = nI (8 * m) := fun m => by
    rw [show (8 : Int32) = nI 8 from rfl, pk_sub (by omega)]
    congr 1
  have loop : ∀ (m : Nat) (l1 : List Int32) (M1 : pmM) (d1 cap1 kc1 ks1 : Nat), l1 ++ beB x m = l ++ beB x n → vBy base M1 b l1 d1 cap1 → grw M b d cap kc ks M1 d1 cap1 kc1 ks1 → G 9 [(4, .int (nI (8 * m) - 8)), (0, .ref b), (1, .long x), (3, .int (nI n))] [] M1 kc1 ks1 := by
    intro m
    induction m with
    | zero =>
      intro l1 M1 d1 cap1 kc1 ks1 hl hv1 hg1
      refine pgs hG rfl rfl ?_
      refine pz_lt hG (t := 29) rfl rfl (fun _ => ?_) (fun c => absurd (by decide) c)
      refine pg_rv hG rfl rfl ?_
      rw [beB, List.append_nil] at hl
      subst hl
      exact k M1 d1 cap1 kc1 ks1 hv1 hg1
    | succ m ih =>
      intro l1 M1 d1 cap1 kc1 ks1 hl hv1 hg1
      have hB2 := hb.2.2
      have hlen : l1.length + (m + 1) = l.length + n := by
        have h := congrArg List.length hl
        rw [List.length_append, List.length_append, beB_len, beB_len] at h
        exact h
      rw [hsv1]
      refine pgs hG rfl rfl ?_
      refine pz_lt hG (t := 29) rfl rfl (fun c => absurd c (nI_pos (by omega))) (fun _ => ?_)
      refine pgs hG rfl rfl ?_
      refine pgs hG rfl rfl ?_
      refine pgs hG rfl rfl ?_
      refine pgs hG rfl rfl ?_
      refine pgs hG rfl rfl ?_
      refine pg_cal hG 0 rfl rfl (Nat.le_of_ble_eq_true rfl) (by decide) (Nat.le_of_ble_eq_true rfl) ?_
      refine pm_rcv_of (As' := [.int ((x.toUInt64 >>> ((nI (8 * m)).toInt64.toUInt64 &&& Int64.toUInt64 63)).toInt64).toInt32]) hv1.ob (v_By_add base sa (B := B) hv1 (by omega) (bud_tr hb hg1) ?_)
      intro M2 d2 cap2 kc2 ks2 hv2 hg2
      refine pgc hG rfl rfl (Nat.le_of_ble_eq_true rfl) ?_
      refine pg_go hG (t := 9) rfl rfl ?_
      show G 9 [(4, .int (nI (8 * m) + Int32.ofInt (-8))), (0, .ref b), (1, .long x), (3, .int (nI n))] [] _ _ _
      rw [hsv]
      refine ih _ M2 d2 cap2 kc2 ks2 ?_ hv2 (grw_tr hg1 hg2)
      rw [← hl, List.append_assoc]
      rfl
  refine pgs hG rfl rfl ?_
  refine pgs hG rfl rfl ?_
  refine pgs hG rfl rfl ?_
  refine pgs hG rfl rfl ?_
  refine pgs hG rfl rfl ?_
  refine pgc hG rfl rfl (Nat.le_of_ble_eq_true rfl) ?_
  have e0 : nI n * (Int8.ofInt 8).toInt32 - (Int8.ofInt 8).toInt32 = nI (8 * n) - 8 := by
    rw [show (Int8.ofInt 8).toInt32 = nI 8 from by decide, pk_mul, Nat.mul_comm]
    rfl
  show G 9 [(4, .int (nI n * (Int8.ofInt 8).toInt32 - (Int8.ofInt 8).toInt32)), (0, .ref b), (1, .long x), (3, .int (nI n))] [] _ _ _
  rw [e0]
  exact loop n l M d cap kc ks rfl hv grw_rf
