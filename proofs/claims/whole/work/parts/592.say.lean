/-! The model's rows that grow. -/
section MoRe
variable {R : pmM} {base m : Nat} {q : Nat → Nat} {s s' : moS}
theorem moM_R {a : Nat} {e : pmE} (h1 : a ≠ m) (h2 : ∀ k ∈ moAr, q k ≠ a) : pm_up (moM R m q s) a e = moM (pm_up R a e) m q s := by
  funext b
  by_cases hb : b = a
  · subst hb
    rw [pm_up_self, moM_o h1 h2, pm_up_self]
  · rw [pm_up_ne _ _ hb]
    unfold moM
    by_cases hm : b = m
    · rw [if_pos hm, if_pos hm]
    · rw [if_neg hm, if_neg hm]
      cases moAr.find? (fun k => q k == b) with
      | none => show R b = pm_up R a e b; rw [pm_up_ne _ _ hb]
      | some k => rfl
theorem moM_fr (hq : moQ base m q) {a : Nat} (h : moM R m q s a = none) : a ≠ m ∧ (∀ k ∈ moAr, q k ≠ a) ∧ R a = none := by
  have h1 : a ≠ m := fun z => by rw [z, moM_m] at h; cases h
  have h2 : ∀ k ∈ moAr, q k ≠ a := fun k hk z => by rw [← z, moM_q hq hk] at h; cases h
  exact ⟨h1, h2, by rw [moM_o h1 h2] at h; exact h⟩
def moQu (q : Nat → Nat) (k a : Nat) : Nat → Nat := fun j => if j = k then a else q j
/-- a row gives its place to a new one; the old one is left behind -/
theorem moM_re (hq : moQ base m q) {k a : Nat} {e : pmE} (hk : k ∈ moAr) (hba : base ≤ a) (ham : a ≠ m) (haq : ∀ j ∈ moAr, q j ≠ a) (hE : moA s' k = e) (hO : ∀ j, j ≠ k → moA s' j = moA s j) (hV : ∀ j, moV q s' j = moV q s j) : moQ base m (moQu q k a) ∧ pm_up (moM (pm_up R a e) m q s) m (.inr (12, moL (upF (moV q s) k (.ref a)))) = moM (pm_up R (q k) (moA s k)) m (moQu q k a) s' := by
  have hkd : Nat.ble 2 (moKd k) = true := (List.mem_filter.mp hk).2
  have hQ : moQ base m (moQu q k a) := by
    refine ⟨hq.1, fun j hj => ?_⟩
    by_cases hjk : j = k
    · subst hjk
      have e1 : moQu q j a j = a := if_pos rfl
      rw [e1]
      refine ⟨hba, ham, fun i hi h => ?_⟩
      by_cases hij : i = j
      · exact hij
      · rw [show moQu q j a i = q i from if_neg hij] at h
        exact absurd h (haq i hi)
    · have e1 : moQu q k a j = q j := if_neg hjk
      rw [e1]
      refine ⟨(hq.2 j hj).1, (hq.2 j hj).2.1, fun i hi h => ?_⟩
      by_cases hik : i = k
      · subst hik
        rw [show moQu q i a i = a from if_pos rfl] at h
        exact absurd h.symm (haq j hj)
      · rw [show moQu q k a i = q i from if_neg hik] at h
        exact (hq.2 j hj).2.2 i hi h
  refine ⟨hQ, ?_⟩
  funext b
  by_cases hbm : b = m
  · subst hbm
    rw [pm_up_self, moM_m]
    have : moL (upF (moV q s) k (.ref a)) = moL (moV (moQu q k a) s') := by
      unfold moL
      refine List.map_congr_left fun j hj => ?_
      by_cases hjk : j = k
      · subst hjk
        rw [upF_s, moV_r hkd]
        show _ = Value.ref (if j = j then a else _)
        rw [if_pos rfl]
      · rw [upF_n _ _ hjk, ← hV j]
        unfold moV
        split
        · rfl
        · rfl
        · show _ = Value.ref (if j = k then a else q j)
          rw [if_neg hjk]
    rw [this]
  · rw [pm_up_ne _ _ hbm]
    by_cases hba2 : b = a
    · subst hba2
      rw [moM_o ham haq, pm_up_self]
      have h := moM_q (R := pm_up R (q k) (moA s k)) (s := s') hQ hk
      rw [show moQu q k b k = b from if_pos rfl] at h
      rw [h, hE]
    · by_cases hbk : b = q k
      · subst hbk
        rw [moM_q hq hk, moM_o hbm, pm_up_self]
        intro j hj h
        by_cases hjk : j = k
        · subst hjk
          rw [show moQu q j a j = a from if_pos rfl] at h
          exact haq j hj h.symm
        · rw [show moQu q k a j = q j from if_neg hjk] at h
          exact hjk ((hq.2 k hk).2.2 j hj h)
      · by_cases hw : ∃ j ∈ moAr, q j = b
        · obtain ⟨j, hj, rfl⟩ := hw
          have hjk : j ≠ k := fun z => hbk (by rw [z])
          rw [moM_q hq hj]
          have h := moM_q (R := pm_up R (q k) (moA s k)) (s := s') hQ hj
          rw [show moQu q k a j = q j from if_neg hjk] at h
          rw [h, hO j hjk]
        · have h1 : ∀ j ∈ moAr, q j ≠ b := fun j hj z => hw ⟨j, hj, z⟩
          rw [moM_o hbm h1, moM_o hbm, pm_up_ne _ _ hba2, pm_up_ne _ _ hbk]
          intro j hj z
          by_cases hjk : j = k
          · subst hjk
            rw [show moQu q j a j = a from if_pos rfl] at z
            exact hba2 z.symm
          · rw [show moQu q k a j = q j from if_neg hjk] at z
            exact h1 j hj z
end MoRe
/-- the draft says d -/
def vDr (s : moS) (d : List Int32) : Prop := s.S 8 = nI d.length ∧ d.length ≤ s.N 7 ∧ 16 ≤ s.N 7 ∧ s.N 7 ≤ 1000000 ∧ ∀ i, i < d.length → s.I 7 i = d.getD i 0
/-- what a writing leaves: all but the draft as it was; what was there stays; the room that is left -/
def grD (R : pmM) (q : Nat → Nat) (s : moS) (kc ks : Nat) (R' : pmM) (q' : Nat → Nat) (s' : moS) (kc' ks' : Nat) : Prop := (∀ a, R a ≠ none → R' a = R a) ∧ (∀ j, j ≠ 7 → q' j = q j) ∧ (∀ j, j ≠ 8 → s'.S j = s.S j) ∧ s'.Z = s.Z ∧ (∀ j, j ≠ 7 → s'.I j = s.I j) ∧ s'.J = s.J ∧ (∀ j, j ≠ 7 → s'.N j = s.N j) ∧ s.N 7 ≤ s'.N 7 ∧ 16 * kc + s.N 7 ≤ 16 * kc' + s'.N 7 ∧ ks + 2 * s.N 7 ≤ ks' + 2 * s'.N 7
/-- the rest doesn't show the model's own cells -/
def moD (R : pmM) (m : Nat) (q : Nat → Nat) : Prop := R m = none ∧ ∀ k ∈ moAr, R (q k) = none
theorem grD_rf {R : pmM} {q : Nat → Nat} {s : moS} {kc ks : Nat} : grD R q s kc ks R q s kc ks := ⟨fun _ _ => rfl, fun _ _ => rfl, fun _ _ => rfl, rfl, fun _ _ => rfl, rfl, fun _ _ => rfl, Nat.le_refl _, Nat.le_refl _, Nat.le_refl _⟩
theorem grD_tr {R R1 R2 : pmM} {q q1 q2 : Nat → Nat} {s s1 s2 : moS} {kc ks kc1 ks1 kc2 ks2 : Nat} (h : grD R q s kc ks R1 q1 s1 kc1 ks1) (g : grD R1 q1 s1 kc1 ks1 R2 q2 s2 kc2 ks2) : grD R q s kc ks R2 q2 s2 kc2 ks2 := by
  obtain ⟨a1, a2, a3, a4, a5, a6, a7, a8, a9, a10⟩ := h
  obtain ⟨b1, b2, b3, b4, b5, b6, b7, b8, b9, b10⟩ := g
  refine ⟨fun a ha => ?_, fun j hj => (b2 j hj).trans (a2 j hj), fun j hj => (b3 j hj).trans (a3 j hj), b4.trans a4, fun j hj => (b5 j hj).trans (a5 j hj), b6.trans a6, fun j hj => (b7 j hj).trans (a7 j hj), by omega, by omega, by omega⟩
  rw [b1 a (by rw [a1 a ha]; exact ha), a1 a ha]
/-- room for a draft of B numbers -/
def budD (B kc ks N : Nat) : Prop := B + 16 ≤ 16 * kc + N ∧ 4 * B ≤ ks + 2 * N ∧ B ≤ 200000
theorem budD_tr {R R1 : pmM} {q q1 : Nat → Nat} {s s1 : moS} {B kc ks kc1 ks1 : Nat} (h : budD B kc ks (s.N 7)) (g : grD R q s kc ks R1 q1 s1 kc1 ks1) : budD B kc1 ks1 (s1.N 7) := by
  obtain ⟨b1, b2, b3⟩ := h
  obtain ⟨-, -, -, -, -, -, -, -, g1, g2⟩ := g
  exact ⟨by omega, by omega, b3⟩
set_option maxRecDepth 100000 in
set_option maxHeartbeats 4000000 in
/-- say: a number behind the draft -/
theorem m_say (base : Nat) (sa : Nat → Nat) {R : pmM} {m B : Nat} {q : Nat → Nat} {s : moS} {d : List Int32} {c : Int32} {Rt : pmR} {kc ks : Nat} (hq : moQ base m q) (hD : moD R m q) (hv : vDr s d) (hB : d.length < B) (hb : budD B kc ks (s.N 7))
    (k : ∀ (R' : pmM) (q' : Nat → Nat) (s' : moS) (kc' ks' : Nat), moQ base m q' → moD R' m q' → vDr s' (d ++ [c]) → grD R q s kc ks R' q' s' kc' ks' → Rt none (moM R' m q' s') kc' ks') : kP_Mo_say base sa [.ref m, .int c] (moM R m q s) kc ks Rt := by
  obtain ⟨v1, v2, v3, v4, v5⟩ := hv
  obtain ⟨b1, b2, b3⟩ := hb
  refine ⟨Nat.le_of_ble_eq_true rfl, fun G hG => ?_⟩
  have tail : ∀ (L : pmL) (R1 : pmM) (q1 : Nat → Nat) (s1 : moS) (kc1 ks1 : Nat), lv_pick L [0, 1] = [(0, .ref m), (1, .int c)] → moQ base m q1 → moD R1 m q1 → grD R q s kc ks R1 q1 s1 kc1 ks1 → s1.S 8 = nI d.length → d.length < s1.N 7 → s1.N 7 ≤ 1000000 → (∀ i, i < d.length → s1.I 7 i = d.getD i 0) → G 51 L [] (moM R1 m q1 s1) kc1 ks1 := by
    intro L R1 q1 s1 kc1 ks1 hL hq1 hD1 hg1 w1 w2 w3 w4
    refine pg_wl hG [0, 1] hL ?_
    refine pgs hG rfl rfl ?_
    refine mo_gr hG rfl rfl rfl rfl ?_
    refine pgs hG rfl rfl ?_
    refine mo_gi hG rfl rfl rfl rfl ?_
    rw [w1]
    refine pgs hG rfl rfl ?_
    refine mo_is hG hq1 (k := 7) rfl rfl rfl (vp_in_nI w2 (by omega)) ?_
    rw [nI_clamp (by omega)]
    refine pgs hG rfl rfl ?_
    refine pgc hG rfl rfl rfl ?_
    refine mo_gi hG rfl rfl rfl rfl ?_
    refine pgs hG rfl rfl ?_
    refine pgs hG rfl rfl ?_
    refine mo_pi hG hq1 rfl rfl rfl rfl ?_
    refine pg_rv hG rfl rfl (k _ _ _ _ _ hq1 hD1 ?_ ?_)
    · refine ⟨?_, ?_, ?_, w3, fun i hi => ?_⟩
      · rw [moSS_s, show (moSI s1 7 d.length c).S 8 = nI d.length from w1, List.length_append, show Int32.ofInt 1 = nI 1 from rfl, nI_add]
        rfl
      · rw [List.length_append]
        show d.length + 1 ≤ s1.N 7
        omega
      · show 16 ≤ s1.N 7
        have := hg1.2.2.2.2.2.2.2.1
        omega
      · show (moSI s1 7 d.length c).I 7 i = _
        rw [moSI_s]
        rw [List.length_append] at hi
        have hi : i < d.length + 1 := hi
        by_cases hid : i = d.length
        · subst hid
          rw [show upd (s1.I 7) d.length c d.length = c from by unfold upd; rw [if_pos rfl]]
          simp
        · rw [show upd (s1.I 7) d.length c i = s1.I 7 i from by unfold upd; rw [if_neg hid], w4 i (by omega)]
          rw [List.getD_eq_getElem?_getD, List.getD_eq_getElem?_getD, List.getElem?_append_left (by omega)]
    · obtain ⟨a1, a2, a3, a4, a5, a6, a7, a8, a9, a10⟩ := hg1
      refine ⟨a1, a2, fun j hj => ?_, a4, fun j hj => ?_, a6, a7, a8, a9, a10⟩
      · rw [moSS_n hj]
        exact a3 j hj
      · show (moSI s1 7 d.length c).I j = _
        rw [moSI_n hj]
        exact a5 j hj
  refine pgs hG rfl rfl ?_
  refine mo_gi hG rfl rfl rfl rfl ?_
  rw [v1]
  refine pgs hG rfl rfl ?_
  refine mo_gr hG rfl rfl rfl rfl ?_
  refine mo_al hG hq (k := 7) rfl rfl rfl ?_
  refine pi_ne hG (t := 51) rfl rfl (fun c9 => ?_) (fun c9 => ?_)
  · have hne : d.length ≠ s.N 7 := fun z => c9 (by rw [z])
    exact tail _ R q s kc ks rfl hq hD grD_rf v1 (by omega) v4 v5
  · have heq : d.length = s.N 7 := (nI_eq (by omega) (by omega)).mp c9
    refine pgs hG rfl rfl ?_
    refine pgs hG rfl rfl ?_
    refine mo_gi hG rfl rfl rfl rfl ?_
    rw [v1]
    refine pgs hG rfl rfl ?_
    rw [show Int32.ofInt 2 = nI 2 from rfl, pk_mul]
    refine pg_nar hG (n := 2 * d.length) rfl rfl (by omega) (by omega) (by omega) (fun a ha hba => ?_)
    obtain ⟨am, aq, aR⟩ := moM_fr hq ha
    rw [moM_R am aq]
    refine pgc hG rfl rfl (Nat.le_of_ble_eq_true rfl) ?_
    refine pgs hG rfl rfl ?_
    refine pgc hG rfl rfl (Nat.le_of_ble_eq_true rfl) ?_
    have hxa : ∀ f : Nat → Int32, moM (pm_up R a (.inl (.int, 2 * d.length, .inl f))) m q s a = some (.inl (.int, 2 * d.length, .inl f)) := fun f => by rw [moM_o am aq, pm_up_self]
    have loop : ∀ (r i : Nat) (f : Nat → Int32), i + r = d.length → (∀ j, j < i → f j = d.getD j 0) → G 23 [(3, .int (nI i)), (2, .ref a), (0, .ref m), (1, .int c)] [] (moM (pm_up R a (.inl (.int, 2 * d.length, .inl f))) m q s) (kc - 1) (ks - 2 * d.length) := by
      intro r
      induction r with
      | zero =>
        intro i f hi hf
        refine pgs hG rfl rfl ?_
        refine pgs hG rfl rfl ?_
        refine mo_gi hG rfl rfl rfl rfl ?_
        rw [v1]
        refine pi_ge hG (t := 46) rfl rfl (fun _ => ?_) (fun c => absurd (nI_le (by omega) (by omega)) c)
        refine pgs hG rfl rfl ?_
        refine pgs hG rfl rfl ?_
        refine pg_pm hG (k := 7) (v := .ref a) rfl rfl moM_m hq.1 rfl rfl rfl ?_
        have hmem : 7 ∈ moAr := mo_mem rfl rfl
        obtain ⟨hQ, hpic⟩ := moM_re (R := R) (s := s) (s' := (s.1, s.2.1, (fun j => if j = 7 then f else s.I j), s.2.2.2.1, fun j => if j = 7 then 2 * d.length else s.N j)) (e := .inl (.int, 2 * d.length, .inl f)) hq hmem hba am aq rfl (fun j hj => by
          unfold moA
          have e1 : (if j = 7 then f else s.I j) = s.I j := if_neg hj
          have e2 : (if j = 7 then 2 * d.length else s.N j) = s.N j := if_neg hj
          split
          · show (Sum.inl (FieldType.int, (if j = 7 then 2 * d.length else s.N j), Sum.inl (if j = 7 then f else s.I j)) : pmE) = _
            rw [e1, e2]
          · show (Sum.inl (FieldType.boolean, (if j = 7 then 2 * d.length else s.N j), Sum.inl (if j = 7 then f else s.I j)) : pmE) = _
            rw [e1, e2]
          · show (Sum.inl (FieldType.long, (if j = 7 then 2 * d.length else s.N j), Sum.inr (Sum.inl (s.J j))) : pmE) = _
            rw [e2]) (fun j => rfl)
        rw [hpic]
        refine pg_wl hG [2, 3] (L' := [(0, .ref m), (1, .int c)]) rfl ?_
        refine tail _ _ _ _ _ _ rfl hQ ⟨?_, fun j hj => ?_⟩ ⟨fun b hb => ?_, fun j hj => if_neg hj, fun j hj => rfl, rfl, fun j hj => if_neg hj, rfl, fun j hj => if_neg hj, ?_, ?_, ?_⟩ v1 ?_ ?_ (fun j hj => ?_)
        · rw [pm_up_ne _ _ (Ne.symm (hq.2 7 hmem).2.1)]
          exact hD.1
        · by_cases hj7 : j = 7
          · subst hj7
            rw [show moQu q 7 a 7 = a from if_pos rfl, pm_up_ne _ _ (Ne.symm (aq 7 hmem))]
            exact aR
          · rw [show moQu q 7 a j = q j from if_neg hj7, pm_up_ne _ _ (fun z => hj7 ((hq.2 7 hmem).2.2 j hj z))]
            exact hD.2 j hj
        · rw [pm_up_ne _ _ (fun z => hb (by rw [z]; exact hD.2 7 hmem))]
        · show s.N 7 ≤ (if 7 = 7 then 2 * d.length else s.N 7)
          rw [if_pos rfl]
          omega
        · show 16 * kc + s.N 7 ≤ 16 * (kc - 1) + (if 7 = 7 then 2 * d.length else s.N 7)
          rw [if_pos rfl]
          omega
        · show ks + 2 * s.N 7 ≤ ks - 2 * d.length + 2 * (if 7 = 7 then 2 * d.length else s.N 7)
          rw [if_pos rfl]
          omega
        · show d.length < (if 7 = 7 then 2 * d.length else s.N 7)
          rw [if_pos rfl]
          omega
        · show (if 7 = 7 then 2 * d.length else s.N 7) ≤ 1000000
          rw [if_pos rfl]
          omega
        · show (if 7 = 7 then f else s.I 7) j = _
          rw [if_pos rfl]
          exact hf j (by omega)
      | succ r ih =>
        intro i f hi hf
        refine pgs hG rfl rfl ?_
        refine pgs hG rfl rfl ?_
        refine mo_gi hG rfl rfl rfl rfl ?_
        rw [v1]
        refine pi_ge hG (t := 46) rfl rfl (fun c => absurd c (nI_ge (by omega) (by omega))) (fun _ => ?_)
        refine pgs hG rfl rfl ?_
        refine pgs hG rfl rfl ?_
        refine pgs hG rfl rfl ?_
        refine mo_gr hG rfl rfl rfl rfl ?_
        refine pgs hG rfl rfl ?_
        refine mo_ia hG hq (k := 7) rfl rfl rfl (vp_in_nI (by omega) (by omega)) ?_
        rw [nI_clamp (by omega), v5 i (by omega)]
        refine pg_is hG rfl (hxa f) hba (vp_in_nI (by omega) (by omega)) ?_
        rw [nI_clamp (by omega), moM_R am aq, pm_uu]
        refine pgc hG rfl rfl (Nat.le_of_ble_eq_true rfl) ?_
        refine pg_go hG (t := 23) rfl rfl ?_
        have h := ih (i + 1) (upd f i (d.getD i 0)) (by omega) (fun j hj => by
          unfold upd
          by_cases hji : j = i
          · rw [if_pos hji, hji]
          · rw [if_neg hji]
            exact hf j (by omega))
        rw [nI_succ] at h
        exact h
    exact loop d.length 0 (fun _ => 0) (by omega) (fun j hj => by omega)
