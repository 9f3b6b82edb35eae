/-! The model's methods that grow, by hand. -/
abbrev rem_I (x y : Int32) : Int32 := x - x / y * y
abbrev rem_L (x y : Int64) : Int64 := x - x / y * y
abbrev ush_I (x y : Int32) : Int32 := (x.toUInt32 >>> (y.toUInt32 &&& Int32.toUInt32 31)).toInt32
abbrev ush_L (x : Int64) (y : Int32) : Int64 := (x.toUInt64 >>> (y.toInt64.toUInt64 &&& Int64.toUInt64 63)).toInt64
theorem jj_ts {cl : List vw_C} {base : Nat} {X : pmX} {Rt : pmR} {G : pmK} {pc : Nat} {L : pmL} {st : List Value} {R : pmM} {m : Nat} {q : Nat → Nat} {s : moS} {kc ks : Nat} {C : Nat × Nat} {β : Type} {D e0 z : β} {es : List β} (hG : pm_cl cl base X Rt G) {d lo hi : Int} {offs : Array Int} {x : Int32} {td n : Nat} {dc : Decidable (x.toInt < lo ∨ hi < x.toInt)} (hc : X.code pc = some (.tableswitch d lo hi offs)) (hd : ((pc : Int) + d = (td : Int))) (hn : hi - lo < n) (a : JJ C R base m G td L st q s kc ks D z) (b : ∀ j, j < n → ∃ (off : Int) (t : Nat), offs[j]? = some off ∧ ((pc : Int) + off = (t : Int)) ∧ JJ C R base m G t L st q s kc ks (es.getD j e0) z) : JJ C R base m G pc L (.int x :: st) q s kc ks (@ite _ (x.toInt < lo ∨ hi < x.toInt) dc D (es.getD (x.toInt - lo).toNat e0)) z := fun hw h => by
  refine pg hG hc ⟨fun c => ?_, fun c1 c2 => ?_⟩
  · rw [if_pos c] at h
    refine ⟨by unfold pm_jok; omega, ?_⟩
    have e : pm_tgt pc d = td := by unfold pm_tgt; rw [hd]; rfl
    rw [e]
    exact a hw h
  · rw [if_neg (fun w => w.elim c1 c2)] at h
    obtain ⟨off, t, h1, h2, h3⟩ := b (x.toInt - lo).toNat (by omega)
    rw [h1]
    refine ⟨by unfold pm_jok; omega, ?_⟩
    have e : pm_tgt pc off = t := by unfold pm_tgt; rw [h2]; rfl
    rw [e]
    exact h3 hw h
theorem moM_le {R R' : pmM} {m : Nat} {q : Nat → Nat} {s : moS} (h : pm_le R R') : pm_le (moM R m q s) (moM R' m q s) := by
  intro a e he
  unfold moM at he ⊢
  split at he
  · rename_i hm
    rw [if_pos hm]
    exact he
  · rename_i hm
    rw [if_neg hm]
    cases hf : moAr.find? (fun k => q k == a) with
    | none => rw [hf] at he; exact h a e he
    | some k => rw [hf] at he; exact he
theorem pm_le_up {R R' : pmM} {a : Nat} {e : pmE} (h : pm_le R R') (ha : R a = none) : pm_le R (pm_up R' a e) := by
  intro b c hb
  have hne : b ≠ a := fun z => by rw [z, ha] at hb; cases hb
  rw [pm_up_ne _ _ hne]
  exact h b c hb
theorem pm_up_id {M : pmM} {a : Nat} {e : pmE} (h : M a = some e) : pm_up M a e = M := by
  funext b
  by_cases hb : b = a
  · subst hb; rw [pm_up_self, h]
  · rw [pm_up_ne _ _ hb]
def mgD (t : moS) (n : Nat) : moS := if n = t.N 7 then (t.1, t.2.1, (fun j => if j = 7 then (fun i => if i < n then t.I 7 i else 0) else t.I j), t.2.2.2.1, fun j => if j = 7 then 2 * n else t.N j) else t
/-- a number behind the draft -/
def M_say (t : moS) (c : Int32) : Option moS := if t.S 8 < 0 ∨ t.N 7 < (t.S 8).toNatClampNeg ∨ 160000 ≤ (t.S 8).toNatClampNeg then none else some (moSS (moSI (mgD t (t.S 8).toNatClampNeg) 7 (t.S 8).toNatClampNeg c) 8 (t.S 8 + 1))
set_option maxRecDepth 100000 in
set_option maxHeartbeats 4000000 in
theorem k_say (base : Nat) (sa : Nat → Nat) {C : Nat × Nat} {R : pmM} {m : Nat} {q : Nat → Nat} {t tz : moS} {kc ks : Nat} {Rt : pmR} {p1 : Int32} (hw : mW C R base m q t kc ks) (h : M_say t p1 = some tz) (k : ∀ (q' : Nat → Nat) (kc' ks' : Nat), mW C R base m q' tz kc' ks' → Rt none (moM R m q' tz) kc' ks') : kP_Mo_say base sa [.ref m, .int p1] (moM R m q t) kc ks Rt := by
  have hw0 := hw
  obtain ⟨hq, hD, w1, w2, ⟨w3, w4⟩, ⟨w5, w6⟩, ⟨w7, w8, w9, w10⟩, w11, w12⟩ := hw
  unfold M_say at h
  split at h
  · cases h
  rename_i hc
  injection h with h
  have h0 : ¬ t.S 8 < 0 := fun z => hc (Or.inl z)
  obtain ⟨n, hn, en⟩ := nI_of h0
  have en : t.S 8 = nI n := en
  have ecl : (t.S 8).toNatClampNeg = n := by rw [en, nI_clamp hn]
  rw [ecl] at hc h
  have h1 : n ≤ t.N 7 := Nat.le_of_not_lt fun z => hc (Or.inr (Or.inl z))
  have h2 : n < 160000 := Nat.lt_of_not_le fun z => hc (Or.inr (Or.inr z))
  refine ⟨Nat.le_of_ble_eq_true rfl, fun G hG => ?_⟩
  have e8 : (mgD t n).S 8 = nI n := by
    unfold mgD
    split
    · exact en
    · exact en
  have tail : ∀ (L : pmL) (q1 : Nat → Nat) (kc1 ks1 : Nat), lv_pick L [0, 1] = [(0, .ref m), (1, .int p1)] → mW C R base m q1 (mgD t n) kc1 ks1 → n < (mgD t n).N 7 → G 51 L [] (moM R m q1 (mgD t n)) kc1 ks1 := by
    intro L q1 kc1 ks1 hL hw1 w
    have hN : (mgD t n).N 7 ≤ 320000 := hw1.2.2.2.2.1.2
    refine pg_wl hG [0, 1] hL ?_
    refine pgs hG rfl rfl ?_
    refine mo_gr hG rfl rfl rfl rfl ?_
    refine pgs hG rfl rfl ?_
    refine mo_gi hG (k := 8) rfl rfl rfl rfl ?_
    rw [e8]
    refine pgs hG rfl rfl ?_
    refine mo_is hG hw1.1 (k := 7) rfl rfl rfl (vp_in_nI w (by omega)) ?_
    rw [nI_clamp (by omega)]
    refine pgs hG rfl rfl ?_
    refine pgc hG rfl rfl rfl ?_
    refine mo_gi hG (k := 8) rfl rfl rfl rfl ?_
    refine pgs hG rfl rfl ?_
    refine pgs hG rfl rfl ?_
    refine mo_pi hG hw1.1 rfl rfl rfl rfl ?_
    refine pg_rv hG rfl rfl ?_
    have ez : moSS (moSI (mgD t n) 7 n p1) 8 ((moSI (mgD t n) 7 n p1).S 8 + Int32.ofInt 1) = tz := by
      rw [← h, en]
      show moSS _ 8 ((mgD t n).S 8 + Int32.ofInt 1) = _
      rw [e8]
      rfl
    rw [ez]
    exact k _ _ _ (by rw [← ez]; exact hw1)
  refine pgs hG rfl rfl ?_
  refine mo_gi hG (k := 8) rfl rfl rfl rfl ?_
  rw [en]
  refine pgs hG rfl rfl ?_
  refine mo_gr hG rfl rfl rfl rfl ?_
  refine mo_al hG hq (k := 7) rfl rfl rfl ?_
  refine pi_ne hG (t := 51) rfl rfl (fun c9 => ?_) (fun c9 => ?_)
  · have hne : n ≠ t.N 7 := fun z => c9 (by rw [z])
    have eg : mgD t n = t := if_neg hne
    have := tail [(0, .ref m), (1, .int p1)] q kc ks rfl (by rw [eg]; exact hw0) (by rw [eg]; omega)
    rw [eg] at this
    exact this
  · have heq : n = t.N 7 := (nI_eq (by omega) (by omega)).mp c9
    refine pgs hG rfl rfl ?_
    refine pgs hG rfl rfl ?_
    refine mo_gi hG (k := 8) rfl rfl rfl rfl ?_
    rw [en]
    refine pgs hG rfl rfl ?_
    rw [show Int32.ofInt 2 = nI 2 from rfl, pk_mul]
    refine pg_nar hG (n := 2 * n) rfl rfl (by omega) (by omega) (by omega) (fun a ha hba => ?_)
    obtain ⟨am, aq, aR⟩ := moM_fr hq ha
    rw [moM_R am aq]
    refine pgc hG rfl rfl (Nat.le_of_ble_eq_true rfl) ?_
    refine pgs hG rfl rfl ?_
    refine pgc hG rfl rfl (Nat.le_of_ble_eq_true rfl) ?_
    have hxa : ∀ f : Nat → Int32, moM (pm_up R a (.inl (.int, 2 * n, .inl f))) m q t a = some (.inl (.int, 2 * n, .inl f)) := fun f => by rw [moM_o am aq, pm_up_self]
    have loop : ∀ (r i : Nat) (f : Nat → Int32), i + r = n → (∀ j, j < i → f j = t.I 7 j) → (∀ j, i ≤ j → f j = 0) → G 23 [(3, .int (nI i)), (2, .ref a), (0, .ref m), (1, .int p1)] [] (moM (pm_up R a (.inl (.int, 2 * n, .inl f))) m q t) (kc - 1) (ks - 2 * n) := by
      intro r
      induction r with
      | zero =>
        intro i f hi hf hz
        have ef : f = fun i => if i < n then t.I 7 i else 0 := by
          funext j
          by_cases hj : j < n
          · rw [if_pos hj, hf j (by omega)]
          · rw [if_neg hj, hz j (by omega)]
        refine pgs hG rfl rfl ?_
        refine pgs hG rfl rfl ?_
        refine mo_gi hG (k := 8) rfl rfl rfl rfl ?_
        rw [en]
        refine pi_ge hG (t := 46) rfl rfl (fun _ => ?_) (fun c => absurd (nI_le (by omega) (by omega)) c)
        refine pgs hG rfl rfl ?_
        refine pgs hG rfl rfl ?_
        refine pg_pm hG (k := 7) (v := .ref a) rfl rfl moM_m hq.1 rfl rfl rfl ?_
        have hmem : 7 ∈ moAr := mo_mem rfl rfl
        have eg : mgD t n = (t.1, t.2.1, (fun j => if j = 7 then f else t.I j), t.2.2.2.1, fun j => if j = 7 then 2 * n else t.N j) := by
          unfold mgD
          rw [if_pos heq, ef]
        obtain ⟨hQ, hpic⟩ := moM_re (R := R) (s := t) (s' := (t.1, t.2.1, (fun j => if j = 7 then f else t.I j), t.2.2.2.1, fun j => if j = 7 then 2 * n else t.N j)) (e := .inl (.int, 2 * n, .inl f)) hq hmem hba am aq rfl (fun j hj => by
          unfold moA
          have e1 : (if j = 7 then f else t.I j) = t.I j := if_neg hj
          have e2 : (if j = 7 then 2 * n else t.N j) = t.N j := if_neg hj
          split
          · show (Sum.inl (FieldType.int, (if j = 7 then 2 * n else t.N j), Sum.inl (if j = 7 then f else t.I j)) : pmE) = _
            rw [e1, e2]
          · show (Sum.inl (FieldType.boolean, (if j = 7 then 2 * n else t.N j), Sum.inl (if j = 7 then f else t.I j)) : pmE) = _
            rw [e1, e2]
          · show (Sum.inl (FieldType.long, (if j = 7 then 2 * n else t.N j), Sum.inr (Sum.inl (t.J j))) : pmE) = _
            rw [e2]) (fun j => rfl)
        rw [hpic, ← eg]
        refine pg_wl hG [2, 3] (L' := [(0, .ref m), (1, .int p1)]) rfl ?_
        refine pg_wm hG (M' := moM R m (moQu q 7 a) (mgD t n)) (moM_le (pm_le_up (fun _ _ h => h) (hD.2 7 hmem))) ?_
        have eN : ∀ j, (mgD t n).N j = if j = 7 then 2 * n else t.N j := fun j => by rw [eg]
        refine tail _ _ _ _ rfl ⟨hQ, ⟨hD.1, fun j hj => ?_⟩, ?_, ?_, ⟨?_, ?_⟩, ⟨?_, ?_⟩, ⟨?_, ?_, ?_, ?_⟩, w11, w12⟩ ?_
        · by_cases hj7 : j = 7
          · subst hj7
            rw [show moQu q 7 a 7 = a from if_pos rfl]
            exact aR
          · rw [show moQu q 7 a j = q j from if_neg hj7]
            exact hD.2 j hj
        · rw [eN 7, eN 5, eN 102, if_pos rfl, if_neg (by decide), if_neg (by decide)]
          omega
        · rw [eN 7, eN 5, eN 102, if_pos rfl, if_neg (by decide), if_neg (by decide)]
          omega
        · rw [eN 7, if_pos rfl]
          omega
        · rw [eN 7, if_pos rfl]
          omega
        · rw [eN 5, if_neg (by decide)]
          omega
        · rw [eN 5, if_neg (by decide)]
          omega
        · rw [eN 102, if_neg (by decide)]
          omega
        · rw [eN 102, if_neg (by decide)]
          omega
        · rw [eN 103, eN 102, if_neg (by decide), if_neg (by decide)]
          omega
        · rw [eN 104, eN 102, if_neg (by decide), if_neg (by decide)]
          omega
        · rw [eN 7, if_pos rfl]
          omega
      | succ r ih =>
        intro i f hi hf hz
        refine pgs hG rfl rfl ?_
        refine pgs hG rfl rfl ?_
        refine mo_gi hG (k := 8) rfl rfl rfl rfl ?_
        rw [en]
        refine pi_ge hG (t := 46) rfl rfl (fun c => absurd c (nI_ge (by omega) (by omega))) (fun _ => ?_)
        refine pgs hG rfl rfl ?_
        refine pgs hG rfl rfl ?_
        refine pgs hG rfl rfl ?_
        refine mo_gr hG rfl rfl rfl rfl ?_
        refine pgs hG rfl rfl ?_
        refine mo_ia hG hq (k := 7) rfl rfl rfl (vp_in_nI (by omega) (by omega)) ?_
        rw [nI_clamp (by omega)]
        refine pg_is hG rfl (hxa f) hba (vp_in_nI (by omega) (by omega)) ?_
        rw [nI_clamp (by omega), moM_R am aq, pm_uu]
        refine pgc hG rfl rfl (Nat.le_of_ble_eq_true rfl) ?_
        refine pg_go hG (t := 23) rfl rfl ?_
        have h := ih (i + 1) (upd f i (t.I 7 i)) (by omega) (fun j hj => by
          unfold upd
          by_cases hji : j = i
          · rw [if_pos hji, hji]
          · rw [if_neg hji]
            exact hf j (by omega)) (fun j hj => by
          unfold upd
          rw [if_neg (by omega)]
          exact hz j (by omega))
        rw [nI_succ] at h
        exact h
    exact loop n 0 (fun _ => 0) (by omega) (fun j hj => by omega) (fun j _ => rfl)
/-- text and draft change places -/
def M_shown (t : moS) : Option (Int32 × moS) := some (t.S 8, moShn t)
theorem k_shown (base : Nat) (sa : Nat → Nat) {C : Nat × Nat} {R : pmM} {m : Nat} {q : Nat → Nat} {t tz : moS} {kc ks : Nat} {Rt : pmR} {r : Int32} (hw : mW C R base m q t kc ks) (h : M_shown t = some (r, tz)) (k : ∀ (q' : Nat → Nat) (kc' ks' : Nat), mW C R base m q' tz kc' ks' → Rt (some (.int r)) (moM R m q' tz) kc' ks') : kP_Mo_shown base sa [.ref m] (moM R m q t) kc ks Rt := by
  obtain ⟨hq, hD, w1, w2, w3, w4, w5, w6, w7⟩ := hw
  unfold M_shown at h
  injection h with h
  injection h with ha hb
  subst ha hb
  refine m_shown base sa hq (k _ _ _ ⟨moQ_w hq, ⟨hD.1, fun j hj => hD.2 _ (moW_mem hj)⟩, ?_, ?_, w4, w3, w5, w6, w7⟩)
  · show C.1 ≤ 4096 * kc + (t.N 5 + t.N 7) + 192 * t.N 102
    omega
  · show C.2 ≤ ks + 2 * (t.N 5 + t.N 7) + 6 * t.N 102
    omega
