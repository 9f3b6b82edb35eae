/-! Constructors: what is written stays one picture: the object outermost. -/
theorem pm_uu (M : pmM) (a : Nat) (e e' : pmE) : pm_up (pm_up M a e) a e' = pm_up M a e' := by
  funext b
  unfold pm_up
  split <;> rfl
theorem pm_co (M : pmM) {a b : Nat} (h : a ≠ b) (e e' : pmE) : pm_up (pm_up M a e) b e' = pm_up (pm_up M b e') a e := by
  funext c
  unfold pm_up
  by_cases h1 : c = a
  · subst h1
    rw [if_neg h, if_pos rfl, if_pos rfl]
  · by_cases h2 : c = b
    · subst h2
      rw [if_pos rfl, if_neg h1, if_pos rfl]
    · rw [if_neg h2, if_neg h1, if_neg h1, if_neg h2]
theorem pm_sf {M : pmM} {a : Nat} {e : pmE} (h : M a = some e) : pm_up M a e = M := by
  funext b
  unfold pm_up
  split
  · rename_i hb; rw [hb, h]
  · rfl
theorem pm_fr {M : pmM} {a q : Nat} {e : pmE} (h : pm_up M a e q = none) : q ≠ a ∧ M q = none := by
  unfold pm_up at h
  split at h
  · cases h
  · exact ⟨by assumption, h⟩
section MkRows
variable {cl : List vw_C} {base : Nat} {X : pmX} {Rt : pmR} {G : pmK} {pc : Nat} {L : pmL} {st : List Value} {M : pmM} {kc ks : Nat}
theorem pg_pw (hG : pm_cl cl base X Rt G) {i ci k a : Nat} {ty : FieldType} {fs : List Value} {v : Value} (hc : X.code pc = some (.putfield i)) (hf : X.fld i = some (ci, k, ty, true)) (hb : base ≤ a) (hk : k < fs.length) (hn : narrow ty v = v) (hfit : fits ty v = true) (h : G (pc + 3) L st (pm_up M a (.inr (ci, fs.set k v))) kc ks) : G pc L (v :: .ref a :: st) (pm_up M a (.inr (ci, fs))) kc ks := by
  refine pg_pf hG hc hf (pm_up_self _ _ _) hb hk hn hfit ?_
  rw [pm_uu]
  exact h
theorem pg_pv (hG : pm_cl cl base X Rt G) {i ci k a : Nat} {ty : FieldType} {fs fs' : List Value} {v : Value} (hc : X.code pc = some (.putfield i)) (hf : X.fld i = some (ci, k, ty, true)) (hb : base ≤ a) (hk : k < fs.length) (hn : narrow ty v = v) (hfit : fits ty v = true) (hs : fs.set k v = fs') (h : G (pc + 3) L st (pm_up M a (.inr (ci, fs'))) kc ks) : G pc L (v :: .ref a :: st) (pm_up M a (.inr (ci, fs))) kc ks := by
  subst hs
  exact pg_pw hG hc hf hb hk hn hfit h
/-- a state written out -/
theorem pg_nf {pc' kc' ks' : Nat} {st' : List Value} (e : pc' = pc) (es : st' = st) (e1 : kc' = kc) (e2 : ks' = ks) (h : G pc' L st' M kc' ks') : G pc L st M kc ks := by
  subst e
  subst es
  subst e1
  subst e2
  exact h
end MkRows
set_option maxRecDepth 100000 in
theorem s_Pr_init (base : Nat) (sa : Nat → Nat) {b : Nat} {M : pmM} {Rt : pmR} {v0 v1 v2 v3 : Value} {kc ks : Nat} (hbb : base ≤ b) (k : Rt none (pm_up M b (.inr (5, [.int 4, .long 0, .long 0, .int 0]))) kc ks) : kP_Pr_init base sa [.ref b] (pm_up M b (.inr (5, [v0, v1, v2, v3]))) kc ks Rt := by
  refine ⟨Nat.le_of_ble_eq_true rfl, fun G hG => ?_⟩
  refine pgs hG rfl rfl ?_
  refine pg_cal hG 1 rfl rfl (Nat.le_of_ble_eq_true rfl) (by decide) (Nat.le_of_ble_eq_true rfl) ⟨b, rfl, ?_⟩
  refine pgs hG rfl rfl ?_
  refine pgs hG rfl rfl ?_
  refine pg_pw hG rfl rfl hbb (Nat.le_of_ble_eq_true rfl) rfl rfl ?_
  refine pgs hG rfl rfl ?_
  refine pgs hG rfl rfl ?_
  refine pg_pw hG rfl rfl hbb (Nat.le_of_ble_eq_true rfl) rfl rfl ?_
  refine pgs hG rfl rfl ?_
  refine pgs hG rfl rfl ?_
  refine pg_pw hG rfl rfl hbb (Nat.le_of_ble_eq_true rfl) rfl rfl ?_
  refine pgs hG rfl rfl ?_
  refine pgs hG rfl rfl ?_
  refine pg_pw hG rfl rfl hbb (Nat.le_of_ble_eq_true rfl) rfl rfl ?_
  exact pg_rv hG rfl rfl k
set_option maxRecDepth 100000 in
theorem s_Ta_init (base : Nat) (sa : Nat → Nat) {b : Nat} {M : pmM} {Rt : pmR} {v0 v1 : Value} {kc ks : Nat} (hbb : base ≤ b) (h1 : 1 ≤ kc) (h2 : 16 ≤ ks) (k : ∀ q, q ≠ b → M q = none → base ≤ q → Rt none (pm_up (pm_up M q (.inl (.object "RoutingField$Route", 16, .inr (.inr (.inr (.inr fun _ => none)))))) b (.inr (10, [.ref q, .int 0]))) (kc - 1) (ks - 16)) : kP_Ta_init base sa [.ref b] (pm_up M b (.inr (10, [v0, v1]))) kc ks Rt := by
  refine ⟨Nat.le_of_ble_eq_true rfl, fun G hG => ?_⟩
  refine pgs hG rfl rfl ?_
  refine pg_cal hG 1 rfl rfl (Nat.le_of_ble_eq_true rfl) (by decide) (Nat.le_of_ble_eq_true rfl) ⟨b, rfl, ?_⟩
  refine pgs hG rfl rfl ?_
  refine pgs hG rfl rfl ?_
  refine pg_naq hG (n := 16) rfl rfl (by decide) h1 h2 (fun q hq hbq => ?_)
  obtain ⟨hqb, hq⟩ := pm_fr hq
  rw [pm_co M hqb.symm]
  refine pg_pw hG rfl rfl hbb (Nat.le_of_ble_eq_true rfl) rfl rfl ?_
  refine pgs hG rfl rfl ?_
  refine pgs hG rfl rfl ?_
  refine pg_pw hG rfl rfl hbb (Nat.le_of_ble_eq_true rfl) rfl rfl ?_
  exact pg_rv hG rfl rfl (k q hqb hq hbq)
set_option maxRecDepth 100000 in
theorem s_By_make (base : Nat) (sa : Nat → Nat) {b n : Nat} {M : pmM} {Rt : pmR} {v0 v1 : Value} {kc ks : Nat} (hbb : base ≤ b) (h16 : 16 ≤ n) (hn : n ≤ 4000000) (h1 : 1 ≤ kc) (h2 : n ≤ ks) (k : ∀ q, q ≠ b → M q = none → base ≤ q → Rt none (pm_up (pm_up M q (.inl (.byte, n, .inl fun _ => 0))) b (.inr (0, [.ref q, .int 0]))) (kc - 1) (ks - n)) : kP_By_init base sa [.ref b, .int (nI n)] (pm_up M b (.inr (0, [v0, v1]))) kc ks Rt := by
  refine s_By_init base sa (pm_up_self _ _ _) hbb h16 hn h1 h2 (fun q hq hbq => ?_)
  obtain ⟨hqb, hq⟩ := pm_fr hq
  rw [pm_uu, pm_co M hqb.symm, pm_uu]
  exact k q hqb hq hbq
/-- what a new datagram is: itself, its bytes and their array, two prefixes -/
def daF (q1 q3 q4 : Nat) : List Value := [.ref q1, .ref q3, .ref q4, .int 1, .int 4, .int 0, .int 0, .null, .null, .int 0, .int 4, .int 4]
def daM (M : pmM) (b q1 q2 q3 q4 : Nat) : pmM := pm_up (pm_up (pm_up (pm_up (pm_up M q2 (.inl (.byte, 600, .inl fun _ => 0))) q1 (.inr (0, [.ref q2, .int 0]))) q3 (.inr (5, [.int 4, .long 0, .long 0, .int 0]))) q4 (.inr (5, [.int 4, .long 0, .long 0, .int 0]))) b (.inr (2, daF q1 q3 q4))
set_option maxRecDepth 100000 in
set_option maxHeartbeats 1000000 in
theorem s_Da_init (base : Nat) (sa : Nat → Nat) {b : Nat} {M : pmM} {Rt : pmR} {kc ks : Nat} (hbb : base ≤ b) (h1 : 4 ≤ kc) (h2 : 610 ≤ ks)
    (k : ∀ q1 q2 q3 q4, base ≤ q1 → base ≤ q2 → base ≤ q3 → base ≤ q4 → M q1 = none → M q2 = none → M q3 = none → M q4 = none → q1 ≠ b → q2 ≠ b → q3 ≠ b → q4 ≠ b → q2 ≠ q1 → q3 ≠ q1 → q3 ≠ q2 → q4 ≠ q1 → q4 ≠ q2 → q4 ≠ q3 → Rt none (daM M b q1 q2 q3 q4) (kc - 4) (ks - 610)) :
    kP_Da_init base sa [.ref b] (pm_up M b (.inr (2, [.null, .null, .null, .int 0, .int 0, .int 0, .int 0, .null, .null, .int 0, .int 0, .int 0]))) kc ks Rt := by
  refine ⟨Nat.le_of_ble_eq_true rfl, fun G hG => ?_⟩
  refine pgs hG rfl rfl ?_
  refine pg_cal hG 1 rfl rfl (Nat.le_of_ble_eq_true rfl) (by decide) (Nat.le_of_ble_eq_true rfl) ⟨b, rfl, ?_⟩
  refine pgs hG rfl rfl ?_
  refine pg_new hG rfl rfl (by omega) (Nat.le_trans (Nat.le_of_ble_eq_true rfl) h2) (fun q1 hq1 hb1 => ?_)
  obtain ⟨n1, hq1⟩ := pm_fr hq1
  refine pgc hG rfl rfl rfl ?_
  refine pgs hG rfl rfl ?_
  refine pg_cal hG 1 rfl rfl (Nat.le_of_ble_eq_true rfl) (by decide) (Nat.le_of_ble_eq_true rfl) ?_
  refine pm_rcv_of (As' := [.int (nI 600)]) (pm_up_self _ _ _) (s_By_make base sa (n := 600) hb1 (by decide) (by decide) (by omega) (by show 600 ≤ ks - 2; omega) (fun q2 n2 hq2 hb2 => ?_))
  obtain ⟨n3, hq2⟩ := pm_fr hq2
  rw [pm_co M n3.symm, pm_co _ n1.symm]
  refine pg_pw hG rfl rfl hbb (Nat.le_of_ble_eq_true rfl) rfl rfl ?_
  refine pgs hG rfl rfl ?_
  refine pg_new hG rfl rfl (by omega) (by show 4 ≤ ks - 2 - 600; omega) (fun q3 hq3 hb3 => ?_)
  obtain ⟨n4, hq3⟩ := pm_fr hq3
  obtain ⟨n5, hq3⟩ := pm_fr hq3
  obtain ⟨n6, hq3⟩ := pm_fr hq3
  refine pgc hG rfl rfl rfl ?_
  refine pg_cal hG 1 rfl rfl (Nat.le_of_ble_eq_true rfl) (by decide) (Nat.le_of_ble_eq_true rfl) ?_
  refine pm_rcv_of (As' := []) (pm_up_self _ _ _) (s_Pr_init base sa hb3 ?_)
  rw [pm_co _ n4.symm]
  refine pg_pw hG rfl rfl hbb (Nat.le_of_ble_eq_true rfl) rfl rfl ?_
  refine pgs hG rfl rfl ?_
  refine pg_new hG rfl rfl (by omega) (by show 4 ≤ ks - 2 - 600 - 4; omega) (fun q4 hq4 hb4 => ?_)
  obtain ⟨n7, hq4⟩ := pm_fr hq4
  obtain ⟨n8, hq4⟩ := pm_fr hq4
  obtain ⟨n9, hq4⟩ := pm_fr hq4
  obtain ⟨n10, hq4⟩ := pm_fr hq4
  refine pgc hG rfl rfl rfl ?_
  refine pg_cal hG 1 rfl rfl (Nat.le_of_ble_eq_true rfl) (by decide) (Nat.le_of_ble_eq_true rfl) ?_
  refine pm_rcv_of (As' := []) (pm_up_self _ _ _) (s_Pr_init base sa hb4 ?_)
  rw [pm_co _ n7.symm]
  refine pg_pw hG rfl rfl hbb (Nat.le_of_ble_eq_true rfl) rfl rfl ?_
  refine pgs hG rfl rfl ?_
  refine pgs hG rfl rfl ?_
  refine pg_pw hG rfl rfl hbb (Nat.le_of_ble_eq_true rfl) rfl rfl ?_
  refine pgs hG rfl rfl ?_
  refine pgs hG rfl rfl ?_
  refine pg_pw hG rfl rfl hbb (Nat.le_of_ble_eq_true rfl) rfl rfl ?_
  refine pgs hG rfl rfl ?_
  refine pgs hG rfl rfl ?_
  refine pg_pw hG rfl rfl hbb (Nat.le_of_ble_eq_true rfl) rfl rfl ?_
  refine pgs hG rfl rfl ?_
  refine pgs hG rfl rfl ?_
  refine pg_pw hG rfl rfl hbb (Nat.le_of_ble_eq_true rfl) rfl rfl ?_
  refine pgs hG rfl rfl ?_
  refine pgs hG rfl rfl ?_
  refine pg_pw hG rfl rfl hbb (Nat.le_of_ble_eq_true rfl) rfl rfl ?_
  refine pgs hG rfl rfl ?_
  refine pgs hG rfl rfl ?_
  refine pg_pw hG rfl rfl hbb (Nat.le_of_ble_eq_true rfl) rfl rfl ?_
  refine pgs hG rfl rfl ?_
  refine pgs hG rfl rfl ?_
  refine pg_pw hG rfl rfl hbb (Nat.le_of_ble_eq_true rfl) rfl rfl ?_
  refine pgs hG rfl rfl ?_
  refine pgs hG rfl rfl ?_
  refine pg_pw hG rfl rfl hbb (Nat.le_of_ble_eq_true rfl) rfl rfl ?_
  refine pgs hG rfl rfl ?_
  refine pgs hG rfl rfl ?_
  refine pg_pw hG rfl rfl hbb (Nat.le_of_ble_eq_true rfl) rfl rfl ?_
  refine pg_rv hG rfl rfl ?_
  have e1 : kc - 1 - 1 - 1 - 1 = kc - 4 := by omega
  have e2 : ks - 2 - 600 - 4 - 4 = ks - 610 := by omega
  have r := k q1 q2 q3 q4 hb1 hb2 hb3 hb4 hq1 hq2 hq3 hq4 n1 n3 n4 n7 n2 n5 n6 n9 n10 n8
  rw [← e1, ← e2] at r
  exact r
