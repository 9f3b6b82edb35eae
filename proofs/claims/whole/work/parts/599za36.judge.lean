/-! How a datagram is judged: both sides. -/
def JB (G H : Nat → Nat → Nat) (sa : Nat → Nat) (x : Nat) (E : List (Int32 × Int64)) (s : cS) (t : moS) (q A kc ks : Nat) (s' : cS) (t' : moS) (kc' ks' : Nat) : Prop := (RR G H sa x s' t' ∧ MV t' ∧ SRC E t') ∧ mfr Wop t t' ∧ fr Rjd Pjd [] s s' ∧ hdX H A s s' ∧ (∀ a, okO s 1 a → a ≠ H 86 (G 2 q) → s'.P 28 a = s.P 28 a) ∧ (∀ b, (s.K b).1 = 8 → b ≠ G 2 q → cpZ s' b = cpZ s b) ∧ kc + jdC s' G H q ≤ kc' + jdC s G H q ∧ ks + jdS s' G H q ≤ ks' + jdS s G H q
def JdK (G H : Nat → Nat → Nat) (sa : Nat → Nat) (x : Nat) (E : List (Int32 × Int64)) (s : cS) (t : moS) (r q A kc ks : Nat) (L : List Int32) (f : Nat) (h l : Int64) (o : Option moS) (Q : Int32 → cS → Nat → Nat → Prop) : Prop := (∀ b s' t' kc' ks', (b = 1 ∨ b = 2 ∨ b = 3 ∨ b = 9 ∨ b = 10) → o = Option.bind (M_tally t' (nI r) (nI b) 1) (fun s => some s) → JB G H sa x E s t q A kc ks s' t' kc' ks' → Q (nI b) s' kc' ks') ∧ ∀ i n s' t' kc' ks', o = M_receive_b346 t' (nI q) (nI f) h l (if L.getD 0 0 = 2 then 1 else 0) → JB G H sa x E s t q A kc ks s' t' kc' ks' → (s'.I 50 A = nI i ∧ s'.I 51 A = nI (i + 20 * n)) → (t'.S 162 = nI i ∧ t'.S 163 = nI n) → (i = 4 ∨ i = 24) → i + 20 * n ≤ L.length → (20 * n ≤ 560 ∧ ((mcV t q).1 = 2 → 20 * n ≤ 520)) → (L.getD 0 0 = 1 ∨ L.getD 0 0 = 2) → Q (-1) s' kc' ks'
section Jd
variable {G H : Nat → Nat → Nat} {sa : Nat → Nat} {x r p A kc ks f : Nat} {s : cS} {t : moS} {h l : Int64} {po ho : Int32} {L : List Int32} {E : List (Int32 × Int64)} {Q : Int32 → cS → Nat → Nat → Prop}
theorem JB.rf {q : Nat} (hR : RR G H sa x s t) (hM : MV t) (hS : SRC E t) : JB G H sa x E s t q A kc ks s t kc ks := ⟨⟨hR, hM, hS⟩, mfr.rf, fr.rf, hdX.rf, fun _ _ _ => rfl, fun _ _ _ => rfl, Nat.le_refl _, Nat.le_refl _⟩
/-- behind form, port and hops -/
theorem c_judE (hR : RR G H sa x s t) (hM : MV t) (hS : SRC E t) (hE : E.length ≤ 600) (hr : r < cR t) (hp : p < cI t r) (hH : HE H s A L f h l po ho) (hI : IN t L) (hB : ∀ j, L.getD j 0 = nI (vc L j)) (hin : f = 0 → sIn E t (t.I 71 (4 * r + p)) h) (hkc : jdC s G H (4 * r + p) ≤ kc) (hks : jdS s G H (4 * r + p) ≤ ks) (hwf : wfF (fun j => L.getD j 0) L.length f) (hl6 : L.length ≤ 600) (k : JdK G H sa x E s t r (4 * r + p) A kc ks L f h l (M_receive_b313 t (nI (4 * r + p)) (nI f) h l (nI r) (nI ((L.length - 4) / 20)) (if L.getD 0 0 = 2 then 1 else 0)) Q) : C_Rr_judge_b114 sa (G 1 r) (some A) (some (G 2 (4 * r + p))) s kc ks Q := by
  have hH' := hH
  obtain ⟨kA, hb, hPF, ⟨i44, i45, i46⟩, hf⟩ := hH
  have hT := hR.q.1.ty
  have oA := okr kA 2
  obtain ⟨p40, kb⟩ := hT.p kA 40 3
  obtain ⟨⟨X1, X2, X3, -⟩, ⟨Y1, Y2, -⟩, -, Z, -⟩ := px_of hR hM hr hp
  have i1 : s.I 1 (H 40 A) = nI L.length := by obtain ⟨-, -, d, -, -, e, -⟩ := hb; exact e
  obtain ⟨m, hm, h1m⟩ : ∃ m, L.length = 4 + 20 * m ∧ 1 ≤ m := ⟨(L.length - 4) / 20, hwf.2.1, by have := hwf.1; omega⟩
  have ed : (L.length - 4) / 20 = m := by omega
  rw [ed] at k
  obtain ⟨R1, f1, W1⟩ := rr_50 (v := 4) hR hM kA (Or.inl rfl)
  obtain ⟨R2, f2, W2⟩ := rr_50 (s := cSI s 50 A 4) (v := nI L.length) R1 hM kA (Or.inr rfl)
  have hx2 : hdX H A s (cSI (cSI s 50 A 4) 51 A (nI L.length)) := (W1 A kA).tr (W2 A kA)
  have hf2 : fr Rjd Pjd [] s (cSI (cSI s 50 A 4) 51 A (nI L.length)) := (f1.tr f2).wk (by decide) (by decide) (by decide)
  have j50 : (cSI (cSI s 50 A 4) 51 A (nI L.length)).I 50 A = 4 := by rw [cSI_g (by decide), cSI_s]
  have j51 : (cSI (cSI s 50 A 4) 51 A (nI L.length)).I 51 A = nI L.length := cSI_s
  have H2 : HE H (cSI (cSI s 50 A 4) 51 A (nI L.length)) A L f h l po ho := hH'.hx hx2 kA
  -- the model's first words
  have m2 : mfr [162, 163] t (moSS (moSS t 162 4) 163 (nI m)) := (mfr.ss (by decide)).tr (mfr.ss (by decide))
  have hM2 : MV (moSS (moSS t 162 4) 163 (nI m)) := hM.fr m2 rfl (hM.1.fr m2 rfl)
  have hR2 : RR G H sa x (cSI (cSI s 50 A 4) 51 A (nI L.length)) (moSS (moSS t 162 4) 163 (nI m)) := rr_fr R2 hM R2.q.1.1 (fr.rf (Rv := []) (Gp := []) (Rq := [])) m2 rfl rfl rfl rfl rfl rfl rfl
  have hS2 : SRC E (moSS (moSS t 162 4) 163 (nI m)) := hS.fr m2 rfl
  have hI2 : IN (moSS (moSS t 162 4) 163 (nI m)) L := hI.fr m2 rfl
  have e162 : (moSS (moSS t 162 4) 163 (nI m)).S 162 = nI 4 := (moSS_n (by decide)).trans moSS_s
  have e163 : (moSS (moSS t 162 4) 163 (nI m)).S 163 = nI m := moSS_s
  have e1 : (moSS (moSS t 162 4) 163 (nI m)).S 1 = t.S 1 := m2.S 1 (by decide)
  have eM : M_receive_b313 t (nI (4 * r + p)) (nI f) h l (nI r) (nI m) (if L.getD 0 0 = 2 then 1 else 0) = (if nI f = 0 then bn2 (M_keysAreGood (moSS (moSS t 162 4) 163 (nI m)) (nI (4 * r + p)) h) (fun x4 s3 => if x4 = 0 then Option.bind (M_tally s3 (nI r) 3 1) (fun s5 => some s5) else M_receive_b346 s3 (nI (4 * r + p)) (nI f) h l (if L.getD 0 0 = 2 then 1 else 0)) else M_receive_b346 (moSS (moSS t 162 4) 163 (nI m)) (nI (4 * r + p)) (nI f) h l (if L.getD 0 0 = 2 then 1 else 0)) := rfl
  have e71 : (moSS (moSS t 162 4) 163 (nI m)).I 71 = t.I 71 := rfl
  have eR : cR (moSS (moSS t 162 4) 163 (nI m)) = cR t := by unfold cR; rw [m2.S 37 (by decide)]
  have eI : cI (moSS (moSS t 162 4) 163 (nI m)) r = cI t r := rfl
  have hin2 : f = 0 → sIn E (moSS (moSS t 162 4) 163 (nI m)) ((moSS (moSS t 162 4) 163 (nI m)).I 71 (4 * r + p)) h := fun z => (hin z).fr m2 rfl
  rw [eM] at k
  generalize (moSS (moSS t 162 4) 163 (nI m)) = t2 at *
  have x2 : (cSI (cSI s 50 A 4) 51 A (nI L.length)).I 225 x = t.S 1 := by
    rw [cSI_g (by decide), cSI_g (by decide)]
    exact Z
  unfold C_Rr_judge_b114
  refine ⟨A, rfl, _, gd_to oA, _, gd_to (show okO (cSI s 50 A 4) 2 A from oA), _, p40, _, gd_to (show okO (cSI s 50 A 4) 0 _ from okr kb 0), _, gd_to (show okO (cSI s 50 A 4) 2 A from oA), ?_⟩
  rw [show (cSI s (20 * 2 + 10) A 4).I (20 * 0 + 1) (H 40 A) = nI L.length by rw [cSI_g (by decide)]; exact i1]
  refine ⟨_, gd_to (show okO (cSI (cSI s 50 A 4) 51 A (nI L.length)) 2 A from oA), ?_⟩
  rw [show (cSI (cSI s (20 * 2 + 10) A 4) (20 * 2 + 11) A (nI L.length)).I (20 * 2 + 4) A = fam (nI f) by rw [cSI_g (by decide), cSI_g (by decide)]; exact i44]
  have fin : JB G H sa x E s t (4 * r + p) A kc ks (cSI (cSI s 50 A 4) 51 A (nI L.length)) t2 kc ks := ⟨⟨hR2, hM2, hS2⟩, m2.wk (by decide), hf2, hx2, fun _ _ _ => rfl, fun _ _ _ => rfl, Nat.le_refl _, Nat.le_refl _⟩
  have hw3 := hwf.2.2.1
  rw [ed] at hw3
  rcases hf with rfl | rfl
  rotate_left
  · refine ifF (by decide) (k.2 4 m _ t2 kc ks (if_neg (show ¬ nI 1 = 0 by decide)) fin ⟨j50, by rw [j51, hm]⟩ ⟨e162, e163⟩ (Or.inl rfl) (by omega) ⟨by rw [if_neg (by decide)] at hw3; omega, fun _ => by rw [if_neg (by decide)] at hw3; omega⟩ hwf.2.2.2.1)
  refine ifT rfl ⟨_, gd_to (show okO (cSI (cSI s 50 A 4) 51 A (nI L.length)) 9 _ from X1), _, X2, _, gd_to (show okO (cSI (cSI s 50 A 4) 51 A (nI L.length)) 11 _ from X3), _, rfl, (show okO (cSI (cSI s 50 A 4) 51 A (nI L.length)) 4 _ from Y1), ?_⟩
  rw [show (cSI (cSI s (20 * 2 + 10) A 4) (20 * 2 + 11) A (nI L.length)).I (20 * 11 + 5) x = t2.S 1 from x2.trans e1.symm]
  refine c_opens (m := m) hR2 hM2 hS2 hE (by rw [eR]; exact hr) (by rw [eI]; exact hp) H2 hI2 hB hl6 hm h1m j50 j51 (hin2 rfl) hkc hks ?_
  intro v s' t' kc' ks' em hv R' M' S' mm ff hx hv1 hp28 hcz hc1 hc2
  have jb : JB G H sa x E s t (4 * r + p) A kc ks s' t' kc' ks' := ⟨⟨R', M', S'⟩, (m2.wk (by decide)).tr mm, hf2.tr ff, hx2.tr hx, hp28, hcz, hc1, hc2⟩
  rcases hv with rfl | rfl
  · refine ifT rfl (k.1 3 s' t' kc' ks' (Or.inr (Or.inr (Or.inl rfl))) ?_ jb)
    rw [if_pos (show nI 0 = 0 from rfl), em, bn2_s, if_pos rfl]
    rfl
  · obtain ⟨i, n, a1, a2, a3, a4, a5⟩ := hv1 rfl
    rw [if_pos rfl] at hw3
    have eV : mcV t2 (4 * r + p) = mcV t (4 * r + p) := by
      unfold mcV
      rw [m2.I 79 (by decide), m2.I 80 (by decide), m2.I 81 (by decide), m2.I 82 (by decide), m2.I 83 (by decide), m2.I 84 (by decide), m2.I 85 (by decide), m2.I 86 (by decide), m2.I 87 (by decide), m2.I 88 (by decide)]
    rw [eV] at a5
    refine ifF (by decide) (k.2 i n s' t' kc' ks' ?_ jb a1 a2 a3 a4 ⟨by omega, fun y => by have := a5 y; omega⟩ hwf.2.2.2.1)
    rw [if_pos (show nI 0 = 0 from rfl), em, bn2_s, if_neg (by decide)]
theorem c_judge (hR : RR G H sa x s t) (hM : MV t) (hS : SRC E t) (hE : E.length ≤ 600) (hr : r < cR t) (hp : p < cI t r) (hH : HE H s A L f h l po ho) (hI : IN t L) (hB : ∀ j, L.getD j 0 = nI (vc L j)) (h75 : t.I 75 (2 * (4 * r + p) + f) ≠ 0) (hin : f = 0 → sIn E t (t.I 71 (4 * r + p)) h) (hkc : jdC s G H (4 * r + p) ≤ kc) (hks : jdS s G H (4 * r + p) ≤ ks) (k : JdK G H sa x E s t r (4 * r + p) A kc ks L f h l (rcR t (nI (4 * r + p)) (nI f) h l po ho) Q) : C_Rr_judge sa (G 1 r) (some A) (some (G 2 (4 * r + p))) s kc ks Q := by
  have h6 := hM.nR
  have hx4 := (hM.r hr).2.2.2.2.2.2.2.2.2.1.n.2.2
  have hp4 : p < 4 := Nat.lt_of_lt_of_le hp hx4
  have hH' := hH
  obtain ⟨kA, hb, ⟨g1, g2, g3, g4⟩, ⟨i44, i45, i46⟩, hf⟩ := hH
  have hl6 : L.length ≤ 600 := by obtain ⟨-, -, d, -, -, -, e, -⟩ := hb; exact e
  have hT := hR.q.1.ty
  have oA := okr kA 2
  obtain ⟨p40, kb⟩ := hT.p kA 40 3
  obtain ⟨p41, k12⟩ := hT.p kA 41 12
  have o12 := okr k12 5
  have hpo := (hR.q.1.2.2.2.2.2.1 r hr).2.2.2.2.2.2 p hp
  have oP := okr hpo.1.1 4
  have hvi := (hM.r hr).2.2.2.2.2.2.2.2.2.2.1 p hp
  have had : RAd G s t (4 * r + p) f := by
    rcases hf with rfl | rfl
    · exact hpo.2.1
    · exact hpo.2.2.1
  rcases had with ⟨z, -⟩ | ⟨z75, pr, hpr, k14, q1, q2, q3, q4⟩
  · exact absurd z h75
  have o14 := okr k14 5
  have hn : ∃ n, t.I 78 (2 * (4 * r + p) + f) = nI n ∧ n ≤ 128 ∧ nI n ≤ (if f = 0 then (32 : Int32) else 128) := by
    rcases hf with rfl | rfl
    · obtain ⟨n, e, -, hn⟩ := hvi.2.2.2.2.2.2.1 z75
      exact ⟨n, e, by omega, by rw [if_pos rfl]; exact Int32.not_lt.mp (nI_nlt (a := 32) hn (by decide))⟩
    · obtain ⟨n, e, -, hn⟩ := hvi.2.2.2.2.2.2.2.1 z75
      exact ⟨n, e, hn, by rw [if_neg (by decide)]; exact Int32.not_lt.mp (nI_nlt (a := 128) hn (by decide))⟩
  obtain ⟨n, en, hn1, hn2⟩ := hn
  have cov : pcov (s.I 100 pr) (s.J 101 pr) (s.J 102 pr) (s.I 103 pr) (s.I 100 (H 41 A)) (s.J 101 (H 41 A)) (s.J 102 (H 41 A)) (s.I 103 (H 41 A)) ↔ mcov (t.J 76 (2 * (4 * r + p) + f)) (t.J 77 (2 * (4 * r + p) + f)) (t.I 78 (2 * (4 * r + p) + f)) h l := by
    rw [q1, q2, q3, q4, g1, g2, g3, g4, en, pcov_m hn1]
    exact ⟨fun y => y.2.2, fun y => ⟨rfl, hn2, y⟩⟩
  have same : (s.I 100 pr = s.I 100 (H 41 A) ∧ s.J 101 pr = s.J 101 (H 41 A) ∧ s.J 102 pr = s.J 102 (H 41 A)) ↔ (t.J 76 (2 * (4 * r + p) + f) = h ∧ t.J 77 (2 * (4 * r + p) + f) = l) := by
    rw [q1, q2, q3, g1, g2, g3]
    exact ⟨fun y => y.2, fun y => ⟨rfl, y⟩⟩
  obtain ⟨mA, mB, mC⟩ := m_rc (h := h) (l := l) (po := po) (ho := ho) hM.1.1 (show r < 6 by omega) hp4 hf hI hl6
  have self := JB.rf (A := A) (kc := kc) (ks := ks) (q := 4 * r + p) hR hM hS
  unfold C_Rr_judge
  refine ⟨A, rfl, _, gd_to oA, _, rfl, oP, ?_⟩
  rw [show s.I (20 * 2 + 4) A = fam (nI f) from i44]
  refine w_adOf hf oP ?_
  rw [hpr]
  refine ifF (by simp) ⟨_, gd_to oA, pr, rfl, o14, ?_⟩
  rw [show s.P (20 * 2 + 1) A = some (H 41 A) from p41]
  refine w_covers o14 o12 (fun c => ?_) (fun c => ?_)
  · exact ifT rfl (k.1 1 s t kc ks (Or.inl rfl) (mA (Or.inr fun y => c (cov.mpr y))) self)
  refine ifF (by decide) ⟨_, gd_to oA, o14, ?_⟩
  rw [show s.P (20 * 2 + 1) A = some (H 41 A) from p41]
  refine w_same o14 o12 (fun d => ?_) (fun d => ?_)
  rotate_left
  · exact ifF (by decide) (k.1 1 s t kc ks (Or.inl rfl) (mA (Or.inl (same.mp d))) self)
  have nb : ¬ bsP t (4 * r + p) f h l := fun y => y.elim (fun y => d (same.mpr y)) (fun y => y (cov.mp c))
  refine ifT rfl ⟨oA, w_wf kA hf i44 p40 kb hb hl6 (fun wf => ?_) (fun wf => ?_)⟩
  rotate_left
  · exact ifT rfl (k.1 2 s t kc ks (Or.inr (Or.inl rfl)) (mB nb wf) self)
  have eM := mC nb wf
  have w0 : 0 < L.length := by have := wf.1; omega
  rw [eM] at k
  have g0 : L.getD 0 0 = nI (vc L 0) := hB 0
  have e4 := fun k => c_judE (Q := Q) hR hM hS hE hr hp hH' hI hB hin hkc hks wf hl6 k
  refine ifF (by decide) ⟨_, gd_to oA, _, p40, okr kb 0, w_at (i := 0) hb w0 ?_⟩
  rw [← g0]
  have e87 : ∀ u : Int32, (u = if L.getD 0 0 = 2 then 1 else 0) → JdK G H sa x E s t r (4 * r + p) A kc ks L f h l (M_receive_b285 t (nI (4 * r + p)) (nI f) h l ho (nI r) (nI ((L.length - 4) / 20)) u) Q → C_Rr_judge_b87 sa (G 1 r) (some A) (some (G 2 (4 * r + p))) u s kc ks Q := fun u hu k => by
    unfold C_Rr_judge_b87
    unfold M_receive_b285 at k
    by_cases c0 : u = 0
    · rw [if_pos c0] at k
      rw [hu] at k
      exact ifT c0 (e4 k)
    rw [if_neg c0] at k
    refine ifF c0 ⟨A, rfl, _, gd_to oA, ?_⟩
    rw [show s.I (20 * 2 + 4) A = fam (nI f) from i44]
    rcases hf with rfl | rfl
    · rw [if_neg (show ¬ nI 0 = 1 by decide), hu] at k
      exact ifF (by decide) (e4 k)
    · rw [if_pos (show nI 1 = 1 from rfl)] at k
      refine ifT rfl ⟨_, gd_to oA, ?_⟩
      rw [show s.I (20 * 2 + 6) A = ho from i46]
      by_cases ch : ho = 255
      · rw [if_pos ch, hu] at k
        exact ifT ch (e4 k)
      · rw [if_neg ch] at k
        exact ifF ch (k.1 10 s t kc ks (Or.inr (Or.inr (Or.inr (Or.inr rfl)))) rfl self)
  have e63 : ∀ u : Int32, (u = if L.getD 0 0 = 2 then 1 else 0) → JdK G H sa x E s t r (4 * r + p) A kc ks L f h l (M_receive_b250 t (nI (4 * r + p)) (nI f) h l po ho (nI r) (nI ((L.length - 4) / 20)) u) Q → C_Rr_judge_b63 sa (G 1 r) (some A) (some (G 2 (4 * r + p))) u s kc ks Q := fun u hu k => by
    unfold C_Rr_judge_b63
    unfold M_receive_b250 at k
    by_cases c0 : u = 0
    · rw [if_pos c0] at k
      exact ifT c0 (e87 u hu k)
    rw [if_neg c0] at k
    refine ifF c0 ⟨A, rfl, _, gd_to oA, _, gd_to oA, ?_⟩
    rw [show s.I (20 * 2 + 4) A = fam (nI f) from i44, show s.I (20 * 2 + 5) A = po from i45]
    unfold C_Da_portOf
    unfold M_receive_b272 at k
    rcases hf with rfl | rfl
    · rw [if_pos (show nI 0 = 0 from rfl)] at k
      refine ifT rfl ?_
      by_cases cp : po = 520
      · rw [if_pos cp] at k
        exact ifT cp (e87 u hu k)
      · rw [if_neg cp] at k
        exact ifF cp (k.1 9 s t kc ks (Or.inr (Or.inr (Or.inr (Or.inl rfl)))) rfl self)
    · rw [if_neg (show ¬ nI 1 = 0 by decide)] at k
      refine ifF (by decide) ?_
      by_cases cp : po = 521
      · rw [if_pos cp] at k
        exact ifT cp (e87 u hu k)
      · rw [if_neg cp] at k
        exact ifF cp (k.1 9 s t kc ks (Or.inr (Or.inr (Or.inr (Or.inl rfl)))) rfl self)
  by_cases c2 : L.getD 0 0 = 2
  · refine ifT c2 (e63 1 (by rw [if_pos c2]) ?_)
    rw [if_pos c2] at k
    exact k
  · refine ifF c2 (e63 0 (by rw [if_neg c2]) ?_)
    rw [if_neg c2] at k
    exact k
end Jd
