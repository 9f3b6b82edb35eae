/-! The sum that a key makes, in the class. -/
noncomputable def sumS (sha : Int32) (L : List Int32) (Sx : Nat → Int32) : q5 := if sha = 0 then dgR 0 (kB5 L Sx) (L.length + 16) else dgR 1 (kBo (sbB 1 (dgR 1 (kBi L Sx) (64 + L.length))) Sx) 84
theorem sumS_p {sha : Int32} {L : List Int32} {Sx : Nat → Int32} (h : bit sha) : sumP sha L Sx = sbB sha (sumS sha L Sx) := by
  unfold sumP sumS
  rcases h with rfl | rfl
  · rw [if_pos rfl, if_pos rfl]
  · rw [if_neg (by decide), if_neg (by decide)]
theorem sbB_b (hi : Int32) (q : q5) (k : Nat) : sbB hi q k &&& 255 = sbB hi q k := by unfold sbB; rw [Int32.and_assoc]; rfl
theorem y_j {y : List Int32} (hs : secOk y) (i : Nat) : ∃ j, j < 128 ∧ y.getD i 0 = nI j := by
  by_cases c : i < y.length
  · obtain ⟨j, e, h1, h2⟩ := hs.2.2 i c
    exact ⟨j, by omega, e⟩
  · exact ⟨0, by decide, by rw [List.getD_eq_getElem?_getD, List.getElem?_eq_none (by omega)]; rfl⟩
section Ck
variable {sa : Nat → Nat} {c W S V kc ks n kx b w cap m : Nat} {s0 s : cS} {Q : cS → Nat → Nat → Prop} {B : Nat → Int32} {sha : Int32} {y l : List Int32}
/-- a row of bytes stays as it is -/
theorem BL.dw (hb : BL s0 b w l cap) (hw : w ≠ 127) (h : DW c W S V s0 s) : BL s b w l cap := by
  obtain ⟨o, ⟨w1, w2, w3⟩, d, b1, b2, b3, b4⟩ := hb
  obtain ⟨k1, k2, k3, k4⟩ := h.2.1
  refine ⟨by unfold okO at *; rw [k1]; exact o, ⟨w1, w2, w3⟩, d, by rw [k2]; exact b1, by rw [k1]; exact b2, by rw [h.2.2.1 1 b (fun e => absurd e.1 (by decide))]; exact b3, ?_⟩
  rw [h.e (by rw [b2]; exact ⟨hw, fun e : w = 113 => by rw [e] at w3; exact absurd w3 (by decide), fun e : w = 119 => by rw [e] at w3; exact absurd w3 (by decide)⟩)]
  exact b4
theorem c_sumE (h : DW c W S V s0 s) (hk : KY c kx 1 y s0) (h29 : s.I 29 c = nI 64) (hB : ∀ i, i < 64 → s.E W i = sb (y.getD i 0 ^^^ 92)) (k : ∀ s', DW c W S V s0 s' → cst s' S = dgR 1 (kBo (sbB 1 (cst s S)) (fun i => y.getD i 0)) 84 → Q s' kc ks) : C_Ch_sum_b117 sa c (nI kx) 0 s kc ks Q := by
  unfold C_Ch_sum_b117
  intro P hP
  have loop : ∀ m j s2, j + m = 20 → DW c W S V s0 s2 → s2.E S = s.E S → s2.I 29 c = nI (64 + j) → (∀ i, i < 64 → s2.E W i = s.E W i) → (∀ i, i < j → s2.E W (64 + i) = sb (sbB 1 (cst s S) i)) → P (nI j) s2 kc ks := by
    intro m
    induction m with
    | zero =>
      intro j s2 hj h2 d1 d2 d3 d4
      have hj : j = 20 := by omega
      subst hj
      apply hP
      unfold C_Ch_sum_s117
      refine ifF (by decide) ⟨h2.o.1, c_fill (n := 84) (hi := 1) (B := kBo (sbB 1 (cst s S)) (fun i => y.getD i 0)) h2 (by decide) (by decide) (Or.inr rfl) d2 (fun i hi => ?_) fun s3 h3 e1 e2 e3 => ⟨h3.o.1, c_sha (n := fulN 84) h3 (by decide) (by decide) e2 e3 fun s4 h4 f1 f2 f3 => k s4 h4 ?_⟩⟩
      · unfold kBo
        by_cases c6 : i < 64
        · rw [if_pos c6, d3 i c6, hB i c6]
          obtain ⟨j, hj, e⟩ := y_j hk.1.2.1 i
          exact ⟨rfl, by show (y.getD i 0 ^^^ 92) &&& 255 = y.getD i 0 ^^^ 92; rw [e]; exact (xor54 j hj).2.1⟩
        · rw [if_neg c6, show i = 64 + (i - 64) by omega, d4 (i - 64) (by omega), show 64 + (i - 64) - 64 = i - 64 by omega]
          exact ⟨rfl, sbB_b _ _ _⟩
      · rw [f1]; unfold dgR; rw [if_neg (by decide)]
    | succ m ih =>
      intro j s2 hj h2 d1 d2 d3 d4
      have ho := h2.o
      have o1 := ho.1
      obtain ⟨n1, n2, n3⟩ := ho.ne
      apply hP
      unfold C_Ch_sum_s117
      refine ifT (nI_lt (b := 20) (by omega) (by decide)) ⟨_, gd_to o1, _, gd_to o1, o1, c_sby h2 hk (by omega) ?_⟩
      rw [show s2.I (20 * 1 + 9) c = nI (64 + j) from d2, show cst s2 S = cst s S by unfold cst; rw [d1]]
      refine ⟨W, ho.2.1, _, gd_to (ho.aW (by omega)), _, gd_to o1.se, ?_⟩
      rw [nI_clamp (show 64 + j < 2 ^ 31 by omega), show ∀ v, (cSE s2 W (64 + j) v).I (20 * 1 + 9) c = nI (64 + j) from fun _ => d2]
      refine ⟨_, gd_to o1.se, ?_⟩
      rw [nI_1, nI_1]
      refine ih (j + 1) _ (by omega) (h2.se (Or.inl rfl)).si ?_ cSI_s (fun i hi => ?_) fun i hi => ?_
      · show (cSE s2 W _ _).E S = _
        rw [cSE_a (fun e => n1 e.symm)]; exact d1
      · show (cSE s2 W (64 + j) _).E W i = _
        rw [cSE_i (by omega)]; exact d3 i hi
      · show (cSE s2 W (64 + j) _).E W (64 + i) = _
        by_cases z : i = j
        · rw [z, cSE_v]
          show sb (sb _) = _
          rw [sb_sb]
        · rw [cSE_i (by omega)]; exact d4 i (by omega)
  exact loop 20 0 s rfl h rfl h29 (fun _ _ => rfl) fun i hi => absurd hi (Nat.not_lt_zero i)
theorem mn_l {m n : Nat} (h : m ≤ n) (hn : n < 2 ^ 31) : mnI (nI m) (nI n) = nI m := by
  unfold mnI
  rw [if_neg (nI_nlt h hn)]
theorem c_sum16 (h : DWo c W S V s) (hk : KY c kx sha y s) (hb : BL s b w l cap) (hw : w ≠ 127) (hcap : cap ≤ 8192) (hm : m ≤ l.length) (hm6 : m < 640) (k : ∀ s', DW c W S V s s' → cst s' S = sumS sha (l.take m) (fun i => y.getD i 0) → Q s' kc ks) : C_Ch_sum_b16 sa c (some b) (nI m) (nI kx) s kc ks Q := by
  have o1 := h.1
  have h1 : DW c W S V s (cSI s 29 c 0) := (DW.rf h).si
  have k1 := hk.dw h1
  generalize hs1 : cSI s 29 c 0 = s1 at h1 k1
  have e29 : s1.I 29 c = nI 0 := by rw [← hs1]; exact cSI_s
  have lM : (l.take m).length = m := by rw [List.length_take]; omega
  have gM : ∀ i, i < m → (l.take m).getD i 0 = l.getD i 0 := fun i hi => by
    rw [List.getD_eq_getElem?_getD, List.getD_eq_getElem?_getD, List.getElem?_take_of_lt hi]
  generalize hM : l.take m = M at lM gM k
  -- the row
  have row : ∀ s2, DW c W S V s s2 → okO s2 0 b ∧ ∃ d, s2.P (20 * 0 + 0) b = some d ∧ (100 ≤ w ∧ w < 130 ∧ cAT w = .byte) ∧ s2.K d = (w, cap) ∧ mnI (nI m) (s2.I (20 * 0 + 1) b) = nI m ∧ m ≤ cap ∧ (∀ i, i < m → s2.E d i = sb (M.getD i 0)) ∧ ∀ i, i < m → M.getD i 0 &&& 255 = M.getD i 0 := by
    intro s2 h2
    obtain ⟨q1, q2, d, q3, q4, q5, q6, q7, q8, q9⟩ := hb.dw hw h2
    refine ⟨q1, d, q3, q2, q4, ?_, by omega, fun i hi => by rw [gM i hi]; exact (q9 i (by omega)).1, fun i hi => by rw [gM i hi]; exact (q9 i (by omega)).2⟩
    rw [show s2.I (20 * 0 + 1) b = nI l.length from q5, mn_l hm (by omega)]
  have yb := fun i => y_j hk.1.2.1 i
  obtain ⟨⟨hk4, -, hbit⟩, T4, T7, wq, ⟨a1, a2, a3⟩, -⟩ := k1
  unfold C_Ch_sum_b16
  refine ⟨_, gd_to o1, ?_⟩
  show ob (gP (cSI s 29 c 0) 1 4 c) _
  rw [hs1]
  refine ⟨_, gd_to h1.o.1, T4, a1, _, gd_to ⟨by rw [a2]; decide, by rw [a2]; decide, by rw [a2]; decide, by rw [a2]; exact vp_in_nI hk4 (by decide)⟩, ?_⟩
  rw [nI_clamp (show kx < 2 ^ 31 by omega), a3]
  rcases hbit with rfl | rfl
  · obtain ⟨r0, d, r1, r2, r3, r4, r5, r6, r7⟩ := row s1 h1
    rw [if_pos rfl]
    refine ifT rfl ⟨b, rfl, _, gd_to r0, _, gd_to r0, h1.o.1, ?_⟩
    rw [r1, r4]
    refine c_addW (n := 0) (L := M) h1 e29 r2 r3 ⟨r5, hcap⟩ (by omega) r6 fun s2 h2 b1 b2 b3 b4 => ⟨h2.o.1, c_addS (m := 16) h2 hk b2 (by omega) fun s3 h3 c1 c2 c3 c4 => ⟨h3.o.1, c_fill (n := m + 16) (hi := 0) (B := kB5 M (fun i => y.getD i 0)) h3 (by omega) ?_ (Or.inl rfl) (by rw [c2]; congr 1; omega) (fun i hi => ?_) fun s4 h4 d1 d2 d3 => ⟨h4.o.1, c_md5 h4 (ful_b (n := m + 16)).2.2 ?_ d2 d3 fun s5 h5 f1 f2 f3 => k s5 h5 ?_⟩⟩⟩
    · have := ful_b (n := m + 16); omega
    · unfold kB5
      rw [lM]
      by_cases z : i < m
      · rw [if_pos z, c3 i (by omega), show i = 0 + i by omega, b4 i z, show 0 + i = i by omega]
        exact ⟨rfl, r7 i z⟩
      · rw [if_neg z, show i = 0 + m + (i - m) by omega, c4 (i - m) (by omega), show 0 + m + (i - m) - m = i - m by omega]
        obtain ⟨j, hj, e⟩ := yb (i - m)
        show sb (y.getD (i - m) 0 ^^^ 0) = sb (y.getD (i - m) 0) ∧ y.getD (i - m) 0 &&& 255 = y.getD (i - m) 0
        rw [e, (xor54 j hj).2.2]
        exact ⟨rfl, m255 (n := j) (by omega)⟩
    · have := ful_b (n := m + 16); omega
    · rw [f1]; unfold sumS dgR; rw [if_pos rfl, if_pos rfl, lM]
  · rw [if_neg (show ¬ (1 : Int32) = 0 by decide)]
    refine ifF (show ¬ (20 : Int32) = 16 by decide) ⟨h1.o.1, c_addS (n := 0) (m := 64) h1 hk e29 (by decide) fun s2 h2 b1 b2 b3 b4 => ⟨b, rfl, ?_⟩⟩
    obtain ⟨r0, d, r1, r2, r3, r4, r5, r6, r7⟩ := row s2 h2
    refine ⟨_, gd_to r0, _, gd_to r0, h2.o.1, ?_⟩
    rw [r1, r4]
    refine c_addW (n := 64) (L := M) h2 b2 r2 r3 ⟨r5, hcap⟩ (by omega) r6 fun s3 h3 c1 c2 c3 c4 => ⟨h3.o.1, c_fill (n := 64 + m) (hi := 1) (B := kBi M (fun i => y.getD i 0)) h3 (by omega) ?_ (Or.inr rfl) c2 (fun i hi => ?_) fun s4 h4 d1 d2 d3 => ⟨h4.o.1, c_sha h4 (ful_b (n := 64 + m)).2.2 ?_ d2 d3 fun s5 h5 f1 f2 f3 => ⟨_, gd_to h5.o.1, ?_⟩⟩⟩
    · have := ful_b (n := 64 + m); omega
    · unfold kBi
      by_cases z : i < 64
      · rw [if_pos z, c3 i z, show i = 0 + i by omega, b4 i z, show 0 + i = i by omega]
        obtain ⟨j, hj, e⟩ := yb i
        exact ⟨rfl, by show (y.getD i 0 ^^^ 54) &&& 255 = y.getD i 0 ^^^ 54; rw [e]; exact (xor54 j hj).1⟩
      · rw [if_neg z, show i = 64 + (i - 64) by omega, c4 (i - 64) (by omega), show 64 + (i - 64) - 64 = i - 64 by omega]
        exact ⟨rfl, r7 (i - 64) (by omega)⟩
    · have := ful_b (n := 64 + m); omega
    have h6 : DW c W S V s (cSI s5 29 c 0) := h5.si
    refine ⟨h6.o.1, c_addS (n := 0) (m := 64) h6 hk cSI_s (by decide) fun s7 h7 g1 g2 g3 g4 => c_sumE h7 hk g2 (fun i hi => ?_) fun s8 h8 j1 => k s8 h8 ?_⟩
    · rw [show i = 0 + i by omega, g4 i hi, show 0 + i = i by omega]
    · rw [j1, show cst s7 S = cst s5 S by unfold cst; rw [g1]; rfl, f1]
      unfold sumS
      rw [if_neg (by decide), lM]
      congr 1
end Ck
