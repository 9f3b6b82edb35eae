/-! The invariant of the law's loop: both memories, what is done, what is left. -/
/-- bytes on the tape; the time -/
def btL (t : moS) : Nat := (t.S 3).toNatClampNeg
def tmN (t : moS) : Nat := (t.S 1).toNatClampNeg
/-- how long the arrays of text, page and tape are -/
def cpA (s : cS) (H : Nat → Nat → Nat) (x : Nat) : Nat := TC s x + capOf s (H 220 x)
def vR (sa : Nat → Nat) (x : Nat) (s : cS) (t : moS) (G H : Nat → Nat → Nat) (Os : Nat → List Pf) (E : List (Int32 × Int64)) : Prop := RR G H sa x s t ∧ MV t ∧ AGs t ∧ EX Os t ∧ NR t ∧ SRC E t ∧ rdI' x s
def vN (n : Nat) (t : moS) (Os : Nat → List Pf) (E : List (Int32 × Int64)) : Prop := (∀ r, 14 * (Os r).length + btL t + 20 * n ≤ 10640) ∧ E.length + n ≤ 600 ∧ ∀ j, j < 10 → ∃ d, t.I 23 j = nI d ∧ d + 5310 * rqN t + 53100 * (20000 - tmN t) + 1372000 * n + 5310 < 2 ^ 31
def vC (n x : Nat) (s : cS) (t0 t : moS) (G H : Nat → Nat → Nat) (kc ks : Nat) : Prop := 4096 * (RcC s G H t + rdC s x + 320 * n + 16 * btL t) + 139027744 ≤ 4096 * kc + (t0.N 7 + t0.N 5) + 192 * t0.N 102 + 256 * cpA s H x ∧ RcS s G H x t + rdS s x + 6000 * n + 300 * btL t + 2404960 ≤ ks + 2 * (t0.N 7 + t0.N 5) + 6 * t0.N 102 + 2 * cpA s H x
def IVh (sa : Nat → Nat) (x n : Nat) (s : cS) (t0 t : moS) (kc ks : Nat) : Prop := ∃ (G H : Nat → Nat → Nat) (Os : Nat → List Pf) (E : List (Int32 × Int64)), vR sa x s t G H Os E ∧ vN n t Os E ∧ vC n x s t0 t G H kc ks
def IVn (sa : Nat → Nat) (x n : Nat) (s : cS) (t : moS) (kc ks : Nat) : Prop := IVh sa x n s t t kc ks
theorem ar_i1 {A c k N5 N7 N1 : Nat} (h : 4096 * A + 139027744 ≤ 4096 * k + (N7 + N5) + 192 * N1 + 256 * c) (hc : c ≤ 532480) : 2700000 ≤ 4096 * k + (N7 + N5) + 192 * N1 := by omega
theorem ar_i2 {A B C c k N5 N7 N1 : Nat} (h : A + B + C + 2404960 ≤ k + 2 * (N7 + N5) + 6 * N1 + 2 * c) (hc : c ≤ 532480) : 1340000 ≤ k + 2 * (N7 + N5) + 6 * N1 := by omega
theorem ar_i3 {A c k k2 N5 N7 N1 M5 M7 M1 : Nat} (h : 4096 * A + 139027744 ≤ 4096 * k + (N7 + N5) + 192 * N1 + 256 * c) (e : 4096 * k + (N7 + N5) + 192 * N1 ≤ 4096 * k2 + (M7 + M5) + 192 * M1) : 4096 * A + 139027744 ≤ 4096 * k2 + (M7 + M5) + 192 * M1 + 256 * c := by omega
theorem ar_i4 {A c k k2 N5 N7 N1 M5 M7 M1 : Nat} (h : A + 2404960 ≤ k + 2 * (N7 + N5) + 6 * N1 + 2 * c) (e : k + 2 * (N7 + N5) + 6 * N1 ≤ k2 + 2 * (M7 + M5) + 6 * M1) : A + 2404960 ≤ k2 + 2 * (M7 + M5) + 6 * M1 + 2 * c := by omega
theorem ar_i5 {R d n b c k N5 N7 N1 : Nat} (h : 4096 * (R + d + 320 * n + 16 * b) + 139027744 ≤ 4096 * k + (N7 + N5) + 192 * N1 + 256 * c) (h7 : N7 ≤ 320000) (h5 : N5 ≤ 320000) (h1 : N1 ≤ 8192) : 16 * (R + d + 320 * n + 16 * b) + 534433 ≤ 16 * k + c := by omega
theorem ar_i6 {R d n b c k N5 N7 N1 : Nat} (h : R + d + 6000 * n + 300 * b + 2404960 ≤ k + 2 * (N7 + N5) + 6 * N1 + 2 * c) (h7 : N7 ≤ 320000) (h5 : N5 ≤ 320000) (h1 : N1 ≤ 8192) : R + d + 6000 * n + 300 * b + 1075808 ≤ k + 2 * c := by omega
/-- the step of what is left -/
theorem ar_i7 {R R' d d' n b b' c c' k k' N5 N7 N1 : Nat} (h : 4096 * (R + d + 320 * (n + 1) + 16 * b) + 139027744 ≤ 4096 * k + (N7 + N5) + 192 * N1 + 256 * c) (e : 16 * (k + R' + d') + c + 256 * b' ≤ 16 * (k' + R + d) + c' + 256 * b + 5120) : 4096 * (R' + d' + 320 * n + 16 * b') + 139027744 ≤ 4096 * k' + (N7 + N5) + 192 * N1 + 256 * c' := by omega
theorem ar_i8 {R R' d d' n b b' c c' k k' N5 N7 N1 : Nat} (h : R + d + 6000 * (n + 1) + 300 * b + 2404960 ≤ k + 2 * (N7 + N5) + 6 * N1 + 2 * c) (e : k + R' + d' + 2 * c + 300 * b' ≤ k' + R + d + 2 * c' + 300 * b + 6000) : R' + d' + 6000 * n + 300 * b' + 2404960 ≤ k' + 2 * (N7 + N5) + 6 * N1 + 2 * c' := by omega
section Iv
variable {G H G' H' : Nat → Nat → Nat} {sa : Nat → Nat} {x n kc ks kc' ks' : Nat} {s s' : cS} {t t' t0 : moS} {Os : Nat → List Pf} {E : List (Int32 × Int64)}
/-- text, page and tape: no longer than so -/
theorem cp_all (hR : RR G H sa x s t) : capOf s ((s.P 221 x).getD 0) ≤ 262144 ∧ capOf s ((s.P 222 x).getD 0) ≤ 262144 ∧ capOf s (H 220 x) ≤ 8192 := by
  obtain ⟨-, ⟨cap, hc, hb⟩, tx, pg, c1, c2, h1, h2, -, -, -, l1, l2, b1, l, b2⟩ := hR.q
  rw [h1, h2]
  exact ⟨by show capOf s tx ≤ _; rw [b1.cap]; exact l1, by show capOf s pg ≤ _; rw [b2.cap]; exact l2, by rw [hb.cap]; exact hc⟩
theorem cpA_le (hR : RR G H sa x s t) : cpA s H x ≤ 532480 := by
  obtain ⟨h1, h2, h3⟩ := cp_all hR
  unfold cpA TC
  omega
theorem IVh.mid (h : IVh sa x n s t0 t kc ks) : midV (IVn sa) x n s t0 t kc ks := by
  obtain ⟨G, H, Os, E, hr, hn, c1, c2⟩ := h
  have hc := cpA_le hr.1
  exact ⟨⟨ar_i1 c1 hc, ar_i2 c2 hc⟩, fun kc2 ks2 e1 e2 => ⟨G, H, Os, E, hr, hn, ar_i3 c1 e1, ar_i4 c2 e2⟩⟩
theorem IVn.v (h : IVn sa x n s t kc ks) : (s.K x).1 = 30 ∧ mN t := by
  obtain ⟨G, H, Os, E, hr, -⟩ := h
  exact ⟨hr.1.q.1.1.1, hr.2.1.n⟩
/-- what is left, without the model's -/
theorem vC.u (h : vC n x s t t G H kc ks) (hM : MV t) : 16 * (RcC s G H t + rdC s x + 320 * n + 16 * btL t) + 534433 ≤ 16 * kc + cpA s H x ∧ RcS s G H x t + rdS s x + 6000 * n + 300 * btL t + 1075808 ≤ ks + 2 * cpA s H x := by
  obtain ⟨-, ⟨-, h7⟩, ⟨-, h5⟩, -, h1, -⟩ := hM.n
  exact ⟨ar_i5 h.1 h7 h5 h1, ar_i6 h.2 h7 h5 h1⟩
theorem ar_i9 {R d n b c k m : Nat} (h : 16 * (R + d + 320 * (n + 1) + 16 * b) + 534433 ≤ 16 * k + c) (hc : c ≤ 532480) (hm : m ≤ 16 * b + 320) : R + d + m ≤ k := by omega
theorem ar_ia {R d n b c k m : Nat} (h : R + d + 6000 * (n + 1) + 300 * b + 1075808 ≤ k + 2 * c) (hc : c ≤ 532480) (hm : m ≤ 300 * b + 6000) : R + d + m ≤ k := by omega
/-- a call may cost so much -/
theorem vC.k {m1 m2 : Nat} (h : vC (n + 1) x s t t G H kc ks) (hR : RR G H sa x s t) (hM : MV t) (h1 : m1 ≤ 16 * btL t + 320) (h2 : m2 ≤ 300 * btL t + 6000) : RcC s G H t + rdC s x + m1 ≤ kc ∧ RcS s G H x t + rdS s x + m2 ≤ ks := by
  obtain ⟨u1, u2⟩ := h.u hM
  have hc := cpA_le hR
  exact ⟨ar_i9 u1 hc h1, ar_ia u2 hc h2⟩
theorem vC.st (h : vC (n + 1) x s t t G H kc ks) (e1 : 16 * (kc + RcC s' G' H' t' + rdC s' x) + cpA s H x + 256 * btL t' ≤ 16 * (kc' + RcC s G H t + rdC s x) + cpA s' H' x + 256 * btL t + 5120) (e2 : ks + RcS s' G' H' x t' + rdS s' x + 2 * cpA s H x + 300 * btL t' ≤ ks' + RcS s G H x t + rdS s x + 2 * cpA s' H' x + 300 * btL t + 6000) : vC n x s' t t' G' H' kc' ks' := ⟨ar_i7 h.1 e1, ar_i8 h.2 e2⟩
end Iv
