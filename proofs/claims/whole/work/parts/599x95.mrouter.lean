/-! The model's line router, where it makes one. -/
section Mq
variable {t : moS} {n : Nat} {c : Int64}
theorem m_rt (hM : MV t) (hn : n = cR t) (h6 : n < 6) : (Option.bind (wrJ t 38 (moS.S t 37) c) (fun s3 => (Option.bind (wrZ s3 39 (moS.S t 37) (1 : Int32)) (fun s4 => (Option.bind (wrI s4 40 (moS.S t 37) (30 : Int32)) (fun s5 => (Option.bind (wrI s5 41 (moS.S t 37) (180 : Int32)) (fun s6 => (Option.bind (wrI s6 42 (moS.S t 37) (120 : Int32)) (fun s7 => (Option.bind (wrI s7 43 (moS.S t 37) ((moS.S s7 1) + (30 : Int32))) (fun s8 => (Option.bind (wrI s8 44 (moS.S t 37) ((-1) : Int32)) (fun s9 => ((M_lineRouter_b114 s9 (moS.S t 37) ((2 : Int32) * (moS.S t 37)))))))))))))))))) = some (0, mRt t n c) := by
  have N := hM.n
  have e37 : t.S 37 = nI n := by rw [hn]; exact hM.1.2.2.2.2.2.2.2.n.1
  rw [e37, wrJ_n (N.n 38 6) h6 (by decide)]
  simp only [Option.bind_some]
  rw [wrZ_n (t := moSJ t 38 n c) (N.n 39 6) h6 (by decide), show vp_nar .boolean 1 = 1 from rfl]
  simp only [Option.bind_some]
  rw [wrI_n (t := moSI (moSJ t 38 n c) 39 n 1) (N.n 40 6) h6 (by decide)]
  simp only [Option.bind_some]
  rw [wrI_n (t := moSI (moSI (moSJ t 38 n c) 39 n 1) 40 n 30) (N.n 41 6) h6 (by decide)]
  simp only [Option.bind_some]
  rw [wrI_n (t := moSI (moSI (moSI (moSJ t 38 n c) 39 n 1) 40 n 30) 41 n 180) (N.n 42 6) h6 (by decide)]
  simp only [Option.bind_some]
  rw [show (moSI (moSI (moSI (moSI (moSJ t 38 n c) 39 n 1) 40 n 30) 41 n 180) 42 n 120).S 1 = t.S 1 from rfl, wrI_n (t := moSI (moSI (moSI (moSI (moSJ t 38 n c) 39 n 1) 40 n 30) 41 n 180) 42 n 120) (N.n 43 6) h6 (by decide)]
  simp only [Option.bind_some]
  rw [wrI_n (t := moSI (moSI (moSI (moSI (moSI (moSJ t 38 n c) 39 n 1) 40 n 30) 41 n 180) 42 n 120) 43 n (t.S 1 + 30)) (N.n 44 6) h6 (by decide)]
  simp only [Option.bind_some]
  generalize ht9 : moSI (moSI (moSI (moSI (moSI (moSI (moSJ t 38 n c) 39 n 1) 40 n 30) 41 n 180) 42 n 120) 43 n (t.S 1 + 30)) 44 n (-1) = t9
  have n68 : t9.N 68 = 12 := by rw [← ht9]; exact N.n 68 12
  have n69 : t9.N 69 = 12 := by rw [← ht9]; exact N.n 69 12
  have s37 : t9.S 37 = nI n := by rw [← ht9]; exact e37
  rw [show (2 : Int32) = nI 2 from rfl, pk_mul]
  have step : ∀ (u : moS) (j : Nat), j < 2 * n + 2 → u.N 68 = 12 → u.N 69 = 12 → M_lineRouter_s114 u (nI n) (nI j) = some (.inl (nI (j + 1), moSI (moSI u 68 j (-1)) 69 j (-1))) := by
    intro u j hj h1 h2
    unfold M_lineRouter_s114
    rw [show (2 : Int32) = nI 2 from rfl, pk_mul, nI_add, if_pos (nI_lt hj (by omega)), wrI_n h1 (by omega) (by decide)]
    simp only [Option.bind_some]
    rw [wrI_n (t := moSI u 68 j (-1)) h2 (by omega) (by decide)]
    simp only [Option.bind_some]
    rw [nI_1]
  unfold M_lineRouter_b114
  rw [lp_l (show M_lineRouter_s114 t9 (nI n) (nI (2 * n)) = _ from step t9 (2 * n) (by omega) n68 n69)]
  rw [lp_l (show M_lineRouter_s114 (moSI (moSI t9 68 (2 * n) (-1)) 69 (2 * n) (-1)) (nI n) (nI (2 * n + 1)) = _ from step _ (2 * n + 1) (by omega) n68 n69)]
  refine lp_x (o := some (0, mRt t n c)) ?_
  show M_lineRouter_s114 (moSI (moSI (moSI (moSI t9 68 (2 * n) (-1)) 69 (2 * n) (-1)) 68 (2 * n + 1) (-1)) 69 (2 * n + 1) (-1)) (nI n) (nI (2 * n + 1 + 1)) = _
  unfold M_lineRouter_s114
  rw [show (2 : Int32) = nI 2 from rfl, pk_mul, nI_add, if_neg (nI_nlt (by omega) (by omega))]
  unfold letS
  rw [show (moSI (moSI (moSI (moSI t9 68 (2 * n) (-1)) 69 (2 * n) (-1)) 68 (2 * n + 1) (-1)) 69 (2 * n + 1) (-1)).S 37 = nI n from s37, nI_1, ← ht9]
  rfl
end Mq
