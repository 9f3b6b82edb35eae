/-! A datagram goes, in the model. -/
/-- what the model has written to go is L -/
def OU (t : moS) (L : List Int32) : Prop := t.S 148 = nI L.length ∧ L.length ≤ 600 ∧ ∀ i, i < L.length → t.I 147 i = L.getD i 0
/-- it is seen on its link -/
def seT (t : moS) (l : Nat) (L : List Int32) : moS := lyT (moSI (moSI t 23 l (t.I 23 l + 1)) 25 l (nI L.length)) 26 (700 * l) (fun i => L.getD i 0) L.length
/-- when it comes -/
def dueT (t : moS) (l : Nat) (k : Int32) : Int32 := t.S 1 + t.I 19 l + Int64.toInt32 (rem_L ((3 : Int64) * (Int32.toInt64 k)) (Int32.toInt64 (t.I 20 l + 1)))
/-- it is on its way, at place p -/
def flT (t : moS) (p l : Nat) (fm ta : Int32) (th tl : Int64) (f : Int32) (h lo : Int64) (po ho du : Int32) (L : List Int32) : moS := lyT (moSI (moSI (moSI (moSI (moSJ (moSJ (moSI (moSJ (moSJ (moSI (moSI (moSI (moSS (moSI (moSI t 125 p 1) 124 (cF t) (nI p)) 123 (t.S 123 + 1)) 126 p (nI l)) 127 p fm) 128 p ta) 129 p th) 130 p tl) 131 p f) 132 p h) 133 p lo) 134 p po) 135 p ho) 136 p du) 137 p (nI L.length)) 138 (700 * p) (fun i => L.getD i 0) L.length
section Mg
variable {t : moS} {L : List Int32} {l p : Nat} {fm ta f po ho tld : Int32} {th tl h lo : Int64}
theorem seT_m : mfr [23, 25, 26] t (seT t l L) := ((mfr.si (by decide)).tr (mfr.si (by decide))).tr ((lyT_m _).wk (by decide))
theorem seT_23 : (seT t l L).I 23 = upd (t.I 23) l (t.I 23 l + 1) := ((lyT_m _).I 23 (by decide)).trans rfl
theorem seT_25 : (seT t l L).I 25 = upd (t.I 25) l (nI L.length) := ((lyT_m _).I 25 (by decide)).trans rfl
theorem seT_26 (i : Nat) : (seT t l L).I 26 i = if 700 * l ≤ i ∧ i < 700 * l + L.length then L.getD (i - 700 * l) 0 else t.I 26 i := (lyT_e _ _).trans rfl
theorem OU.mf {t' : moS} {W : List Nat} (hO : OU t L) (m : mfr W t t') (d : dj [147, 148] W) : OU t' L := ⟨(m.S 148 (d.n 148)).trans hO.1, hO.2.1, fun i hi => by rw [m.I 147 (d.n 147)]; exact hO.2.2 i hi⟩
theorem m_seen {x1 : Int32} (hM : mN t) (hl : l < 10) (hO : OU t L) : M_go_b31 t (nI l) fm ta th tl f h lo po ho tld x1 0 = (if (lyT t 26 (700 * l) (fun i => L.getD i 0) L.length).S 123 = 256 then some (lyT t 26 (700 * l) (fun i => L.getD i 0) L.length) else if tld = 0 then M_go_b102 (lyT t 26 (700 * l) (fun i => L.getD i 0) L.length) (nI l) fm ta th tl f h lo po ho x1 else Option.bind (rdI (lyT t 26 (700 * l) (fun i => L.getD i 0) L.length) 24 (nI l)) (fun x1' => if 0 < x1' then Option.bind (rdI (lyT t 26 (700 * l) (fun i => L.getD i 0) L.length) 24 (nI l)) (fun x2 => Option.bind (wrI (lyT t 26 (700 * l) (fun i => L.getD i 0) L.length) 24 (nI l) (x2 - 1)) (fun s3 => some s3)) else M_go_b102 (lyT t 26 (700 * l) (fun i => L.getD i 0) L.length) (nI l) fm ta th tl f h lo po ho x1)) := by
  have h6 := hO.2.1
  unfold M_go_b31
  have loop : ∀ n j, j + n = L.length → lp (fun y : Int32 × moS => M_go_s31 y.2 (nI l) fm ta th tl f h lo po ho tld x1 y.1) (nI j, lyT t 26 (700 * l) (fun i => L.getD i 0) j) = (if (lyT t 26 (700 * l) (fun i => L.getD i 0) L.length).S 123 = 256 then some (lyT t 26 (700 * l) (fun i => L.getD i 0) L.length) else if tld = 0 then M_go_b102 (lyT t 26 (700 * l) (fun i => L.getD i 0) L.length) (nI l) fm ta th tl f h lo po ho x1 else Option.bind (rdI (lyT t 26 (700 * l) (fun i => L.getD i 0) L.length) 24 (nI l)) (fun x1' => if 0 < x1' then Option.bind (rdI (lyT t 26 (700 * l) (fun i => L.getD i 0) L.length) 24 (nI l)) (fun x2 => Option.bind (wrI (lyT t 26 (700 * l) (fun i => L.getD i 0) L.length) 24 (nI l) (x2 - 1)) (fun s3 => some s3)) else M_go_b102 (lyT t 26 (700 * l) (fun i => L.getD i 0) L.length) (nI l) fm ta th tl f h lo po ho x1)) := by
    intro n
    induction n with
    | zero =>
      intro j hj
      have hj : j = L.length := by omega
      subst hj
      have O := hO.mf (lyT_m (t := t) (n := 26) (B := 700 * l) (u := fun i => L.getD i 0) L.length) rfl
      refine lp_x ?_
      show M_go_s31 _ (nI l) fm ta th tl f h lo po ho tld x1 (nI L.length) = _
      unfold M_go_s31
      rw [if_neg (by rw [O.1]; exact nI_nlt (Nat.le_refl _) (by omega))]
    | succ n ih =>
      intro j hj
      have mm := lyT_m (t := t) (n := 26) (B := 700 * l) (u := fun i => L.getD i 0) j
      have O := hO.mf mm rfl
      have N := hM.fr mm rfl
      rw [lp_l (y := (nI (j + 1), lyT t 26 (700 * l) (fun i => L.getD i 0) (j + 1))), ih (j + 1) (by omega)]
      show M_go_s31 _ (nI l) fm ta th tl f h lo po ho tld x1 (nI j) = _
      unfold M_go_s31
      rw [if_pos (by rw [O.1]; exact nI_lt (by omega) (by omega)), rdI_n (n := 700) (N.n 147 700) (by omega) (by decide), O.2.2 j (by omega)]
      simp only [Option.bind_some]
      rw [show (700 : Int32) = nI 700 from rfl, pk_mul, nI_add, wrI_n (n := 7000) (N.n 26 7000) (by omega) (by decide), nI_1]
      rfl
  exact loop L.length 0 (by omega)
/-- the first place that is free -/
theorem m_place {x1 : Int32} (hM : mN t) (hp : p < 256) (h0 : t.I 125 p = 0) (hb : ∀ i, i < p → t.I 125 i ≠ 0) (hF : t.S 123 = nI (cF t)) (hF2 : cF t < 256) (hl : l < 10) (hjt : Int32.toInt64 (t.I 20 l + 1) ≠ 0) (hta : bit ta) (hO : OU t L) : M_go_b102 t (nI l) fm ta th tl f h lo po ho x1 = some (flT t p l fm ta th tl f h lo po ho (dueT t l x1) L) := by
  have h6 := hO.2.1
  unfold M_go_b102 M_go_b105
  have loop : ∀ n j, j + n = p → lp (fun y : Int32 × moS => M_go_s105 y.2 (nI l) fm ta th tl f h lo po ho x1 y.1) (nI j, t) = some (flT t p l fm ta th tl f h lo po ho (dueT t l x1) L) := by
    intro n
    induction n with
    | zero =>
      intro j hj
      have hj : j = p := by omega
      subst hj
      refine lp_x ?_
      show M_go_s105 t (nI l) fm ta th tl f h lo po ho x1 (nI j) = _
      unfold M_go_s105
      rw [rdI_n (n := 256) (hM.n 125 256) hp (by decide), h0]
      simp only [Option.bind_some]
      rw [if_pos trivial]
      refine congrArg xo ?_
      refine (sw_Z (n := 256) (Or.inr rfl) (hM.n 125 256) hp (by decide)).trans ?_
      rw [show (moSI t 125 j 1).S 123 = nI (cF t) from hF]
      refine (sw_I (n := 256) (by exact hM.n 124 256) hF2 (by decide)).trans ?_
      unfold letS
      refine (sw_I (n := 256) (by exact hM.n 126 256) hp (by decide)).trans ?_
      refine (sw_I (n := 256) (by exact hM.n 127 256) hp (by decide)).trans ?_
      refine (sw_Z (n := 256) hta (by exact hM.n 128 256) hp (by decide)).trans ?_
      refine (sw_J (n := 256) (by exact hM.n 129 256) hp (by decide)).trans ?_
      refine (sw_J (n := 256) (by exact hM.n 130 256) hp (by decide)).trans ?_
      refine (sw_I (n := 256) (by exact hM.n 131 256) hp (by decide)).trans ?_
      refine (sw_J (n := 256) (by exact hM.n 132 256) hp (by decide)).trans ?_
      refine (sw_J (n := 256) (by exact hM.n 133 256) hp (by decide)).trans ?_
      refine (sw_I (n := 256) (by exact hM.n 134 256) hp (by decide)).trans ?_
      refine (sw_I (n := 256) (by exact hM.n 135 256) hp (by decide)).trans ?_
      refine (sr_I (n := 10) (by exact hM.n 19 10) hl (by decide)).trans ?_
      refine (sr_I (n := 10) (by exact hM.n 20 10) hl (by decide)).trans ?_
      unfold nzL
      refine (if_neg (by exact hjt)).trans ?_
      refine (sw_I (n := 256) (by exact hM.n 136 256) hp (by decide)).trans ?_
      refine (sw_I (n := 256) (by exact hM.n 137 256) hp (by decide)).trans ?_
      generalize hts : moSI (moSI (moSI (moSI (moSJ (moSJ (moSI (moSJ (moSJ (moSI (moSI (moSI (moSS (moSI (moSI t 125 j 1) 124 (cF t) (nI j)) 123 (t.S 123 + 1)) 126 j (nI l)) 127 j fm) 128 j ta) 129 j th) 130 j tl) 131 j f) 132 j h) 133 j lo) 134 j po) 135 j ho) 136 j (dueT t l x1)) 137 j (nI L.length) = ts
      have mts : mfr [123, 124, 125, 126, 127, 128, 129, 130, 131, 132, 133, 134, 135, 136, 137] t ts := by
        rw [← hts]
        exact ((((((((((((((mfr.si (by decide)).tr (mfr.si (by decide))).tr (mfr.ss (by decide))).tr (mfr.si (by decide))).tr (mfr.si (by decide))).tr (mfr.si (by decide))).tr (mfr.sj (by decide))).tr (mfr.sj (by decide))).tr (mfr.si (by decide))).tr (mfr.sj (by decide))).tr (mfr.sj (by decide))).tr (mfr.si (by decide))).tr (mfr.si (by decide))).tr (mfr.si (by decide))).tr (mfr.si (by decide))
      have hO1 := hO.mf mts rfl
      have hM1 := hM.fr mts rfl
      have fin : M_go_b288 ts (nI j) 0 = some (lyT ts 138 (700 * j) (fun i => L.getD i 0) L.length) := by
        unfold M_go_b288
        have lo2 : ∀ n i, i + n = L.length → lp (fun y : Int32 × moS => M_go_s288 y.2 (nI j) y.1) (nI i, lyT ts 138 (700 * j) (fun i => L.getD i 0) i) = some (lyT ts 138 (700 * j) (fun i => L.getD i 0) L.length) := by
          intro n
          induction n with
          | zero =>
            intro i hi
            have hi : i = L.length := by omega
            subst hi
            have O := hO1.mf (lyT_m (t := ts) (n := 138) (B := 700 * j) (u := fun i => L.getD i 0) L.length) rfl
            refine lp_x ?_
            show M_go_s288 _ (nI j) (nI L.length) = _
            unfold M_go_s288
            rw [if_neg (by rw [O.1]; exact nI_nlt (Nat.le_refl _) (by omega))]
          | succ n ih =>
            intro i hi
            have mm := lyT_m (t := ts) (n := 138) (B := 700 * j) (u := fun i => L.getD i 0) i
            have O := hO1.mf mm rfl
            have N := hM1.fr mm rfl
            rw [lp_l (y := (nI (i + 1), lyT ts 138 (700 * j) (fun i => L.getD i 0) (i + 1))), ih (i + 1) (by omega)]
            show M_go_s288 _ (nI j) (nI i) = _
            unfold M_go_s288
            rw [if_pos (by rw [O.1]; exact nI_lt (by omega) (by omega)), rdI_n (n := 700) (N.n 147 700) (by omega) (by decide), O.2.2 i (by omega)]
            simp only [Option.bind_some]
            rw [show (700 : Int32) = nI 700 from rfl, pk_mul, nI_add, wrI_n (n := 179200) (N.n 138 179200) (by omega) (by decide), nI_1]
            rfl
        exact lo2 L.length 0 (by omega)
      unfold flT
      rw [hts, ← fin, ← hts]
      have e48 : t.S 148 = nI L.length := hO.1
      rw [← e48]
      rfl
    | succ n ih =>
      intro j hj
      rw [lp_l (y := (nI (j + 1), t)), ih (j + 1) (by omega)]
      show M_go_s105 t (nI l) fm ta th tl f h lo po ho x1 (nI j) = _
      unfold M_go_s105
      rw [rdI_n (n := 256) (hM.n 125 256) (by omega) (by decide)]
      simp only [Option.bind_some]
      rw [if_neg (hb j (by omega)), nI_1]
  exact loop p 0 (by omega)
end Mg
