/-! A number that came with a key is not older: both sides. -/
section Fj
variable {G H : Nat → Nat → Nat} {sa : Nat → Nat} {x r p b1 N kc ks : Nat} {s : cS} {t : moS} {h : Int64} {E : List (Int32 × Int64)} {Q : Int32 → cS → Nat → Nat → Prop}
/-- how it goes on -/
def FrK (G H : Nat → Nat → Nat) (sa : Nat → Nat) (x : Nat) (E : List (Int32 × Int64)) (s : cS) (t : moS) (q kc ks : Nat) (o : Option (Int32 × moS)) (Q : Int32 → cS → Nat → Nat → Prop) : Prop := ∀ v s' t' kc' ks', o = some (v, t') → (v = 0 ∨ v = 1) → RR G H sa x s' t' → MV t' → SRC E t' → mfr [101, 102, 103, 104] t t' → fr [8, 115, 120] [(96, 8), (97, 8)] [] s s' → (∀ b, (s.K b).1 = 8 → b ≠ G 2 q → cpZ s' b = cpZ s b) → kc + soC s' (G 2 q) ≤ kc' + soC s (G 2 q) → ks + soS s' (G 2 q) ≤ ks' + soS s (G 2 q) → Q v s' kc' ks'
theorem c_frs (hR : RR G H sa x s t) (hM : MV t) (hS : SRC E t) (hE : E.length ≤ 600) (hr : r < cR t) (hp : p < cI t r) (hb1 : okO s 5 b1) (hh : s.J 101 b1 = h) (hin : sIn E t (t.I 71 (4 * r + p)) h) (hN : N < 2 ^ 32) (hkc : soC s (G 2 (4 * r + p)) ≤ kc) (hks : soS s (G 2 (4 * r + p)) ≤ ks) (k : FrK G H sa x E s t (4 * r + p) kc ks (M_isNotOlder t (nI (4 * r + p)) h (Int64.ofNat N)) Q) : C_Po_isFresh sa (G 2 (4 * r + p)) (some b1) (nI N) s kc ks Q := by
  have h6 := hM.nR
  have hx4 := (hM.r hr).2.2.2.2.2.2.2.2.2.1.n.2.2
  have hp4 : p < 4 := Nat.lt_of_lt_of_le hp hx4
  have hpo := (hR.q.1.2.2.2.2.2.1 r hr).2.2.2.2.2.2 p hp
  have kc8 : (s.K (G 2 (4 * r + p))).1 = 8 := hpo.1.1
  obtain ⟨i98, w1, w2, cap, p1, p2, k1, k2, hn, hc4, hc8, hv⟩ := hpo.2.2.2.2.2.2.2
  have ln := so_q hS (4 * r + p)
  have lh := hin.lh hS
  obtain ⟨hs1, hs2⟩ := hM.2.2.2.2.2.2.2.2.2.1
  obtain ⟨n101, e101, -, hn8⟩ := hs1
  have c101 : (t.S 101).toNatClampNeg = n101 := by rw [e101, nI_clamp (by omega)]
  rw [c101] at hs2
  have hn4 := so_n hS hM
  rw [c101] at hn4
  have hNN := hM.1.1.2.2.2
  have hnu : nu4 (Int64.ofNat N) := ⟨N, hN, rfl⟩
  have cz : cpZ s (G 2 (4 * r + p)) = cap := by
    unfold cpZ
    rw [p1]
    show (s.K w1).2 = cap
    rw [k1]
  -- the class's row and the model's highs
  have eqv : ∀ i, i < (msL t (4 * r + p)).length → (s.E w1 i = (ush h 32).toInt32 ↔ t.J 103 ((msL t (4 * r + p)).getD i 0) = h) := fun i hi => by
    rw [(hv i hi).1]
    have hk := (ms_mem (gd_mem hi)).1
    obtain ⟨⟨r', p', -, -, -, b4⟩, -⟩ := hS.2.2.2.2.2.1 _ hk
    exact lh_inj (b4.lh hS) lh
  have uniq : ∀ j k, j < n101 → k < n101 → t.I 102 j = nI (4 * r + p) ∧ t.J 103 j = h → t.I 102 k = nI (4 * r + p) ∧ t.J 103 k = h → j = k := fun j k hj hk a b => hS.2.2.2.2.2.2 j k (by rw [c101]; exact hj) (by rw [c101]; exact hk) (a.1.trans b.1.symm) (a.2.trans b.2.symm)
  have old : ∀ i, i < (msL t (4 * r + p)).length → (((Int32.toInt64 (nI N)) &&& (4294967295 : Int64)) < ((Int32.toInt64 (s.E w2 i)) &&& (4294967295 : Int64)) ↔ Int64.ofNat N < t.J 104 ((msL t (4 * r + p)).getD i 0)) := fun i hi => by
    rw [(hv i hi).2]
    obtain ⟨M, hM', e⟩ := (hS.2.2.2.2.2.1 _ (ms_mem (gd_mem hi)).1).2
    rw [e, L_toI, L_lo hN, L_lo hM']
  have modA : ∀ i, i < (msL t (4 * r + p)).length → s.E w1 i = (ush h 32).toInt32 → (Int64.ofNat N < t.J 104 ((msL t (4 * r + p)).getD i 0) → M_isNotOlder t (nI (4 * r + p)) h (Int64.ofNat N) = some (0, t)) ∧ (¬ Int64.ofNat N < t.J 104 ((msL t (4 * r + p)).getD i 0) → M_isNotOlder t (nI (4 * r + p)) h (Int64.ofNat N) = some (1, moSJ t 104 ((msL t (4 * r + p)).getD i 0) (Int64.ofNat N))) := fun i hi he => by
    obtain ⟨y1, y2⟩ := ms_mem (gd_mem hi)
    rw [c101] at y1
    refine m_oldA e101 hNN hs2 y1 ⟨y2, (eqv i hi).mp he⟩ fun j hj z => ?_
    have := uniq j _ (by omega) y1 z ⟨y2, (eqv i hi).mp he⟩
    omega
  have modB : (∀ i, i < (msL t (4 * r + p)).length → s.E w1 i ≠ (ush h 32).toInt32) → (∀ j, j < n101 → ¬ (t.I 102 j = nI (4 * r + p) ∧ t.J 103 j = h)) := fun no j hj z => by
    obtain ⟨i, hi, e⟩ := gd_ex (ms_in (t := t) (q := 4 * r + p) (by rw [c101]; exact hj) z.1)
    exact no i hi ((eqv i hi).mpr (by rw [e]; exact z.2))
  have hap : ∀ t', apO t t' n101 (nI (4 * r + p)) h (Int64.ofNat N) → (∀ j, j < n101 → ¬ (t.I 102 j = nI (4 * r + p) ∧ t.J 103 j = h)) → MV t' ∧ SRC E t' ∧ msL t' (4 * r + p) = msL t (4 * r + p) ++ [n101] ∧ ∀ q', q' < 24 → q' ≠ 4 * r + p → msL t' q' = msL t q' ∧ ∀ k, k ∈ msL t q' → t'.J 103 k = t.J 103 k ∧ t'.J 104 k = t.J 104 k := fun t' o no => by
    refine ⟨?_, src_ap hS e101 (by omega) o (by omega) hp hin hnu no, ?_, fun q' h24 hne => ⟨?_, fun k hk => ?_⟩⟩
    · obtain ⟨m, y1, y2, y3, y4, y5⟩ := o
      refine mv_so hM m y4 ⟨⟨n101 + 1, y1, by omega, by omega⟩, by rw [y1, nI_clamp (by omega)]; exact y5⟩ fun i hi => ?_
      rw [y1, nI_clamp (by omega)] at hi
      by_cases z : i < n101
      · rw [(y3 i z).1]
        exact hM.2.2.2.2.2.2.2.2.2.2 i (by rw [c101]; exact z)
      · rw [show i = n101 by omega, y2.1]
        exact ⟨r, p, hr, hp, rfl⟩
    · have := ms_ap (q := 4 * r + p) e101 (by omega) o (by omega) (by omega)
      rw [if_pos rfl] at this
      exact this
    · have := ms_ap (q := q') e101 (by omega) o (by omega) (by omega)
      rw [if_neg hne, List.append_nil] at this
      exact this
    · have := (ms_mem hk).1
      rw [c101] at this
      exact (o.2.2.2.1 k this).2
  have vlC : ∀ t' s4 v1 v2, apO t t' n101 (nI (4 * r + p)) h (Int64.ofNat N) → msL t' (4 * r + p) = msL t (4 * r + p) ++ [n101] → (∀ j, j < (msL t (4 * r + p)).length → cS.E s4 v1 j = s.E w1 j ∧ s4.E v2 j = s.E w2 j) → ∀ j, j < (msL t (4 * r + p)).length + 1 → (if j = (msL t (4 * r + p)).length then (ush h 32).toInt32 else s4.E v1 j) = (ush (t'.J 103 ((msL t' (4 * r + p)).getD j 0)) 32).toInt32 ∧ (if j = (msL t (4 * r + p)).length then nI N else s4.E v2 j) = (t'.J 104 ((msL t' (4 * r + p)).getD j 0)).toInt32 := fun t' s4 v1 v2 o em ee j hj => by
    rw [em]
    by_cases z : j = (msL t (4 * r + p)).length
    · rw [if_pos z, if_pos z, List.getD_eq_getElem?_getD, List.getElem?_append_right (by omega), z, Nat.sub_self]
      show (ush h 32).toInt32 = (ush (t'.J 103 n101) 32).toInt32 ∧ nI N = (t'.J 104 n101).toInt32
      rw [o.2.2.1.2.1, o.2.2.1.2.2, L_toI]
      exact ⟨rfl, rfl⟩
    · have hj : j < (msL t (4 * r + p)).length := by omega
      have eg : (msL t (4 * r + p) ++ [n101]).getD j 0 = (msL t (4 * r + p)).getD j 0 := by
        rw [List.getD_eq_getElem?_getD, List.getD_eq_getElem?_getD, List.getElem?_append_left hj]
      have hk := (ms_mem (gd_mem hj)).1
      rw [c101] at hk
      rw [if_neg z, if_neg z, eg, (o.2.2.2.1 _ hk).2.1, (o.2.2.2.1 _ hk).2.2, (ee j hj).1, (ee j hj).2]
      exact hv j hj
  refine w_fresh (n := (msL t (4 * r + p)).length) (cap := cap) kc8 p1 p2 k1 k2 hn hc4 hc8 i98 hb1 hh rfl ?_ ?_ ?_ ?_
  · intro i hi he ho
    exact k 0 s t kc ks ((modA i hi he).1 ((old i hi).mp ho)) (Or.inl rfl) hR hM hS mfr.rf fr.rf (fun _ _ _ => rfl) (Nat.le_refl _) (Nat.le_refl _)
  · intro i hi he ho
    have em := (modA i hi he).2 (fun z => ho ((old i hi).mpr z))
    generalize hk0 : (msL t (4 * r + p)).getD i 0 = k0 at em
    have m : mfr [101, 102, 103, 104] t (moSJ t 104 k0 (Int64.ofNat N)) := mfr.sj (by decide)
    have e3 : (moSJ t 104 k0 (Int64.ofNat N)).J 103 = t.J 103 := moSJ_n (by decide)
    have e4 : ∀ j, (moSJ t 104 k0 (Int64.ofNat N)).J 104 j = if j = k0 then Int64.ofNat N else t.J 104 j := fun j => by rw [moSJ_s]; rfl
    have hM' : MV (moSJ t 104 k0 (Int64.ofNat N)) := mv_so hM m hNN hM.2.2.2.2.2.2.2.2.2.1 hM.2.2.2.2.2.2.2.2.2.2
    have ems : ∀ q, msL (moSJ t 104 k0 (Int64.ofNat N)) q = msL t q := fun q => ms_eq rfl rfl
    have vB : ∀ j, j < (msL t (4 * r + p)).length → (if j = i then (ush h 32).toInt32 else s.E w1 j) = (ush ((moSJ t 104 k0 (Int64.ofNat N)).J 103 ((msL (moSJ t 104 k0 (Int64.ofNat N)) (4 * r + p)).getD j 0)) 32).toInt32 ∧ (if j = i then nI N else s.E w2 j) = ((moSJ t 104 k0 (Int64.ofNat N)).J 104 ((msL (moSJ t 104 k0 (Int64.ofNat N)) (4 * r + p)).getD j 0)).toInt32 := fun j hj => by
      rw [ems, e3, e4]
      by_cases z : j = i
      · rw [if_pos z, if_pos z, z, hk0, if_pos rfl, L_toI]
        refine ⟨?_, rfl⟩
        have := (eqv i hi).mp he
        rw [hk0] at this
        rw [this]
      · have : (msL t (4 * r + p)).getD j 0 ≠ k0 := by
          rw [← hk0]
          exact nd_ne ms_nd hj hi z
        rw [if_neg z, if_neg z, if_neg this]
        exact hv j hj
    have oB : ∀ q', q' < 24 → q' ≠ 4 * r + p → msL (moSJ t 104 k0 (Int64.ofNat N)) q' = msL t q' ∧ ∀ k, k ∈ msL t q' → (moSJ t 104 k0 (Int64.ofNat N)).J 103 k = t.J 103 k ∧ (moSJ t 104 k0 (Int64.ofNat N)).J 104 k = t.J 104 k := fun q' h24 hne => ⟨ems q', fun k hk => by
      rw [e3, e4]
      refine ⟨rfl, if_neg fun z => hne ?_⟩
      have a1 := (ms_mem hk).2
      have a2 := (ms_mem (gd_mem hi)).2
      rw [hk0, ← z, a1] at a2
      exact nI_inj a2 (by omega) (by omega)⟩
    obtain ⟨z1, z2, z3⟩ := frs_end (i := i) (a := (ush h 32).toInt32) (nu := nI N) (n' := (msL t (4 * r + p)).length) (t' := moSJ t 104 k0 (Int64.ofNat N)) hR hM hr hp hR.q.1.1 (fr.rf (s := s)) (fun _ _ _ => rfl) (fun _ _ _ => ⟨rfl, rfl⟩) p1 p2 k1 k2 hc4 hc8 m (by rw [ems]) hn vB oB
    refine k 1 _ _ kc ks em (Or.inr rfl) z1 hM' (src_104 hS hnu) m z2 (fun b hb _ => cpZ_same rfl fun _ _ => rfl) ?_ ?_
    · unfold soC
      rw [cpZ_same (s := s) (s' := cSI (cSE (cSE s w1 i (ush h 32).toInt32) w2 i (nI N)) 98 (G 2 (4 * r + p)) (nI (msL t (4 * r + p)).length)) rfl fun _ _ => rfl]
      exact Nat.le_refl _
    · unfold soS
      rw [cpZ_same (s := s) (s' := cSI (cSE (cSE s w1 i (ush h 32).toInt32) w2 i (nI N)) 98 (G 2 (4 * r + p)) (nI (msL t (4 * r + p)).length)) rfl fun _ _ => rfl]
      exact Nat.le_refl _
  · intro no hc
    obtain ⟨t', em, o⟩ := m_oldB (num := Int64.ofNat N) e101 hNN hs2 (by omega) (modB no)
    obtain ⟨hM', hS', ems, oth⟩ := hap t' o (modB no)
    obtain ⟨z1, z2, z3⟩ := frs_end (i := (msL t (4 * r + p)).length) (a := (ush h 32).toInt32) (nu := nI N) (n' := (msL t (4 * r + p)).length + 1) (t' := t') hR hM hr hp hR.q.1.1 (fr.rf (s := s)) (fun _ _ _ => rfl) (fun _ _ _ => ⟨rfl, rfl⟩) p1 p2 k1 k2 hc4 hc8 o.1 (by rw [ems, List.length_append]; rfl) (by omega) (vlC t' s w1 w2 o ems fun _ _ => ⟨rfl, rfl⟩) oth
    refine k 1 _ _ kc ks em (Or.inr rfl) z1 hM' hS' o.1 z2 (fun b hb _ => cpZ_same rfl fun _ _ => rfl) ?_ ?_
    · unfold soC
      rw [cpZ_same (s := s) (s' := cSI (cSE (cSE s w1 (msL t (4 * r + p)).length (ush h 32).toInt32) w2 (msL t (4 * r + p)).length (nI N)) 98 (G 2 (4 * r + p)) (nI ((msL t (4 * r + p)).length + 1))) rfl fun _ _ => rfl]
      exact Nat.le_refl _
    · unfold soS
      rw [cpZ_same (s := s) (s' := cSI (cSE (cSE s w1 (msL t (4 * r + p)).length (ush h 32).toInt32) w2 (msL t (4 * r + p)).length (nI N)) 98 (G 2 (4 * r + p)) (nI ((msL t (4 * r + p)).length + 1))) rfl fun _ _ => rfl]
      exact Nat.le_refl _
  · intro no hc
    have c1 : cap ≤ 625 := by omega
    have b1 : (1400 - cap) / 2 ≤ kc := by
      unfold soC at hkc
      rw [cz] at hkc
      exact hkc
    have b2 : 4 * (1400 - cap) ≤ ks := by
      unfold soS at hks
      rw [cz] at hks
      exact hks
    refine ⟨by omega, by omega, fun q1 s1 q2 s2 e1 e2 => ?_⟩
    obtain ⟨t', em, o⟩ := m_oldB (num := Int64.ofNat N) e101 hNN hs2 (by omega) (modB no)
    obtain ⟨hM', hS', ems, oth⟩ := hap t' o (modB no)
    obtain ⟨y1, y2, y3⟩ := hp_at (L1 := []) e1
    obtain ⟨x1, x2, x3⟩ := hp_at (L1 := []) e2
    have k115 : s1.K q1 = (115, 2 * cap) := ov_K y1
    have k120 : s2.K q2 = (120, 2 * cap) := ov_K x1
    have o1 : ∀ b, (s.K b).1 ≠ 0 → ov s1 b = ov s b := fun b hb => e1.1 b (fun p hp => by
      rw [List.mem_singleton.mp hp]
      exact fun z => hb (by rw [← z]; exact y2.1))
    have o2 : ∀ b, (s1.K b).1 ≠ 0 → ov s2 b = ov (cSP s1 96 (G 2 (4 * r + p)) (some q1)) b := fun b hb => e2.1 b (fun p hp => by
      rw [List.mem_singleton.mp hp]
      exact fun z => hb (by rw [← z]; exact x2.1))
    obtain ⟨g1, f1⟩ := rgl_newA hR.q.1.1 e1 (show 100 ≤ 115 by decide) (show 115 ≠ 103 by decide)
    have kc1 : (s1.K (G 2 (4 * r + p))).1 = 8 := f1.r kc8
    have old8 : ∀ b, (s1.K b).1 = 8 → (s.K b).1 = 8 := fun b hb => by
      by_cases z : b = q1
      · rw [z, k115] at hb
        exact absurd hb (show ¬ (115 : Nat) = 8 by decide)
      · have : ov s1 b = ov s b := e1.1 b (fun p hp => by
          rw [List.mem_singleton.mp hp]
          exact fun y => z y.symm)
        have hk := ov_K this
        rw [hk] at hb
        exact hb
    have old8' : ∀ b, (s2.K b).1 = 8 → (s1.K b).1 = 8 := fun b hb => by
      by_cases z : b = q2
      · rw [z, k120] at hb
        exact absurd hb (show ¬ (120 : Nat) = 8 by decide)
      · have : ov s2 b = ov (cSP s1 96 (G 2 (4 * r + p)) (some q1)) b := e2.1 b (fun p hp => by
          rw [List.mem_singleton.mp hp]
          exact fun y => z y.symm)
        have hk := ov_K this
        rw [hk] at hb
        exact hb
    have n8 : ∀ b, (s.K b).1 = 8 → (s.K b).1 ≠ 0 := fun b hb => by rw [hb]; decide
    have g2 : RGl G H sa x (cSP s1 96 (G 2 (4 * r + p)) (some q1)) := rgl_96 g1 kc1 (Or.inl ⟨rfl, by rw [k115]⟩) fun b hb z => by
      have hb0 := old8 b hb
      rw [ov_P (o1 b (n8 b hb0))] at z
      obtain ⟨d, -, d1, -, d2, -⟩ := hR.q.1.1.2.2.2.2.2.2.2.2.2.2.2.2.2.2.2.1 b hb0
      have : d = q1 := Option.some.inj (d1.symm.trans z)
      rw [this, y2.1] at d2
      exact absurd d2 (by decide)
    obtain ⟨g3, f3⟩ := rgl_newA g2 e2 (show 100 ≤ 120 by decide) (show 120 ≠ 103 by decide)
    have kc2 : (s2.K (G 2 (4 * r + p))).1 = 8 := f3.r kc1
    have g4 : RGl G H sa x (cSP s2 97 (G 2 (4 * r + p)) (some q2)) := rgl_96 g3 kc2 (Or.inr ⟨rfl, by rw [k120]⟩) fun b hb z => by
      have hb1 := old8' b hb
      have hb0 := old8 b hb1
      rw [ov_P (o2 b (by rw [hb1]; decide))] at z
      have z : (cSP s1 96 (G 2 (4 * r + p)) (some q1)).P 97 b = some q2 := z
      rw [cSP_g (by decide), ov_P (o1 b (n8 b hb0))] at z
      obtain ⟨-, d, -, d1, -, d2⟩ := hR.q.1.1.2.2.2.2.2.2.2.2.2.2.2.2.2.2.2.1 b hb0
      have ed : d = q2 := Option.some.inj (d1.symm.trans z)
      have : (s1.K q2).1 = 120 := by rw [← ed]; exact f1.r d2
      have y := x2.1
      have y : (s1.K q2).1 = 0 := y
      omega
    have f4 : fr [] [(96, 8), (97, 8)] [] s (cSP s2 97 (G 2 (4 * r + p)) (some q2)) := ((f1.wk (by decide) (by decide) (by decide)).tr (fr.sp (by rw [kc1]; decide))).tr ((f3.wk (by decide) (by decide) (by decide)).tr (fr.sp (by rw [kc2]; decide)))
    have i4 : ∀ g b, (s.K b).1 = 8 → (cSP s2 97 (G 2 (4 * r + p)) (some q2)).I g b = s.I g b := fun g b hb => by
      show s2.I g b = _
      rw [ov_I (o2 b (by rw [f1.r hb]; decide))]
      show s1.I g b = _
      rw [ov_I (o1 b (n8 b hb))]
      rfl
    have p4 : ∀ b, (s.K b).1 = 8 → b ≠ G 2 (4 * r + p) → (cSP s2 97 (G 2 (4 * r + p)) (some q2)).P 96 b = s.P 96 b ∧ (cSP s2 97 (G 2 (4 * r + p)) (some q2)).P 97 b = s.P 97 b := fun b hb hne => by
      constructor
      · rw [cSP_g (by decide), ov_P (o2 b (by rw [f1.r hb]; decide))]
        show (cSP s1 96 (G 2 (4 * r + p)) (some q1)).P 96 b = _
        rw [cSP_a hne, ov_P (o1 b (n8 b hb))]
        rfl
      · rw [cSP_a hne, ov_P (o2 b (by rw [f1.r hb]; decide))]
        show (cSP s1 96 (G 2 (4 * r + p)) (some q1)).P 97 b = _
        rw [cSP_g (by decide), ov_P (o1 b (n8 b hb))]
        rfl
    have q1n : (s1.K q1).1 ≠ 0 := by rw [k115]; show 115 ≠ 0; decide
    have p96 : (cSP s2 97 (G 2 (4 * r + p)) (some q2)).P 96 (G 2 (4 * r + p)) = some q1 := by
      rw [cSP_g (by decide), ov_P (o2 _ (by rw [kc1]; decide))]
      show (cSP s1 96 (G 2 (4 * r + p)) (some q1)).P 96 (G 2 (4 * r + p)) = some q1
      exact cSP_s
    have kq1 : (cSP s2 97 (G 2 (4 * r + p)) (some q2)).K q1 = (115, 2 * cap) := by
      show s2.K q1 = _
      rw [ov_K (o2 q1 q1n)]
      exact k115
    have eE : ∀ j, j < (msL t (4 * r + p)).length → (cSP s2 97 (G 2 (4 * r + p)) (some q2)).E q1 j = s.E w1 j ∧ (cSP s2 97 (G 2 (4 * r + p)) (some q2)).E q2 j = s.E w2 j := fun j hj => by
      constructor
      · show s2.E q1 j = _
        rw [ov_E (o2 q1 q1n)]
        show s1.E q1 j = _
        rw [ov_E y1]
        show (if j < cap then s.E w1 j else 0) = _
        rw [if_pos (by omega)]
      · show s2.E q2 j = _
        rw [ov_E x1]
        show (if j < cap then s.E w2 j else 0) = _
        rw [if_pos (by omega)]
    obtain ⟨z1, z2, z3⟩ := frs_end (i := (msL t (4 * r + p)).length) (a := (ush h 32).toInt32) (nu := nI N) (n' := (msL t (4 * r + p)).length + 1) (t' := t') hR hM hr hp g4 f4 i4 p4 p96 cSP_s kq1 k120 (by omega) (by omega) o.1 (by rw [ems, List.length_append]; rfl) (by omega) (vlC t' _ q1 q2 o ems eE) oth
    have cz' : cpZ (cSI (cSE (cSE (cSP s2 97 (G 2 (4 * r + p)) (some q2)) q1 (msL t (4 * r + p)).length (ush h 32).toInt32) q2 (msL t (4 * r + p)).length (nI N)) 98 (G 2 (4 * r + p)) (nI ((msL t (4 * r + p)).length + 1))) (G 2 (4 * r + p)) = 2 * cap := by
      unfold cpZ
      rw [show (cSI (cSE (cSE (cSP s2 97 (G 2 (4 * r + p)) (some q2)) q1 (msL t (4 * r + p)).length (ush h 32).toInt32) q2 (msL t (4 * r + p)).length (nI N)) 98 (G 2 (4 * r + p)) (nI ((msL t (4 * r + p)).length + 1))).P 96 (G 2 (4 * r + p)) = some q1 from p96]
      show ((cSP s2 97 (G 2 (4 * r + p)) (some q2)).K q1).2 = 2 * cap
      rw [kq1]
    refine k 1 _ _ (kc - 2) (ks - 4 * cap) em (Or.inr rfl) z1 hM' hS' o.1 z2 (fun b hb hne => cpZ_same (p4 b hb hne).1 fun w hw => ?_) ?_ ?_
    · obtain ⟨d, -, d1, -, d2, -⟩ := hR.q.1.1.2.2.2.2.2.2.2.2.2.2.2.2.2.2.2.1 b hb
      have ed : d = w := Option.some.inj (d1.symm.trans hw)
      exact (f4 w (by rw [← ed, d2]; decide)).1
    · unfold soC
      rw [cz', cz]
      omega
    · unfold soS
      rw [cz', cz]
      omega
end Fj
