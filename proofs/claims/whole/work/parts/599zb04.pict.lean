/-! The start: its picture. -/
def stO : List Nat := [2, 1, 4, 3, 6, 5, 7, 8, 9, 10, 11, 14, 13, 15, 16, 12, 18, 17, 19, 20, 0]
def stE (q : Nat → Nat) (i : Nat) : pmE := match i with
  | 0 => .inr (11, rfF (q 1) (q 2) (q 3) (q 4) (q 5) (q 6) (q 7) (q 8) (q 9) (q 10) (q 11) (q 12) (q 13) (q 14) (q 15) (q 16) (q 17) (q 18) (q 19) (q 20))
  | 1 => .inr (0, [.ref (q 2), .int 0])
  | 2 => .inl (.byte, 64, .inl fun _ => 0)
  | 3 => .inr (0, [.ref (q 4), .int 0])
  | 4 => .inl (.byte, 64, .inl fun _ => 0)
  | 5 => .inr (0, [.ref (q 6), .int 0])
  | 6 => .inl (.byte, 64, .inl fun _ => 0)
  | 7 => .inl (.object "RoutingField$Link", 10, .inr (.inr (.inr (.inr fun _ => none))))
  | 8 => .inl (.object "RoutingField$Router", 6, .inr (.inr (.inr (.inr fun _ => none))))
  | 9 => .inl (.object "RoutingField$PrefixList", 8, .inr (.inr (.inr (.inr fun _ => none))))
  | 10 => .inl (.object "RoutingField$Datagram", 256, .inr (.inr (.inr (.inr fun _ => none))))
  | 11 => .inl (.object "RoutingField$Datagram", 258, .inr (.inr (.inr (.inr fun _ => none))))
  | 12 => .inr (2, daF (q 13) (q 15) (q 16))
  | 13 => .inr (0, [.ref (q 14), .int 0])
  | 14 => .inl (.byte, 600, .inl fun _ => 0)
  | 15 => .inr (5, [.int 4, .long 0, .long 0, .int 0])
  | 16 => .inr (5, [.int 4, .long 0, .long 0, .int 0])
  | 17 => .inr (10, [.ref (q 18), .int 0])
  | 18 => .inl (.object "RoutingField$Route", 16, .inr (.inr (.inr (.inr fun _ => none))))
  | _ => .inr (5, [.int 4, .long 0, .long 0, .int 0])
section Sp
variable {L : List Nat} {M : pmM} {i : Nat}
theorem st_by (hL : L.length = 21) (hn : L.Nodup) (h : i = 1 ∨ i = 3 ∨ i = 5 ∨ i = 13) : cM M (stS L) (stq L i) = some (.inr (0, [.ref (stq L (i + 1)), .int 0])) := by
  have hK := stK_q hL hn (i := i) (by omega)
  have p := st_p0 hL hn h
  have e : cM M (stS L) (stq L i) = some (.inr (0, [va_rf (sPt L 0 (stq L i)), .int 0])) := by
    rcases h with rfl | rfl | rfl | rfl
    · exact cM_o (u := 1) (congrArg Prod.fst hK) rfl rfl rfl
    · exact cM_o (u := 32) (congrArg Prod.fst hK) rfl rfl rfl
    · exact cM_o (u := 32) (congrArg Prod.fst hK) rfl rfl rfl
    · exact cM_o (u := 3) (congrArg Prod.fst hK) rfl rfl rfl
  rw [e, p]
  rfl
set_option maxRecDepth 100000 in
theorem st_e (hL : L.length = 21) (hn : L.Nodup) (hi : i < 21) : cM M (stS L) (stq L i) = some (stE (stq L) i) := by
  have hK := stK_q hL hn hi
  have c : i = 0 ∨ i = 1 ∨ i = 2 ∨ i = 3 ∨ i = 4 ∨ i = 5 ∨ i = 6 ∨ i = 7 ∨ i = 8 ∨ i = 9 ∨ i = 10 ∨ i = 11 ∨ i = 12 ∨ i = 13 ∨ i = 14 ∨ i = 15 ∨ i = 16 ∨ i = 17 ∨ i = 18 ∨ i = 19 ∨ i = 20 := by omega
  rcases c with rfl | rfl | rfl | rfl | rfl | rfl | rfl | rfl | rfl | rfl | rfl | rfl | rfl | rfl | rfl | rfl | rfl | rfl | rfl | rfl | rfl
  · exact cM_o (u := 30) (congrArg Prod.fst hK) rfl rfl rfl
  · exact st_by hL hn (Or.inl rfl)
  · exact cM_i (t := 101) (n := 64) hK rfl rfl
  · exact st_by hL hn (Or.inr (Or.inl rfl))
  · exact cM_i (t := 124) (n := 64) hK rfl rfl
  · exact st_by hL hn (Or.inr (Or.inr (Or.inl rfl)))
  · exact cM_i (t := 124) (n := 64) hK rfl rfl
  · exact cM_q (t := 130) (n := 10) hK rfl rfl
  · exact cM_q (t := 131) (n := 6) hK rfl rfl
  · exact cM_q (t := 132) (n := 8) hK rfl rfl
  · exact cM_q (t := 133) (n := 256) hK rfl rfl
  · exact cM_q (t := 134) (n := 258) hK rfl rfl
  · exact cM_o (u := 6) (congrArg Prod.fst hK) rfl rfl rfl
  · exact st_by hL hn (Or.inr (Or.inr (Or.inr rfl)))
  · exact cM_i (t := 129) (n := 600) hK rfl rfl
  · exact cM_o (u := 12) (congrArg Prod.fst hK) rfl rfl rfl
  · exact cM_o (u := 13) (congrArg Prod.fst hK) rfl rfl rfl
  · exact cM_o (u := 29) (congrArg Prod.fst hK) rfl rfl rfl
  · exact cM_q (t := 144) (n := 16) hK rfl rfl
  · exact cM_o (u := 18) (congrArg Prod.fst hK) rfl rfl rfl
  · exact cM_o (u := 39) (congrArg Prod.fst hK) rfl rfl rfl
theorem st_pic (hL : L.length = 21) (hn : L.Nodup) : pm_ups M (stO.map fun i => (stq L i, stE (stq L) i)) = cM M (stS L) := by
  have hk : ((stO.map fun i => (stq L i, stE (stq L) i)).map fun p => p.1).Nodup := by
    rw [List.map_map]
    show (stO.map (stq L)).Nodup
    unfold List.Nodup
    rw [List.pairwise_map]
    refine List.Pairwise.imp_of_mem ?_ (by decide : stO.Nodup)
    intro a b ha hb ne e
    have h21 : ∀ a ∈ stO, a < 21 := by decide
    exact ne (st_in hL hn (h21 a ha) (h21 b hb) e)
  funext a
  by_cases c : a ∈ L
  · obtain ⟨hi, e⟩ := st_ix hL c
    generalize L.idxOf a = i at hi e
    subst e
    have hm : i ∈ stO := (by decide : ∀ i, i < 21 → i ∈ stO) i hi
    exact (pm_ups_at _ M (stq L i, stE (stq L) i) (List.mem_map.mpr ⟨i, hm, rfl⟩) hk).trans (st_e hL hn hi).symm
  · rw [cM_r (by rw [stK_n c]), pm_ups_not]
    intro p hp e
    obtain ⟨i, hm, rfl⟩ := List.mem_map.mp hp
    have h21 : ∀ a ∈ stO, a < 21 := by decide
    exact c (by rw [← e]; exact st_mem hL (h21 i hm))
set_option maxRecDepth 100000 in
theorem rf_pic {x qt qta qx qxa qp qpa ql qr qi qf qs qd qd1 qd2 qd3 qd4 qo qoa qe qh : Nat} (hn : [x, qt, qta, qx, qxa, qp, qpa, ql, qr, qi, qf, qs, qd, qd1, qd2, qd3, qd4, qo, qoa, qe, qh].Nodup) : rfM M x qt qta qx qxa qp qpa ql qr qi qf qs qd qd1 qd2 qd3 qd4 qo qoa qe qh = cM M (stS [x, qt, qta, qx, qxa, qp, qpa, ql, qr, qi, qf, qs, qd, qd1, qd2, qd3, qd4, qo, qoa, qe, qh]) := (show _ = pm_ups M (stO.map fun i => (stq [x, qt, qta, qx, qxa, qp, qpa, ql, qr, qi, qf, qs, qd, qd1, qd2, qd3, qd4, qo, qoa, qe, qh] i, stE (stq [x, qt, qta, qx, qxa, qp, qpa, ql, qr, qi, qf, qs, qd, qd1, qd2, qd3, qd4, qo, qoa, qe, qh]) i)) from rfl).trans (st_pic rfl hn)
end Sp
