/-! The model's haveRoom, and whether all numbers are good. -/
section Ht
variable {G H : Nat → Nat → Nat} {sa : Nat → Nat} {x rd : Nat} {s : cS} {t : moS} {l : List Int32} {ws : List (Nat × Nat)} {p1 p2 p3 p4 a5 a6 a7 a8 v : Int32} {n q : Nat} {P : List (Nat × Nat)} {V : chV}
theorem hr160 (ha6 : a6 = nI n) (hn : n ≤ 4) (b : Bool) : M_haveRoom_b160 t p1 p2 p3 p4 a5 a6 a7 a8 v (if b = true then 1 else 0) = if 4 < n + (if b = true then 0 else 1) then xo (some 0) else some (.inl (a5, nI (n + (if b = true then 0 else 1)), (if a7 = -1 then v else a7), a8 + 1)) := by
  have f : ∀ d : Nat, d ≤ 1 → M_haveRoom_b172 t p1 p2 p3 p4 a5 a7 a8 v a6 (nI d) = if 4 < n + d then xo (some 0) else some (.inl (a5, nI (n + d), (if a7 = -1 then v else a7), a8 + 1)) := fun d hd => by
    unfold M_haveRoom_b172 M_haveRoom_b188 M_haveRoom_b198
    rw [ha6, nI_add]
    have d4 : ∀ y : Int32, (if (4 : Int32) < nI (n + d) then (xo (some (0 : Int32)) : Option ((Int32 × Int32 × Int32 × Int32) ⊕ Int32)) else some (.inl (a5, nI (n + d), y, a8 + 1))) = if 4 < n + d then xo (some 0) else some (.inl (a5, nI (n + d), y, a8 + 1)) := fun y => by
      by_cases c : 4 < n + d
      · rw [if_pos c, if_pos (show (4 : Int32) < nI (n + d) from nI_lt (a := 4) c (by omega))]
      · rw [if_neg c, if_neg (show ¬ (4 : Int32) < nI (n + d) from nI_nlt (a := 4) (by omega) (by decide))]
    by_cases c7 : a7 = -1
    · rw [if_pos c7, if_pos c7]; exact d4 v
    · rw [if_neg c7, if_neg c7]; exact d4 a7
  unfold M_haveRoom_b160
  cases b with
  | true => exact (if_neg (by decide)).trans (f 0 (by decide))
  | false => exact (if_pos rfl).trans (f 1 (by decide))
/-- where no chain is asked -/
theorem m_hr85z {L : List kV} (hv : M_number t a8 = some v) (ha6 : a6 = nI n) (hn : n ≤ 4) : ∃ b : Bool, (b = true ↔ v = a7 ∨ (0 : Int32) ≠ 0 ∧ kHas L v) ∧ M_haveRoom_b85 t p1 p2 p3 p4 0 a6 a7 a8 = if 4 < n + (if b = true then 0 else 1) then xo (some 0) else some (.inl (0, nI (n + (if b = true then 0 else 1)), (if a7 = -1 then v else a7), a8 + 1)) := by
  refine ⟨decide (v = a7), by rw [decide_eq_true_iff]; exact ⟨Or.inl, fun h => h.elim id fun y => absurd rfl y.1⟩, ?_⟩
  rw [← hr160 (t := t) (p1 := p1) (p2 := p2) (p3 := p3) (p4 := p4) (a5 := 0) (a7 := a7) (a8 := a8) (v := v) ha6 hn (decide (v = a7))]
  have st : ∀ z : Int32, lp (fun x : Int32 × Int32 => M_haveRoom_s110 t p1 p2 p3 p4 0 a6 a7 a8 v x.1 x.2) (z, 0) = M_haveRoom_b160 t p1 p2 p3 p4 0 a6 a7 a8 v z := fun z => lp_x (by
    show M_haveRoom_s110 t p1 p2 p3 p4 0 a6 a7 a8 v z 0 = _
    unfold M_haveRoom_s110
    exact if_pos rfl)
  unfold M_haveRoom_b85 M_haveRoom_b105 M_haveRoom_b110
  rw [hv]
  show (if v = a7 then lp (fun x : Int32 × Int32 => M_haveRoom_s110 t p1 p2 p3 p4 0 a6 a7 a8 v x.1 x.2) (1, 0) else lp (fun x : Int32 × Int32 => M_haveRoom_s110 t p1 p2 p3 p4 0 a6 a7 a8 v x.1 x.2) (0, 0)) = _
  rw [st, st]
  by_cases c : v = a7
  · rw [if_pos c, if_pos (decide_eq_true c)]
  · rw [if_neg c, if_neg (by rw [decide_eq_false c]; decide)]
theorem cA_0 : cA P 0 4 P := fun k _ => ⟨(fun z => by rw [Nat.zero_testBit] at z; cases z), fun _ => rfl⟩
/-- no interface yet -/
theorem m_room0 (h : LX G H sa x rd s t l ws) (hP : jP (wC l ws) ws.length ws.length 4 0 = some P) (hg : ∀ e, e ∈ P → gdE l ws e) : ∃ b : Bool, (b = true ↔ rmO l ws P (0, [], [])) ∧ M_haveRoom t (-1) (nI (jW 3 P)) (nI (jW 4 P)) (nI (jW 5 P)) = some (if b = true then 1 else 0) := by
  obtain ⟨b, r1, r2⟩ := m_hrL (p1 := -1) (Pt := P) (L0 := []) (A5 := fun a => a = 0) h rfl (fun a5 a6 a7 a8 v n ha hv h6 hn => by subst ha; exact m_hr85z hv h6 hn) ws.length 4 0 P (0, [], []) 0 (-1) (by decide) (by decide) hP cA_0 hg rfl (Nat.zero_le _) (fun _ _ => rfl) (fun _ n hn => ⟨fun y => y.elim (fun z => by
    have h2 := nI_pos (n := n) (by omega)
    rw [z] at h2
    exact absurd (by decide) h2) fun z => absurd rfl z.1, fun ⟨k, u, q, _⟩ => by cases q⟩)
  refine ⟨b, r1, ?_⟩
  unfold M_haveRoom M_haveRoom_b19 M_haveRoom_b20 M_haveRoom_b37 M_haveRoom_b45
  rw [if_pos rfl, if_pos rfl]
  exact r2
theorem m_room1 (h : LX G H sa x rd s t l ws) (hq : q < 24) (hV : VV V) (hC : MC t q V) (hP : jP (wC l ws) ws.length ws.length 4 0 = some P) (hg : ∀ e, e ∈ P → gdE l ws e) : ∃ b : Bool, (b = true ↔ rmO l ws P V) ∧ M_haveRoom t (nI q) (nI (jW 3 P)) (nI (jW 4 P)) (nI (jW 5 P)) = some (if b = true then 1 else 0) := by
  have hN := h.mv.n
  obtain ⟨c1, c2, c3, -⟩ := hC
  obtain ⟨v1, v2, v3, -⟩ := hV
  have nq : ¬ nI q = -1 := fun z => by
    have h2 := nI_pos (n := q) (by omega)
    rw [z] at h2
    exact h2 (by decide)
  have nn : ∀ n, n ≤ 255 → ¬ nI n = -1 := fun n hn z => by
    have h2 := nI_pos (n := n) (by omega)
    rw [z] at h2
    exact h2 (by decide)
  have main : ∀ a5 : Int32, (a5 ≠ 0 ↔ V.1 = 2) → ∃ b : Bool, (b = true ↔ rmO l ws P V) ∧ lp (fun y : Int32 × Int32 × Int32 × Int32 => M_haveRoom_s45 t (nI q) (nI (jW 3 P)) (nI (jW 4 P)) (nI (jW 5 P)) y.1 y.2.1 y.2.2.1 y.2.2.2) (a5, nI V.2.2.length, -1, nI 4) = some (if b = true then 1 else 0) := fun a5 h5 => by
    refine m_hrL (p1 := nI q) (Pt := P) (L0 := V.2.2) (A5 := fun _ => True) h trivial (fun a5 a6 a7 a8 v n _ hv h6 hn => m_hr85 hN hq v2 c2 (fun k u hu => (c3 k u hu).1) hv h6 hn) ws.length 4 0 P V a5 (-1) (by decide) (by decide) hP cA_0 hg trivial v2 (fun _ _ => rfl) fun _ n hn => ?_
    constructor
    · rintro (y | y)
      · exact absurd y (nn n hn)
      · exact y.2
    · rintro ⟨k, u, y1, y2⟩
      have hk := (List.getElem?_eq_some_iff.mp y1).1
      exact Or.inr ⟨h5.mpr (v3.mpr (by omega)), k, u, y1, y2⟩
  unfold M_haveRoom M_haveRoom_b19 M_haveRoom_b20 M_haveRoom_b37 M_haveRoom_b45
  rw [if_neg nq]
  by_cases c : V.1 = 2
  · obtain ⟨b, r1, r2⟩ := main 1 ⟨fun _ => c, fun _ => by decide⟩
    refine ⟨b, r1, ?_⟩
    refine (sr_I (hN.n 79 24) hq (by decide)).trans ?_
    rw [c1, c, if_pos (show nI 2 = 2 from rfl), if_neg (by decide)]
    refine (sr_I (hN.n 82 24) hq (by decide)).trans ?_
    rw [c2]
    exact r2
  · obtain ⟨b, r1, r2⟩ := main 0 ⟨fun z => absurd rfl z, fun z => absurd z c⟩
    have l0 : V.2.2.length = 0 := by
      have : ¬ 1 ≤ V.2.2.length := fun y => c (v3.mpr y)
      omega
    refine ⟨b, r1, ?_⟩
    refine (sr_I (hN.n 79 24) hq (by decide)).trans ?_
    rw [c1, if_neg (show ¬ nI V.1 = 2 from fun z => c ((nI_eq (b := 2) (by omega) (by decide)).mp z)), if_pos rfl]
    rw [l0] at r2
    exact r2
end Ht
