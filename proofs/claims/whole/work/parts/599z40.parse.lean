/-! A line is taken apart, both sides. -/
theorem wdS_n (u : Nat → Nat) : ∀ k i cur, 2 * (wdS u k i cur).length ≤ k + (if cur = none then 1 else 2)
  | 0, _, none => by simp [wdS]
  | 0, i, some b => by simp [wdS]
  | k + 1, i, none => by
    unfold wdS
    have h1 := wdS_n u k (i + 1) none
    have h2 := wdS_n u k (i + 1) (some i)
    rw [if_pos rfl] at h1 ⊢
    rw [if_neg (by simp)] at h2
    split
    · omega
    · omega
  | k + 1, i, some b => by
    unfold wdS
    have h1 := wdS_n u k (i + 1) none
    have h2 := wdS_n u k (i + 1) (some b)
    have n : ¬ (some b : Option Nat) = none := by simp
    rw [if_pos rfl] at h1
    rw [if_neg n] at h2
    rw [if_neg n]
    split
    · rw [List.length_cons]; omega
    · omega
/-- a row of numbers written -/
def wEr (s : cS) (a : Nat) (g : Nat → Int32) : Nat → cS
  | 0 => s
  | n + 1 => cSE (wEr s a g n) a n (g n)
theorem wEr_k {s : cS} {a : Nat} {g : Nat → Int32} : ∀ n, (wEr s a g n).K = s.K ∧ (wEr s a g n).P = s.P ∧ (wEr s a g n).J = s.J ∧ (wEr s a g n).Q = s.Q ∧ (wEr s a g n).I = s.I
  | 0 => ⟨rfl, rfl, rfl, rfl, rfl⟩
  | n + 1 => wEr_k n
theorem wEr_o {s : cS} {a b : Nat} {g : Nat → Int32} (h : b ≠ a) : ∀ n, (wEr s a g n).E b = s.E b
  | 0 => rfl
  | n + 1 => by
    show (cSE (wEr s a g n) a n (g n)).E b = s.E b
    rw [cSE_a h]
    exact wEr_o h n
theorem wEr_s {s : cS} {a : Nat} {g : Nat → Int32} : ∀ n j, j < n → (wEr s a g n).E a j = g j
  | 0, j, h => absurd h (by omega)
  | n + 1, j, h => by
    show (cSE (wEr s a g n) a n (g n)).E a j = g j
    rw [cSE_s]
    show (if j = n then g n else (wEr s a g n).E a j) = g j
    by_cases c : j = n
    · rw [if_pos c, c]
    · rw [if_neg c]
      exact wEr_s n j (by omega)
section Ps
variable {G H : Nat → Nat → Nat} {sa : Nat → Nat} {rd x kc ks f e : Nat} {s : cS} {t : moS}
theorem lx_parse (hR : RR G H sa x s t) (hM : MV t) (h223 : s.P 223 x = some rd) (h140 : s.P 140 rd = some x) {l : List Int32} (hl : l = tl (t.I 2) (t.S 3).toNatClampNeg) (hfe : f ≤ e) (he : e ≤ l.length) : ∃ t1, M_part t (nI f) (nI e) = some t1 ∧ mfr [9, 10, 11] t t1 ∧ MV t1 ∧ (∃ s1, s1.K = s.K ∧ s1.P = s.P ∧ LX G H sa x rd s1 t1 l (wdS (vc l) (e - f) f none)) ∧ (∀ Q, (∀ s1, s1.K = s.K → s1.P = s.P ∧ s1.Q = s.Q → LX G H sa x rd s1 t1 l (wdS (vc l) (e - f) f none) → Q s1 kc ks) → C_Re_parse sa rd (nI f) (nI e) s kc ks Q) := by
  have hq := hR.q.1
  have hT := hq.ty
  have hx := hq.1.1
  have k22 : (s.K rd).1 = 22 := by
    rcases hq.1.2.2.2.2.2.1 with z | ⟨d, z1, z2⟩
    · rw [h223] at z; cases z
    · rw [h223] at z1; cases z1; exact z2
  obtain ⟨n, e3, -, hn⟩ := hM.1.2.2.1
  have ec : (t.S 3).toNatClampNeg = n := by rw [e3, nI_clamp (by omega)]
  have ll : l.length = n := by rw [hl, ec]; exact tl_len _ _
  obtain ⟨⟨cap, -, hb⟩, -⟩ := hR.q.2
  rw [← hl] at hb
  have hu : uT t (vc l) l.length := by
    refine ⟨by omega, vc_lt _, fun i hi => ?_⟩
    rw [rdI_n (k := 2) (i := i) (n := 4096) (hM.n.n 2 4096) (by omega) (by decide), ← hb.gv hi, hl, tl_get (by omega)]
  obtain ⟨t1, e1, m1, w1⟩ := m_part hu (hM.n.n 9 2100) (hM.n.n 10 2100) he hfe
  have hM1 : MV t1 := hM.fr m1 rfl (hM.1.fr m1 rfl)
  have p220 := hT.p hx 220 1
  have h141 := hT.r k22 141 107 24
  have h142 := hT.r k22 142 108 24
  have mk : ∀ s1, fw H rd s s1 → RWw H s1 rd (wdS (vc l) (e - f) f none) → LX G H sa x rd s1 t1 l (wdS (vc l) (e - f) f none) := fun s1 f1 w2 => by
    have f2 : fr [22, 107, 108] [] [] s s1 := by
      obtain ⟨a1, a2, a3, a4, a5, a6⟩ := f1
      intro a ha
      refine ⟨by rw [a1], fun hn => ⟨fun g => a5 g a (fun z => hn (by rw [z.2, k22]; decide)), fun g => by rw [a3], a6 a (fun z => hn (by rw [z, h141.2]; decide)) (fun z => hn (by rw [z, h142.2]; decide))⟩, fun g _ => by rw [a2], fun _ => by rw [a4]⟩
    have hg : RGl G H sa x s1 := hq.1.v f1.1 f1.2.1 f2 rfl rfl rfl
    have R1 : RR G H sa x s1 t1 := rr_fr hR hM hg f2 m1 rfl rfl rfl rfl rfl rfl rfl
    refine ⟨R1, hM1, ⟨by rw [f1.2.1]; exact h223, by rw [f1.1]; exact k22⟩, ⟨⟨cap, hb.fr f2 p220.2 (by decide) (by decide) (by decide)⟩, ⟨okr (f2.r k22) 7, okr (f2.r hx) 11⟩, ⟨by rw [f1.2.1]; exact h140, by rw [f1.2.1]; exact p220.1⟩, ⟨by rw [f1.2.1]; exact h141.1, by rw [f1.1]; exact h141.2⟩, ⟨by rw [f1.2.1]; exact h142.1, by rw [f1.1]; exact h142.2⟩, w2, fun j hj => ?_, ?_⟩, w1, hu.fr m1 (by decide)⟩
    · have := wdS_ok (vc l) (e - f) f none (fun b z => by cases z) ((wdS (vc l) (e - f) f none).getD j (0, 0)) (by
        rw [List.getD_eq_getElem?_getD, List.getElem?_eq_getElem hj]
        exact List.getElem_mem hj)
      exact ⟨this.1, by have := this.2; omega⟩
    · have := wdS_n (vc l) (e - f) f none
      rw [if_pos rfl] at this
      omega
  have n12 : H 142 rd ≠ H 141 rd := fun z => by
    have := h142.2
    rw [z, h141.2] at this
    exact absurd (congrArg Prod.fst this) (show ¬ (107 : Nat) = 108 by decide)
  refine ⟨t1, e1, m1, hM1, ?_, fun Q k => w_parse hb (okr k22 7) (okr hx 11) h140 p220.1 h141 h142 hfe he fun s1 f1 w2 => k s1 f1.1 ⟨f1.2.1, f1.2.2.2.1⟩ (mk s1 f1 w2)⟩
  generalize wdS (vc l) (e - f) f none = ws at mk
  generalize hA1 : wEr s (H 141 rd) (fun j => nI (ws.getD j (0, 0)).1) 24 = sA
  obtain ⟨k1, k2, k3, k4, k5⟩ := wEr_k (s := s) (a := H 141 rd) (g := fun j => nI (ws.getD j (0, 0)).1) 24
  have o1 := fun {b : Nat} (h : b ≠ H 141 rd) => wEr_o (s := s) (g := fun j => nI (ws.getD j (0, 0)).1) h 24
  have v1 := wEr_s (s := s) (a := H 141 rd) (g := fun j => nI (ws.getD j (0, 0)).1) 24
  rw [hA1] at k1 k2 k3 k4 k5 v1
  generalize hB1 : wEr sA (H 142 rd) (fun j => nI (ws.getD j (0, 0)).2) 24 = sB
  obtain ⟨q1, q2, q3, q4, q5⟩ := wEr_k (s := sA) (a := H 142 rd) (g := fun j => nI (ws.getD j (0, 0)).2) 24
  have o2 := fun {b : Nat} (h : b ≠ H 142 rd) => wEr_o (s := sA) (g := fun j => nI (ws.getD j (0, 0)).2) h 24
  have v2 := wEr_s (s := sA) (a := H 142 rd) (g := fun j => nI (ws.getD j (0, 0)).2) 24
  rw [hB1] at q1 q2 q3 q4 q5 v2
  have f1 : fw H rd s (cSI sB 143 rd (nI ws.length)) := by
    refine ⟨q1.trans k1, q2.trans k2, q3.trans k3, q4.trans k4, fun g a h => ?_, fun a h1 h2 => ?_⟩
    · have : sB.I = s.I := q5.trans k5
      by_cases c : a = rd
      · rw [cSI_g (fun z => h ⟨z, c⟩), this]
      · rw [cSI_o c, this]
    · show sB.E a = s.E a
      rw [← hB1, o2 h2, ← hA1, o1 h1]
  refine ⟨_, f1.1, f1.2.1, mk _ f1 ⟨cSI_s, fun j hj h24 => ⟨?_, ?_⟩⟩⟩
  · show sB.E (H 141 rd) j = _
    rw [← hB1, o2 (fun z => n12 z.symm)]
    exact v1 j h24
  · exact v2 j h24
end Ps
