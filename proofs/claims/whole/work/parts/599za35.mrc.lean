/-! How a datagram is judged: the model. -/
noncomputable def rcR (t : moS) (p1 p2 : Int32) (p3 p5 : Int64) (p7 p8 : Int32) : Option moS := Option.bind (rdJ t 76 (((2 : Int32) * p1) + p2)) (fun x2 => (if p3 = x2 then (Option.bind (rdJ t 77 (((2 : Int32) * p1) + p2)) (fun x3 => (if p5 = x3 then ((M_receive_b50 t p1 p2 p3 p5 p7 p8 (p1 / (4 : Int32)) (((2 : Int32) * p1) + p2) (1 : Int32))) else ((M_receive_b49 t p1 p2 p3 p5 p7 p8 (p1 / (4 : Int32)) (((2 : Int32) * p1) + p2)))))) else ((M_receive_b49 t p1 p2 p3 p5 p7 p8 (p1 / (4 : Int32)) (((2 : Int32) * p1) + p2)))))
theorem rcR_e {t : moS} {p1 p2 : Int32} {p3 p5 : Int64} {p7 p8 : Int32} : M_receive t p1 p2 p3 p5 p7 p8 = Option.bind (M_tally t (p1 / (4 : Int32)) (0 : Int32) (1 : Int32)) (fun s1 => rcR s1 p1 p2 p3 p5 p7 p8) := rfl
section Mr
variable {t : moS} {r p f : Nat} {h l : Int64} {po ho : Int32} {L : List Int32}
/-- the source is the interface's own address, or none of its network -/
def bsP (t : moS) (q f : Nat) (h l : Int64) : Prop := (t.J 76 (2 * q + f) = h ∧ t.J 77 (2 * q + f) = l) ∨ ¬ mcov (t.J 76 (2 * q + f)) (t.J 77 (2 * q + f)) (t.I 78 (2 * q + f)) h l
def ptF (f : Nat) : Int32 := if f = 0 then 520 else 521
theorem m_rc (hN : mN t) (hr : r < 6) (hp : p < 4) (hf : f = 0 ∨ f = 1) (hI : IN t L) (hl6 : L.length ≤ 600) : (bsP t (4 * r + p) f h l → rcR t (nI (4 * r + p)) (nI f) h l po ho = Option.bind (M_tally t (nI r) (nI 1) 1) (fun s => some s)) ∧ (¬ bsP t (4 * r + p) f h l → ¬ wfF (fun j => L.getD j 0) L.length f → rcR t (nI (4 * r + p)) (nI f) h l po ho = Option.bind (M_tally t (nI r) (nI 2) 1) (fun s => some s)) ∧ (¬ bsP t (4 * r + p) f h l → wfF (fun j => L.getD j 0) L.length f → rcR t (nI (4 * r + p)) (nI f) h l po ho = M_receive_b250 t (nI (4 * r + p)) (nI f) h l po ho (nI r) (nI ((L.length - 4) / 20)) (if L.getD 0 0 = 2 then 1 else 0)) := by
  have e1 : (2 : Int32) * nI (4 * r + p) + nI f = nI (2 * (4 * r + p) + f) := by rw [show (2 : Int32) = nI 2 from rfl, pk_mul, nI_add]
  have e4 : nI (4 * r + p) / 4 = nI r := by
    have : nI (4 * r + p) / 4 = nI ((4 * r + p) / 4) := pk_div (d := 4) (by omega) (by decide) (by decide)
    rw [this]
    congr 1
    omega
  have hx : 2 * (4 * r + p) + f < 48 := by omega
  generalize hX : 2 * (4 * r + p) + f = X at *
  have r76 := rdJ_n (hN.n 76 48) hx (by decide)
  have r77 := rdJ_n (hN.n 77 48) hx (by decide)
  have r78 := rdI_n (hN.n 78 48) hx (by decide)
  have rd : ∀ j, j < 700 → rdI t 149 (nI j) = some (L.getD j 0) := fun j hj => by rw [rdI_n (hN.n 149 700) hj (by decide), hI.2 j hj]
  have one : M_receive_b50 t (nI (4 * r + p)) (nI f) h l po ho (nI r) (nI X) 1 = Option.bind (M_tally t (nI r) (nI 1) 1) (fun s => some s) := by
    unfold M_receive_b50
    rw [if_neg (by decide)]
    rfl
  have zero : (mcov (t.J 76 X) (t.J 77 X) (t.I 78 X) h l → M_receive_b50 t (nI (4 * r + p)) (nI f) h l po ho (nI r) (nI X) 0 = (if t.S 150 < 24 then M_receive_b218 t (nI (4 * r + p)) (nI f) h l po ho (nI r) ((t.S 150 - 4) / 20) else if t.S 150 = 4 + 20 * ((t.S 150 - 4) / 20) then (if nI f = 0 then M_receive_b143 t (nI (4 * r + p)) (nI f) h l po ho (nI r) ((t.S 150 - 4) / 20) ((t.S 150 - 4) / 20) 28 else M_receive_b143 t (nI (4 * r + p)) (nI f) h l po ho (nI r) ((t.S 150 - 4) / 20) ((t.S 150 - 4) / 20) 25) else M_receive_b218 t (nI (4 * r + p)) (nI f) h l po ho (nI r) ((t.S 150 - 4) / 20))) ∧ (¬ mcov (t.J 76 X) (t.J 77 X) (t.I 78 X) h l → M_receive_b50 t (nI (4 * r + p)) (nI f) h l po ho (nI r) (nI X) 0 = Option.bind (M_tally t (nI r) (nI 1) 1) (fun s => some s)) := by
    have mc := (M_cov (t.J 76 X) (t.J 77 X) (t.I 78 X) h l).1
    have e150 : ∀ a, M_receive_b150 t (nI (4 * r + p)) (nI f) h l po ho (nI r) a = M_receive_b218 t (nI (4 * r + p)) (nI f) h l po ho (nI r) a := fun a => by
      unfold M_receive_b150 M_receive_b151
      rw [if_pos rfl]
    constructor
    · intro c
      unfold M_receive_b50
      rw [if_pos rfl, r76, r77, r78]
      simp only [Option.bind_some, e150]
      rw [if_neg (fun z => (mc.mp z) c)]
    · intro c
      unfold M_receive_b50
      rw [if_pos rfl, r76, r77, r78]
      simp only [Option.bind_some]
      rw [if_pos (mc.mpr c)]
      rfl
  have e0 : rcR t (nI (4 * r + p)) (nI f) h l po ho = if t.J 76 X = h ∧ t.J 77 X = l then M_receive_b50 t (nI (4 * r + p)) (nI f) h l po ho (nI r) (nI X) 1 else M_receive_b50 t (nI (4 * r + p)) (nI f) h l po ho (nI r) (nI X) 0 := by
    unfold rcR M_receive_b49
    rw [e1, e4, r76, r77]
    simp only [Option.bind_some]
    by_cases c : h = t.J 76 X
    · rw [if_pos c]
      by_cases d : l = t.J 77 X
      · rw [if_pos d, if_pos ⟨c.symm, d.symm⟩]
      · rw [if_neg d, if_neg (fun z => d z.2.symm)]
    · rw [if_neg c, if_neg (fun z => c z.1.symm)]
  have bad : ∀ a, M_receive_b218 t (nI (4 * r + p)) (nI f) h l po ho (nI r) a = Option.bind (M_tally t (nI r) (nI 2) 1) (fun s => some s) := fun a => by
    unfold M_receive_b218 M_receive_b219
    rw [if_pos rfl]
    rfl
  unfold bsP
  rw [hX, e0]
  refine ⟨fun c => ?_, fun c => ?_, fun c => ?_⟩
  · rcases c with c | c
    · rw [if_pos c]; exact one
    · by_cases d : t.J 76 X = h ∧ t.J 77 X = l
      · rw [if_pos d]; exact one
      · rw [if_neg d]; exact zero.2 c
  all_goals
    rw [not_or, Classical.not_not] at c
    rw [if_neg c.1, zero.1 c.2, hI.1]
  · intro nw
    by_cases c24 : L.length < 24
    · rw [if_pos (show nI L.length < 24 from nI_lt (b := 24) c24 (by decide))]; exact bad _
    rw [if_neg (show ¬ nI L.length < 24 from nI_nlt (b := 24) (by omega) (by omega)), wf_d (by omega) (by omega)]
    by_cases cm : L.length = 4 + 20 * ((L.length - 4) / 20)
    rotate_left
    · rw [if_neg (fun z => cm (nI_inj (z.trans (by rw [show (20 : Int32) = nI 20 from rfl, pk_mul, show (4 : Int32) = nI 4 from rfl, nI_add])) (by omega) (by omega)))]
      exact bad _
    rw [if_pos (by rw [show (20 : Int32) = nI 20 from rfl, pk_mul, show (4 : Int32) = nI 4 from rfl, nI_add]; exact congrArg nI cm)]
    generalize hm : (L.length - 4) / 20 = m at *
    have e193 : ∀ u : Int32, (u = if f = 0 then 2 else 1) → (m ≤ if f = 0 then 28 else 25) → (L.getD 0 0 = 1 ∨ L.getD 0 0 = 2) → M_receive_b193 t (nI (4 * r + p)) (nI f) h l po ho (nI r) (nI m) (L.getD 1 0) u = Option.bind (M_tally t (nI r) (nI 2) 1) (fun s => some s) := fun u hu hm2 h0 => by
      unfold M_receive_b193
      by_cases c1 : L.getD 1 0 = u
      · rw [if_pos c1, show (2 : Int32) = nI 2 from rfl, show (3 : Int32) = nI 3 from rfl, rd 2 (by decide), rd 3 (by decide)]
        simp only [Option.bind_some]
        by_cases c2 : L.getD 2 0 = 0
        · rw [if_pos c2]
          by_cases c3 : L.getD 3 0 = 0
          · exact absurd ⟨by omega, by rw [hm]; exact cm, by rw [hm]; exact hm2, h0, c1.trans hu, c2, c3⟩ nw
          · rw [if_neg c3]; exact bad _
        · rw [if_neg c2]; exact bad _
      · rw [if_neg c1]; exact bad _
    have e178 : (m ≤ if f = 0 then 28 else 25) → (L.getD 0 0 = 1 ∨ L.getD 0 0 = 2) → M_receive_b178 t (nI (4 * r + p)) (nI f) h l po ho (nI r) (nI m) = Option.bind (M_tally t (nI r) (nI 2) 1) (fun s => some s) := fun hm2 h0 => by
      unfold M_receive_b178
      rw [show (1 : Int32) = nI 1 from rfl, rd 1 (by decide)]
      simp only [Option.bind_some]
      rcases hf with rfl | rfl
      · rw [if_pos (show nI 0 = 0 from rfl)]; exact e193 2 rfl hm2 h0
      · rw [if_neg (show ¬ nI 1 = 0 by decide)]; exact e193 1 rfl hm2 h0
    have e143 : ∀ v : Nat, (v = if f = 0 then 28 else 25) → M_receive_b143 t (nI (4 * r + p)) (nI f) h l po ho (nI r) (nI m) (nI m) (nI v) = Option.bind (M_tally t (nI r) (nI 2) 1) (fun s => some s) := fun v hv => by
      have hv2 : v ≤ 28 := by rw [hv]; split <;> omega
      unfold M_receive_b143 M_receive_b150
      by_cases cv : v < m
      · rw [if_pos (nI_lt cv (by omega))]
        unfold M_receive_b151
        rw [if_pos rfl]
        exact bad _
      · rw [if_neg (nI_nlt (by omega) (by omega))]
        have hm2 : m ≤ if f = 0 then 28 else 25 := by rw [← hv]; omega
        unfold M_receive_b151
        rw [if_neg (by decide), show (0 : Int32) = nI 0 from rfl, rd 0 (by decide)]
        simp only [Option.bind_some]
        by_cases d1 : L.getD 0 0 = 1
        · rw [if_pos d1]; exact e178 hm2 (Or.inl d1)
        · rw [if_neg d1]
          by_cases d2 : L.getD 0 0 = 2
          · rw [if_pos d2]; exact e178 hm2 (Or.inr d2)
          · rw [if_neg d2]; exact bad _
    rcases hf with rfl | rfl
    · rw [if_pos (show nI 0 = 0 from rfl)]; exact e143 28 rfl
    · rw [if_neg (show ¬ nI 1 = 0 by decide)]; exact e143 25 rfl
  · intro wf
    obtain ⟨w1, w2, w3, w4, w5, w6, w7⟩ := wf
    dsimp only at w4 w5 w6 w7
    rw [if_neg (show ¬ nI L.length < 24 from nI_nlt (b := 24) (by omega) (by omega)), wf_d (by omega) (by omega), if_pos (by rw [show (20 : Int32) = nI 20 from rfl, pk_mul, show (4 : Int32) = nI 4 from rfl, nI_add]; exact congrArg nI w2)]
    generalize hm : (L.length - 4) / 20 = m at *
    have e219 : M_receive_b219 t (nI (4 * r + p)) (nI f) h l po ho (nI r) (nI m) 1 = M_receive_b250 t (nI (4 * r + p)) (nI f) h l po ho (nI r) (nI m) (if L.getD 0 0 = 2 then 1 else 0) := by
      have r0 : rdI t 149 0 = some (L.getD 0 0) := rd 0 (by decide)
      unfold M_receive_b219
      rw [if_neg (by decide), r0]
      simp only [Option.bind_some]
      by_cases d2 : L.getD 0 0 = 2
      · rw [if_pos d2, if_pos d2]
      · rw [if_neg d2, if_neg d2]
    have e193 : ∀ u : Int32, (u = if f = 0 then 2 else 1) → M_receive_b193 t (nI (4 * r + p)) (nI f) h l po ho (nI r) (nI m) (L.getD 1 0) u = M_receive_b250 t (nI (4 * r + p)) (nI f) h l po ho (nI r) (nI m) (if L.getD 0 0 = 2 then 1 else 0) := fun u hu => by
      unfold M_receive_b193
      rw [if_pos (w5.trans hu.symm), show (2 : Int32) = nI 2 from rfl, show (3 : Int32) = nI 3 from rfl, rd 2 (by decide), rd 3 (by decide)]
      simp only [Option.bind_some]
      rw [if_pos w6, if_pos w7]
      exact e219
    have e178 : M_receive_b178 t (nI (4 * r + p)) (nI f) h l po ho (nI r) (nI m) = M_receive_b250 t (nI (4 * r + p)) (nI f) h l po ho (nI r) (nI m) (if L.getD 0 0 = 2 then 1 else 0) := by
      unfold M_receive_b178
      rw [show (1 : Int32) = nI 1 from rfl, rd 1 (by decide)]
      simp only [Option.bind_some]
      rcases hf with rfl | rfl
      · rw [if_pos (show nI 0 = 0 from rfl)]; exact e193 2 rfl
      · rw [if_neg (show ¬ nI 1 = 0 by decide)]; exact e193 1 rfl
    have e143 : ∀ v : Nat, (v = if f = 0 then 28 else 25) → M_receive_b143 t (nI (4 * r + p)) (nI f) h l po ho (nI r) (nI m) (nI m) (nI v) = M_receive_b250 t (nI (4 * r + p)) (nI f) h l po ho (nI r) (nI m) (if L.getD 0 0 = 2 then 1 else 0) := fun v hv => by
      have hv2 : v ≤ 28 := by rw [hv]; split <;> omega
      unfold M_receive_b143
      rw [← hv] at w3
      rw [if_neg (nI_nlt (by omega) (by omega))]
      unfold M_receive_b151
      rw [if_neg (by decide), show (0 : Int32) = nI 0 from rfl, rd 0 (by decide)]
      simp only [Option.bind_some]
      by_cases d1 : L.getD 0 0 = 1
      · rw [if_pos d1]; exact e178
      · rw [if_neg d1, if_pos (w4.resolve_left d1)]; exact e178
    rcases hf with rfl | rfl
    · rw [if_pos (show nI 0 = 0 from rfl)]; exact e143 28 rfl
    · rw [if_neg (show ¬ nI 1 = 0 by decide)]; exact e143 25 rfl
end Mr
