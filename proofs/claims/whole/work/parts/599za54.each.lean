/-! A request is answered entry by entry: the class's bytes. -/
theorem bn_17 : ∀ m, m < 17 → bnL (Int32.toInt64 (nI m)) 4 = [0, 0, 0, nI m] ∧ bnL (Int32.toInt64 (nI m)) 1 = [nI m] := by decide
theorem tl_ent {L : List Int32} {f i0 k n m : Nat} {M : Nat → Int32} (hf : f = 0 ∨ f = 1) (hk : k < n) (he : i0 + 20 * k + 20 ≤ L.length) (hm : M k = nI m) (h17 : m < 17) : tl (anF L f i0 M n) (20 * (k + 1)) = tl (anF L f i0 M n) (20 * k) ++ ((L.drop (i0 + 20 * k)).take (20 - (if f = 0 then 4 else 1)) ++ bnL (Int32.toInt64 (M k)) (if f = 0 then 4 else 1)) := by
  have tk : ∀ w, w ≤ 20 → ((L.drop (i0 + 20 * k)).take w).length = w := fun w hw => by rw [List.length_take, List.length_drop]; omega
  have tg : ∀ w j, j < w → ((L.drop (i0 + 20 * k)).take w).getD j 0 = L.getD (i0 + 20 * k + j) 0 := fun w j hj => by
    rw [List.getD_eq_getElem?_getD, List.getElem?_take, if_pos hj, List.getElem?_drop, ← List.getD_eq_getElem?_getD]
  symm
  rcases hf with rfl | rfl
  · rw [if_pos rfl, hm, (bn_17 m h17).1]
    refine tl_of ?_ fun i hi => ?_
    · rw [List.length_append, tl_len, List.length_append, tk 16 (by decide)]
      show 20 * k + (16 + 4) = 20 * (k + 1)
      omega
    by_cases c : i < 20 * k
    · rw [gd_l (by rw [tl_len]; exact c), tl_get c]
    rw [gd_r (by rw [tl_len]; omega), tl_len]
    by_cases d : i - 20 * k < 16
    · rw [gd_l (by rw [tk 16 (by decide)]; exact d), tg 16 _ d]
      unfold anF
      rw [if_pos (by omega), if_neg (by omega), if_neg (by omega)]
      congr 1
      omega
    rw [gd_r (by rw [tk 16 (by decide)]; omega), tk 16 (by decide)]
    unfold anF
    rw [if_pos (by omega)]
    by_cases e : i % 20 = 19
    · rw [if_pos e, show i / 20 = k by omega, show i - 20 * k - 16 = 3 by omega, hm]
      rfl
    · rw [if_neg e, if_pos ⟨rfl, by omega⟩]
      have : i - 20 * k - 16 = 0 ∨ i - 20 * k - 16 = 1 ∨ i - 20 * k - 16 = 2 := by omega
      rcases this with z | z | z <;> rw [z] <;> rfl
  · rw [if_neg (by decide), hm, (bn_17 m h17).2]
    refine tl_of ?_ fun i hi => ?_
    · rw [List.length_append, tl_len, List.length_append, tk 19 (by decide)]
      show 20 * k + (19 + 1) = 20 * (k + 1)
      omega
    by_cases c : i < 20 * k
    · rw [gd_l (by rw [tl_len]; exact c), tl_get c]
    rw [gd_r (by rw [tl_len]; omega), tl_len]
    by_cases d : i - 20 * k < 19
    · rw [gd_l (by rw [tk 19 (by decide)]; exact d), tg 19 _ d]
      unfold anF
      rw [if_pos (by omega), if_neg (by omega), if_neg (by omega)]
      congr 1
      omega
    rw [gd_r (by rw [tk 19 (by decide)]; omega), tk 19 (by decide)]
    unfold anF
    rw [if_pos (by omega), if_pos (by omega), show i / 20 = k by omega, show i - 20 * k - 19 = 0 by omega, hm]
    rfl
/-- the draft's row is being written, and the entry is another -/
theorem fw_18 {b d : Nat} {u s s' : cS} {l : List Int32} (h : FW b d u l s) (eK : s'.K = s.K) (eP : s'.P = s.P) (f : fr [18] [] [] s s') (kb : (s.K b).1 = 3) : ∃ u', FW b d u' l s' ∧ fr [18] [] [] u u' ∧ u'.K = u.K ∧ u'.P = u.P := by
  obtain ⟨⟨k1, k2, k3, k4⟩, i1, e1, ⟨o1, o2, o3⟩, l1, l2, l3⟩ := h
  have kd : (s.K d).1 = 129 := by rw [k1, o3]
  have vb := (f.v kb (by decide)).1
  have vd := (f.v kd (by decide)).2.2
  refine ⟨cSa (cSI s' 1 b (u.I 1 b)) d (u.E d), ⟨⟨rfl, rfl, rfl, rfl⟩, fun g a hg => ?_, fun a ha => ?_, ⟨?_, ?_, ?_⟩, ?_, l2, fun i hi => ?_⟩, fun a ha => ?_, ?_, ?_⟩
  · show s'.I g a = (cSI s' 1 b (u.I 1 b)).I g a
    rw [evI, if_neg hg]
  · rw [cSa_en ha]
    rfl
  · unfold okO at o1 ⊢
    show 1 ≤ (s'.K b).1 ∧ (s'.K b).1 < 100 ∧ cKn (s'.K b).1 = 0
    rw [eK, k1]
    exact o1
  · show s'.P 0 b = _
    rw [eP, k2]
    exact o2
  · show s'.K d = _
    rw [eK, k1]
    exact o3
  · rw [vb]; exact l1
  · rw [vd]; exact l3 i hi
  · have ha' : (s.K a).1 ≠ 0 := by rw [k1]; exact ha
    obtain ⟨f1, f2, f3, f4⟩ := f a ha'
    refine ⟨?_, fun hv => ⟨fun g => ?_, fun g => ?_, ?_⟩, fun g _ => ?_, fun _ => ?_⟩
    · show s'.K a = u.K a
      rw [f1, k1]
    · obtain ⟨g1, -, -⟩ := f2 (by rw [k1]; exact hv)
      show (cSI s' 1 b (u.I 1 b)).I g a = u.I g a
      rw [evI]
      by_cases c : g = 1 ∧ a = b
      · rw [if_pos c, c.1, c.2]
      · rw [if_neg c, g1, i1 g a c]
    · obtain ⟨-, g2, -⟩ := f2 (by rw [k1]; exact hv)
      show s'.J g a = u.J g a
      rw [g2, k4]
    · obtain ⟨-, -, g3⟩ := f2 (by rw [k1]; exact hv)
      by_cases c : a = d
      · rw [c, cSa_es]
      · rw [cSa_en c]
        show s'.E a = u.E a
        rw [g3, e1 a c]
    · show s'.P g a = u.P g a
      rw [eP, k2]
    · show s'.Q a = u.Q a
      rw [f4 (by simp), k3]
  · show s'.K = u.K
    rw [eK, k1]
  · show s'.P = u.P
    rw [eP, k2]
/-- a state with the entry of another -/
def mx18 (s u : cS) : cS := (s.1, fun g a => if (s.K a).1 = 18 then u.I g a else s.I g a, fun g a => if (s.K a).1 = 18 then u.J g a else s.J g a, s.2.2.2.1, fun a => if (s.K a).1 = 18 then u.E a else s.E a, s.2.2.2.2.2)
theorem mx_fr {s u : cS} : fr [18] [] [] s (mx18 s u) ∧ fr [18] [] [] (mx18 s u) s := by
  have ne : ∀ a, (s.K a).1 ∉ [18] → ¬ (s.K a).1 = 18 := fun a h z => h (by rw [z]; exact List.mem_cons_self)
  exact ⟨fun a _ => ⟨rfl, fun hv => ⟨fun g => if_neg (ne a hv), fun g => if_neg (ne a hv), if_neg (ne a hv)⟩, fun _ _ => rfl, fun _ => rfl⟩, fun a _ => ⟨rfl, fun hv => ⟨fun g => (if_neg (ne a hv)).symm, fun g => (if_neg (ne a hv)).symm, (if_neg (ne a hv)).symm⟩, fun _ _ => rfl, fun _ => rfl⟩⟩
theorem mx_to {s s1 u : cS} {Rv Rq : List Nat} {Gp : List (Nat × Nat)} (f1 : fr Rv Gp Rq s s1) (fu : fr [18] [] [] s1 u) : fr Rv Gp Rq (mx18 s u) u := fun a ha => by
  have ha : (s.K a).1 ≠ 0 := ha
  obtain ⟨a1, a2, a3, a4⟩ := f1 a ha
  obtain ⟨b1, b2, b3, b4⟩ := fu a (by rw [a1]; exact ha)
  refine ⟨b1.trans a1, fun hv => ?_, fun g hg => (b3 g (by simp)).trans (a3 g hg), fun hq => (b4 (by simp)).trans (a4 hq)⟩
  by_cases c : (s.K a).1 = 18
  · exact ⟨fun g => (if_pos c).symm, fun g => (if_pos c).symm, (if_pos c).symm⟩
  · obtain ⟨x1, x2, x3⟩ := a2 hv
    obtain ⟨y1, y2, y3⟩ := b2 (by rw [a1]; simpa using c)
    exact ⟨fun g => ((y1 g).trans (x1 g)).trans (if_neg c).symm, fun g => ((y2 g).trans (x2 g)).trans (if_neg c).symm, (y3.trans x3).trans (if_neg c).symm⟩
