/-! What is told on an interface, as pure lists. -/
noncomputable def fsN (P : Nat → Prop) : Nat → Nat → Option Nat
  | 0, _ => none
  | n + 1, i => @ite _ (P i) (Classical.propDecidable _) (some i) (fsN P n (i + 1))
theorem fsN_s {P : Nat → Prop} {j : Nat} : ∀ {n i : Nat}, fsN P n i = some j → P j ∧ i ≤ j ∧ j < i + n ∧ ∀ k, i ≤ k → k < j → ¬ P k
  | 0, i, h => by cases h
  | n + 1, i, h => by
    unfold fsN at h
    by_cases c : P i
    · rw [if_pos c] at h
      cases h
      exact ⟨c, Nat.le_refl _, by omega, fun k h1 h2 => by omega⟩
    · rw [if_neg c] at h
      obtain ⟨h1, h2, h3, h4⟩ := fsN_s h
      refine ⟨h1, by omega, by omega, fun k k1 k2 => ?_⟩
      by_cases e : k = i
      · rw [e]; exact c
      · exact h4 k (by omega) k2
theorem fsN_n {P : Nat → Prop} : ∀ {n i : Nat}, fsN P n i = none → ∀ k, i ≤ k → k < i + n → ¬ P k
  | 0, i, _, k, h1, h2 => by omega
  | n + 1, i, h, k, h1, h2 => by
    unfold fsN at h
    by_cases c : P i
    · rw [if_pos c] at h
      cases h
    · rw [if_neg c] at h
      by_cases e : k = i
      · rw [e]; exact c
      · exact fsN_n h k (by omega) (by omega)
/-- summary i of interface q covers row k -/
def smC (t : moS) (q k i : Nat) : Prop := t.I 91 (4 * q + i) = t.I 106 k ∧ t.I 94 (4 * q + i) ≤ t.I 109 k ∧ mcov (t.J 92 (4 * q + i)) (t.J 93 (4 * q + i)) (t.I 94 (4 * q + i)) (t.J 107 k) (t.J 108 k)
noncomputable def smV (t : moS) (q k : Nat) : Option Nat := fsN (smC t q k) (t.I 90 q).toNatClampNeg 0
def bsD (t : moS) (q : Nat) (n : Int32) : Prop := t.I 99 q = 0 ∨ 0 < n ∧ t.I 100 q = 0
abbrev gst : Type := List En × (Nat → Int32) × (Nat → Int32)
def nwR (t : moS) (how : Int32) (k : Nat) : Prop := how = 0 ∨ t.I 119 k ≠ 0
/-- summary i hears of a metric -/
noncomputable def gSm (t : moS) (how m : Int32) (k i : Nat) (g : gst) : gst := (g.1, upd g.2.1 i (if m < g.2.1 i then m else g.2.1 i), upd g.2.2 i (@ite _ (g.2.2 i ≠ 0 ∨ nwR t how k) (Classical.propDecidable _) 1 0))
/-- one route -/
noncomputable def gR (t : moS) (r q l : Nat) (f how : Int32) (k : Nat) (g : gst) : gst :=
  if t.I 106 k = f then
    (if how = 2 then (eIns f (t.J 107 k, t.J 108 k, t.I 109 k, 16, t.I 112 k) g.1, g.2)
     else if tmV t r q k (nI l) = -1 then g
     else match smV t q k with
      | some i => gSm t how (tmV t r q k (nI l)) k i g
      | none => @ite _ (nwR t how k ∧ bsD t q (t.I 109 k)) (Classical.propDecidable _) (eIns f (t.J 107 k, t.J 108 k, t.I 109 k, tmV t r q k (nI l), ttV t r k) g.1, g.2) g)
  else g
noncomputable def gRs (t : moS) (r q l : Nat) (f how : Int32) : Nat → gst
  | 0 => ([], fun _ => 99, fun _ => 0)
  | n + 1 => gR t r q l f how (2700 * r + n) (gRs t r q l f how n)
noncomputable def gU (t : moS) (q : Nat) (f : Int32) (g : gst) (i : Nat) (L : List En) : List En := @ite _ (g.2.2 i ≠ 0 ∧ bsD t q (t.I 94 (4 * q + i))) (Classical.propDecidable _) (eIns f (t.J 92 (4 * q + i), t.J 93 (4 * q + i), t.I 94 (4 * q + i), g.2.1 i, 0) L) L
noncomputable def gUs (t : moS) (q : Nat) (f : Int32) (g : gst) : Nat → List En
  | 0 => g.1
  | n + 1 => gU t q f g n (gUs t q f g n)
noncomputable def gL (t : moS) (r q l : Nat) (f how : Int32) : List En :=
  if how = 0 ∧ 0 < t.I 99 q then eIns f (0, 0, 0, t.I 99 q, 0) (gUs t q f (gRs t r q l f how (cN t r)) (t.I 90 q).toNatClampNeg) else gUs t q f (gRs t r q l f how (cN t r)) (t.I 90 q).toNatClampNeg
/-- an entry that comes from route j -/
def frR (t : moS) (r q : Nat) (f how : Int32) (a : En) (j : Nat) : Prop := t.I 106 (2700 * r + j) = f ∧ kE f a = kyR t (2700 * r + j) ∧ a.2.2.1 = t.I 109 (2700 * r + j) ∧ (how = 2 ∨ smV t q (2700 * r + j) = none ∧ bsD t q (t.I 109 (2700 * r + j)))
/-- what holds of the first n routes -/
def GI (t : moS) (r q : Nat) (f how : Int32) (n : Nat) (g : gst) : Prop := eSo f g.1 ∧ (∀ a, a ∈ g.1 → eOk f a ∧ ∃ j, j < n ∧ frR t r q f how a j) ∧ g.1.length ≤ n ∧ (∀ i, g.2.1 i = 99 ∨ rng (g.2.1 i) 1 16) ∧ (∀ i, bit (g.2.2 i)) ∧ ∀ i, g.2.2 i ≠ 0 → g.2.1 i ≠ 99 ∧ how ≠ 2 ∧ ∃ j, j < n ∧ t.I 106 (2700 * r + j) = f ∧ smV t q (2700 * r + j) = some i
section Gi
variable {t : moS} {r p l n : Nat} {f how : Int32} {g : gst}
theorem mn16_r {v : Int32} {a : Nat} (h : v = nI a) (h1 : 1 ≤ a) (h2 : a ≤ 31) : rng (mn16 v) 1 16 := by
  subst h
  have : ∀ a : Fin 32, 1 ≤ a.1 → ∃ n : Fin 17, mn16 (nI a.1) = nI n.1 ∧ 1 ≤ n.1 := by decide
  obtain ⟨n, e, h⟩ := this ⟨a, by omega⟩ h1
  exact ⟨n.1, e, h, by omega⟩
theorem ofV_r (hM : MV t) (hr : r < cR t) {w : Nat} {lk n : Int32} {h lo : Int64} : rng (ofV t r w lk f h lo n) 0 15 := by
  have hs := (hM.r hr).2.2.2.2.2.2.2.1
  unfold ofV
  have key : ∀ m j, j + m = (t.I 63 r).toNatClampNeg → rng (fsA (fun k => (t.I 64 (8 * r + k) = nI w ∧ (t.I 65 (8 * r + k) = -1 ∨ t.I 65 (8 * r + k) = lk)) ∧ ¬ laV t (t.I 66 (8 * r + k)).toNatClampNeg f h lo n = 0) (fun k => t.I 67 (8 * r + k)) 0 m j) 0 15 := by
    intro m
    induction m with
    | zero => intro j _; exact ⟨0, rfl, by omega, by omega⟩
    | succ m ih =>
      intro j hj
      unfold fsA
      split
      · exact ((hs.2 j (by omega)).2.2.2).wk (by omega) (by omega)
      · exact ih (j + 1) (by omega)
  exact key _ 0 (by omega)
theorem tmV_r (hM : MV t) (hr : r < cR t) {q j : Nat} (hj : j < cN t r) {lk : Int32} : tmV t r q (2700 * r + j) lk = -1 ∨ rng (tmV t r q (2700 * r + j) lk) 1 16 := by
  obtain ⟨o, eo, -, ho⟩ := ofV_r (f := t.I 106 (2700 * r + j)) (w := 1) (lk := lk) (n := t.I 109 (2700 * r + j)) (h := t.J 107 (2700 * r + j)) (lo := t.J 108 (2700 * r + j)) hM hr
  have hb : ∃ b, tmB t r (2700 * r + j) = nI b ∧ 1 ≤ b ∧ b ≤ 16 := by
    unfold tmB
    split
    · rename_i c
      have sh := (hM.r hr).2.2.2.2.2.2.2.2.1
      have hs : (t.I 68 (shW t r (2700 * r + j)) = -1 ∨ rng (t.I 68 (shW t r (2700 * r + j))) 0 15) := by
        unfold shW
        split
        · exact (sh 0 (by decide)).1
        · exact (sh 1 (by decide)).1
      rcases hs with z | ⟨m, z, -, hm⟩
      · rw [z] at c
        exact absurd c.2 (by decide)
      · refine ⟨m, z, ?_, by omega⟩
        rw [z] at c
        rcases Nat.eq_zero_or_pos m with y | y
        · rw [y] at c
          exact absurd c.2 (by decide)
        · exact y
    · obtain ⟨m, z, h1, h2⟩ := ((hM.r hr).w hj).2.2.1
      exact ⟨m, z, h1, h2⟩
  obtain ⟨b, eb, hb1, hb2⟩ := hb
  unfold tmV tmF
  split
  · exact Or.inl rfl
  split
  · exact Or.inl rfl
  split
  · split
    · exact Or.inl rfl
    · rw [eo, eb]
      split
      · exact Or.inr (mn16_r (a := 16 + o) (show (16 : Int32) + nI o = _ by rw [show (16 : Int32) = nI 16 from rfl, nI_add]) (by omega) (by omega))
      · exact Or.inr (mn16_r (a := b + o) (nI_add _ _) (by omega) (by omega))
  · rw [eo, eb]
    exact Or.inr (mn16_r (a := b + o) (nI_add _ _) (by omega) (by omega))
theorem ttV_r (hM : MV t) (hr : r < cR t) {j : Nat} (hj : j < cN t r) : rng (ttV t r (2700 * r + j)) 0 65535 := by
  unfold ttV
  split
  · have sh := (hM.r hr).2.2.2.2.2.2.2.2.1
    have hs : (t.I 69 (shW t r (2700 * r + j)) = -1 ∨ rng (t.I 69 (shW t r (2700 * r + j))) 0 65535) := by
      unfold shW
      split
      · exact (sh 0 (by decide)).2
      · exact (sh 1 (by decide)).2
    split
    · exact ⟨0, rfl, by omega, by omega⟩
    · rename_i c
      exact hs.resolve_left c
  · exact ((hM.r hr).w hj).2.2.2.2.1
theorem gi_ins (hM : MV t) (hr : r < cR t) (hn : n < cN t r) (hg : GI t r (4 * r + p) f how n g) (h106 : t.I 106 (2700 * r + n) = f) {m tg : Int32} (hm : rng m 1 16) (htg : rng tg 0 65535) (hx : how = 2 ∨ smV t (4 * r + p) (2700 * r + n) = none ∧ bsD t (4 * r + p) (t.I 109 (2700 * r + n))) : (∀ a, a ∈ g.1 → kE f a ≠ kE f ((t.J 107 (2700 * r + n), t.J 108 (2700 * r + n), t.I 109 (2700 * r + n), m, tg) : En)) ∧ GI t r (4 * r + p) f how (n + 1) (eIns f (t.J 107 (2700 * r + n), t.J 108 (2700 * r + n), t.I 109 (2700 * r + n), m, tg) g.1, g.2) := by
  obtain ⟨g1, g2, g3, g4, g5, g6⟩ := hg
  have ke : kE f ((t.J 107 (2700 * r + n), t.J 108 (2700 * r + n), t.I 109 (2700 * r + n), m, tg) : En) = kyR t (2700 * r + n) := by
    unfold kE kyR
    rw [h106]
  have ne : ∀ a, a ∈ g.1 → kE f a ≠ kE f ((t.J 107 (2700 * r + n), t.J 108 (2700 * r + n), t.I 109 (2700 * r + n), m, tg) : En) := fun a ha => by
    obtain ⟨-, j, hj, -, hk, -⟩ := g2 a ha
    rw [ke, hk]
    exact Nat.ne_of_lt (hM.ks hr hj hn)
  refine ⟨ne, eIns_s g1 ne, fun a ha => ?_, ?_, g4, g5, fun i hi => ?_⟩
  · rcases eIns_m.mp ha with z | z
    · subst z
      refine ⟨⟨?_, hm, htg⟩, n, by omega, h106, ke, rfl, hx⟩
      have := hM.kl hr hn
      rw [h106] at this
      exact this
    · obtain ⟨h1, j, h2, h3⟩ := g2 a z
      exact ⟨h1, j, by omega, h3⟩
  · show (eIns f _ g.1).length ≤ n + 1
    rw [eIns_l]; omega
  · obtain ⟨h1, h2, j, h3, h4⟩ := g6 i hi
    exact ⟨h1, h2, j, by omega, h4⟩
theorem gi_mono (hg : GI t r (4 * r + p) f how n g) : GI t r (4 * r + p) f how (n + 1) g := by
  obtain ⟨g1, g2, g3, g4, g5, g6⟩ := hg
  refine ⟨g1, fun a ha => ?_, by omega, g4, g5, fun i hi => ?_⟩
  · obtain ⟨h1, j, h2, h3⟩ := g2 a ha
    exact ⟨h1, j, by omega, h3⟩
  · obtain ⟨h1, h2, j, h3, h4⟩ := g6 i hi
    exact ⟨h1, h2, j, by omega, h4⟩
theorem gi_step (hM : MV t) (hr : r < cR t) (hn : n < cN t r) (hg : GI t r (4 * r + p) f how n g) : GI t r (4 * r + p) f how (n + 1) (gR t r (4 * r + p) l f how (2700 * r + n) g) := by
  unfold gR
  by_cases c1 : t.I 106 (2700 * r + n) = f
  rotate_left
  · rw [if_neg c1]; exact gi_mono hg
  rw [if_pos c1]
  by_cases c2 : how = 2
  · rw [if_pos c2]
    exact (gi_ins hM hr hn hg c1 ⟨16, rfl, by omega, by omega⟩ ((hM.r hr).w hn).2.2.2.2.1 (Or.inl c2)).2
  rw [if_neg c2]
  by_cases c3 : tmV t r (4 * r + p) (2700 * r + n) (nI l) = -1
  · rw [if_pos c3]; exact gi_mono hg
  rw [if_neg c3]
  have hm := (tmV_r (q := 4 * r + p) (lk := nI l) hM hr hn).resolve_left c3
  cases es : smV t (4 * r + p) (2700 * r + n) with
  | none =>
    show GI t r (4 * r + p) f how (n + 1) (@ite _ (nwR t how (2700 * r + n) ∧ bsD t (4 * r + p) (t.I 109 (2700 * r + n))) (Classical.propDecidable _) _ g)
    by_cases c4 : nwR t how (2700 * r + n) ∧ bsD t (4 * r + p) (t.I 109 (2700 * r + n))
    · rw [if_pos c4]
      exact (gi_ins hM hr hn hg c1 hm (ttV_r hM hr hn) (Or.inr ⟨es, c4.2⟩)).2
    · rw [if_neg c4]; exact gi_mono hg
  | some i =>
    show GI t r (4 * r + p) f how (n + 1) (gSm t how (tmV t r (4 * r + p) (2700 * r + n) (nI l)) (2700 * r + n) i g)
    obtain ⟨g1, g2, g3, g4, g5, g6⟩ := gi_mono hg
    have n99 : tmV t r (4 * r + p) (2700 * r + n) (nI l) ≠ 99 := fun z => by
      obtain ⟨m, e, -, h2⟩ := hm
      rw [e] at z
      exact absurd (nI_inj (b := 99) z (by omega) (by decide)) (by omega)
    refine ⟨g1, g2, g3, fun i' => ?_, fun i' => ?_, fun i' hi' => ?_⟩
    · show upd g.2.1 i _ i' = 99 ∨ rng (upd g.2.1 i _ i') 1 16
      by_cases z : i' = i
      · rw [z, upd_s]
        split
        · exact Or.inr hm
        · exact g4 i
      · rw [upd_n z]; exact g4 i'
    · show bit (upd g.2.2 i _ i')
      by_cases z : i' = i
      · rw [z, upd_s]
        split
        · exact Or.inr rfl
        · exact Or.inl rfl
      · rw [upd_n z]; exact g5 i'
    · by_cases z : i' = i
      · subst z
        refine ⟨?_, c2, n, by omega, c1, es⟩
        show upd g.2.1 i' _ i' ≠ 99
        rw [upd_s]
        split
        · exact n99
        · rename_i c
          intro e
          rw [e] at c
          obtain ⟨m, em, -, h2⟩ := hm
          rw [em] at c
          exact c (nI_lt (b := 99) (by omega) (by decide))
      · have hi2 : upd g.2.2 i _ i' ≠ 0 := hi'
        rw [upd_n z] at hi2
        have := g6 i' hi2
        show upd g.2.1 i _ i' ≠ 99 ∧ _
        rw [upd_n z]
        exact this
theorem gi_all (hM : MV t) (hr : r < cR t) : ∀ {n : Nat}, n ≤ cN t r → GI t r (4 * r + p) f how n (gRs t r (4 * r + p) l f how n)
  | 0, _ => by
    refine ⟨List.Pairwise.nil, fun a ha => absurd ha (by unfold gRs; simp), Nat.zero_le _, fun _ => Or.inl rfl, fun _ => Or.inl rfl, fun i hi => absurd rfl hi⟩
  | n + 1, h => gi_step hM hr (by omega) (gi_all hM hr (by omega))
/-- an entry that comes from a summary -/
def frS (t : moS) (q : Nat) (f : Int32) (g : gst) (a : En) (i : Nat) : Prop := g.2.2 i ≠ 0 ∧ a.1 = t.J 92 (4 * q + i) ∧ a.2.1 = t.J 93 (4 * q + i) ∧ a.2.2.1 = t.I 94 (4 * q + i) ∧ bsD t q (t.I 94 (4 * q + i))
def GJ (t : moS) (r q : Nat) (f how : Int32) (n : Nat) (g : gst) (m : Nat) (L : List En) : Prop := eSo f L ∧ (∀ a, a ∈ L → eOk f a ∧ ((∃ j, j < n ∧ frR t r q f how a j) ∨ ∃ i, i < m ∧ frS t q f g a i)) ∧ L.length ≤ n + m
theorem mcov_r {a b : Int64} {n : Int32} : mcov a b n a b := by
  unfold mcov
  rw [Int64.xor_self, Int64.xor_self, Int64.zero_and, Int64.zero_and]
  exact ⟨rfl, rfl⟩
theorem gj_step (hM : MV t) (hr : r < cR t) (hp : p < cI t r) (hn : n ≤ cN t r) (hg : GI t r (4 * r + p) f how n g) {m : Nat} {L : List En} (hm : m < (t.I 90 (4 * r + p)).toNatClampNeg) (hL : GJ t r (4 * r + p) f how n g m L) : GJ t r (4 * r + p) f how n g (m + 1) (gU t (4 * r + p) f g m L) ∧ (g.2.2 m ≠ 0 ∧ bsD t (4 * r + p) (t.I 94 (4 * (4 * r + p) + m)) → lnOk f (t.I 94 (4 * (4 * r + p) + m)) ∧ ∀ a, a ∈ L → kE f a ≠ kE f ((t.J 92 (4 * (4 * r + p) + m), t.J 93 (4 * (4 * r + p) + m), t.I 94 (4 * (4 * r + p) + m), g.2.1 m, 0) : En)) := by
  obtain ⟨l1, l2, l3⟩ := hL
  obtain ⟨g1, g2, g3, g4, g5, g6⟩ := hg
  have su := ((hM.r hr).i hp).2.2.2.2.2.2.2.2.2.2.2.2.2.2.1
  have key : g.2.2 m ≠ 0 ∧ bsD t (4 * r + p) (t.I 94 (4 * (4 * r + p) + m)) → lnOk f (t.I 94 (4 * (4 * r + p) + m)) ∧ ∀ a, a ∈ L → kE f a ≠ kE f ((t.J 92 (4 * (4 * r + p) + m), t.J 93 (4 * (4 * r + p) + m), t.I 94 (4 * (4 * r + p) + m), g.2.1 m, 0) : En) := by
    intro ⟨c1, c2⟩
    obtain ⟨d1, d2, j0, d3, d4, d5⟩ := g6 m c1
    obtain ⟨e1, e2, e3, e4⟩ := fsN_s d5
    have h91 : t.I 91 (4 * (4 * r + p) + m) = f := e1.1.trans d4
    have ln : lnOk f (t.I 94 (4 * (4 * r + p) + m)) := by
      have := su m hm
      rw [h91] at this
      exact this
    refine ⟨ln, fun a ha hk => ?_⟩
    obtain ⟨⟨o1, -⟩, o2⟩ := l2 a ha
    obtain ⟨-, q1, q2, q3⟩ := (kyV_i o1 ln).mp hk
    have q1 : a.1 = t.J 92 (4 * (4 * r + p) + m) := q1
    have q2 : a.2.1 = t.J 93 (4 * (4 * r + p) + m) := q2
    have q3 : a.2.2.1 = t.I 94 (4 * (4 * r + p) + m) := q3
    rcases o2 with ⟨j, hj, y1, y2, y3, y4⟩ | ⟨i, hi, y1, y2, y3, y4, y5⟩
    · rcases y4 with z | ⟨z, -⟩
      · exact d2 z
      · have lr : lnOk f (t.I 109 (2700 * r + j)) := by
          have := hM.kl hr (show j < cN t r by omega)
          rw [y1] at this
          exact this
        have hky : kyV f a.1 a.2.1 a.2.2.1 = kyV f (t.J 107 (2700 * r + j)) (t.J 108 (2700 * r + j)) (t.I 109 (2700 * r + j)) := by
          have := y2
          unfold kE kyR at this
          rw [y1] at this
          exact this
        obtain ⟨-, w1, w2, w3⟩ := (kyV_i o1 lr).mp hky
        refine fsN_n z m (by omega) (by omega) ⟨h91.trans y1.symm, ?_, ?_⟩
        · rw [← q3, w3]; exact Int32.le_refl _
        · rw [← q1, ← q2, ← w1, ← w2]; exact mcov_r
    · refine e4 i (by omega) hi ⟨?_, ?_, ?_⟩
      · obtain ⟨-, -, j1, -, f4, f5⟩ := g6 i y1
        rw [(fsN_s f5).1.1, f4, d4]
      · rw [← y4, q3]; exact e1.2.1
      · rw [← y2, ← y3, ← y4, q1, q2, q3]; exact e1.2.2
  refine ⟨?_, key⟩
  unfold gU
  by_cases c : g.2.2 m ≠ 0 ∧ bsD t (4 * r + p) (t.I 94 (4 * (4 * r + p) + m))
  · rw [if_pos c]
    obtain ⟨k1, k2⟩ := key c
    refine ⟨eIns_s l1 k2, fun a ha => ?_, ?_⟩
    · rcases eIns_m.mp ha with z | z
      · subst z
        refine ⟨⟨k1, (g4 m).resolve_left (g6 m c.1).1, ⟨0, rfl, by omega, by omega⟩⟩, Or.inr ⟨m, by omega, c.1, rfl, rfl, rfl, c.2⟩⟩
      · obtain ⟨h1, h2⟩ := l2 a z
        exact ⟨h1, h2.imp_right fun ⟨i, hi, hh⟩ => ⟨i, by omega, hh⟩⟩
    · rw [eIns_l]; omega
  · rw [if_neg c]
    refine ⟨l1, fun a ha => ?_, by omega⟩
    obtain ⟨h1, h2⟩ := l2 a ha
    exact ⟨h1, h2.imp_right fun ⟨i, hi, hh⟩ => ⟨i, by omega, hh⟩⟩
theorem gj_all (hM : MV t) (hr : r < cR t) (hp : p < cI t r) (hn : n ≤ cN t r) (hg : GI t r (4 * r + p) f how n g) : ∀ {m : Nat}, m ≤ (t.I 90 (4 * r + p)).toNatClampNeg → GJ t r (4 * r + p) f how n g m (gUs t (4 * r + p) f g m)
  | 0, _ => ⟨hg.1, fun a ha => ⟨(hg.2.1 a ha).1, Or.inl (hg.2.1 a ha).2⟩, hg.2.2.1⟩
  | m + 1, h => (gj_step hM hr hp hn hg (by omega) (gj_all hM hr hp hn hg (by omega))).1
/-- the default's entry is none of these -/
theorem gj_def {m : Nat} {L : List En} (hf : bit f) (hh : how = 0) (hd : 0 < t.I 99 (4 * r + p)) (hL : GJ t r (4 * r + p) f how n g m L) {mt tg : Int32} : ∀ a, a ∈ L → kE f a ≠ kE f ((0, 0, 0, mt, tg) : En) := fun a ha hk => by
  obtain ⟨⟨o1, -⟩, o2⟩ := hL.2.1 a ha
  have l0 : lnOk f 0 := ⟨hf, 0, rfl, by omega, Nat.zero_le _⟩
  obtain ⟨-, -, -, q3⟩ := (kyV_i o1 l0).mp hk
  have nz : ∀ n, bsD t (4 * r + p) n → n ≠ 0 := fun n z e => by
    rcases z with z | z
    · rw [z] at hd; exact absurd hd (by decide)
    · rw [e] at z; exact absurd z.1 (by decide)
  rcases o2 with ⟨j, hj, y1, y2, y3, y4⟩ | ⟨i, hi, y1, y2, y3, y4, y5⟩
  · rcases y4 with z | ⟨-, z⟩
    · rw [hh] at z; exact absurd z (by decide)
    · exact nz _ z (y3.symm.trans q3)
  · exact nz _ y5 (y4.symm.trans q3)
end Gi
