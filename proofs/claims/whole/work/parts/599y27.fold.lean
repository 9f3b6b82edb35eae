/-! Settling as steps that go in any order. -/
section Fo
variable {A B : Type} {st : B → A → A}
/-- a list of steps, the first first -/
def fld (st : B → A → A) : List B → A → A
  | [], a => a
  | k :: L, a => fld st L (st k a)
theorem fld_c (hc : ∀ k k' a, st k (st k' a) = st k' (st k a)) : ∀ (L : List B) (k : B) (a : A), fld st L (st k a) = st k (fld st L a)
  | [], _, _ => rfl
  | k' :: L, k, a => by
    show fld st L (st k' (st k a)) = st k (fld st L (st k' a))
    rw [hc, fld_c hc L]
theorem fld_cc (hc : ∀ k k' a, st k (st k' a) = st k' (st k a)) : ∀ (L M : List B) (a : A), fld st L (fld st M a) = fld st M (fld st L a)
  | [], _, _ => rfl
  | k :: L, M, a => by
    show fld st L (st k (fld st M a)) = fld st M (fld st L (st k a))
    rw [← fld_c hc M, fld_cc hc L]
theorem fld_in (hc : ∀ k k' a, st k (st k' a) = st k' (st k a)) (hi : ∀ k a, st k (st k a) = st k a) : ∀ (L : List B) (k : B) (a : A), k ∈ L → st k (fld st L a) = fld st L a
  | [], _, _, h => absurd h (by simp)
  | k' :: L, k, a, h => by
    show st k (fld st L (st k' a)) = fld st L (st k' a)
    rcases List.mem_cons.mp h with e | e
    · subst e
      rw [← fld_c hc L, hi]
    · exact fld_in hc hi L k _ e
theorem fld_s (L : List B) (a : A) (h : ∀ k, k ∈ L → st k a = a) : fld st L a = a := by
  induction L with
  | nil => rfl
  | cons k L ih =>
    show fld st L (st k a) = a
    rw [h k (by simp)]
    exact ih fun k' hk => h k' (List.mem_cons_of_mem _ hk)
theorem fld_eq (hc : ∀ k k' a, st k (st k' a) = st k' (st k a)) (hi : ∀ k a, st k (st k a) = st k a) (L M : List B) (a : A) (h1 : ∀ k, k ∈ L → k ∈ M ∨ st k a = a) (h2 : ∀ k, k ∈ M → k ∈ L ∨ st k a = a) : fld st L a = fld st M a := by
  have x1 : fld st L (fld st M a) = fld st M a := fld_s L _ fun k hk => by
    rcases h1 k hk with z | z
    · exact fld_in hc hi M k a z
    · rw [← fld_c hc M, z]
  have x2 : fld st M (fld st L a) = fld st L a := fld_s M _ fun k hk => by
    rcases h2 k hk with z | z
    · exact fld_in hc hi L k a z
    · rw [← fld_c hc L, z]
  rw [← x2, fld_cc hc, x1]
theorem fld_ap : ∀ (L M : List B) (a : A), fld st (L ++ M) a = fld st M (fld st L a)
  | [], _, _ => rfl
  | k :: L, M, a => fld_ap L M (st k a)
end Fo
abbrev Pf : Type := Int32 × Int64 × Int64 × Int32
/-- a route's values, as far as they matter: kind, metric, tag, interface, changed, gateway; times; deadline; source -/
abbrev NV : Type := Int32 × Int32 × Int32 × Int32 × Int32 × Int64 × Int64 × (Int32 × Int32) × Int32 × (Int64 × Int64)
abbrev DU : Type := Int32 × Int32 × Int32 × Int32
def ownV (d : DU) (c : Int32) : NV := (d.1, d.2.1, d.2.2.2, d.2.2.1, c, 0, 0, (0, 0), 0, (0, 0))
abbrev ownS (d : DU) (w : NV) : Prop := w.2.1 = d.2.1 ∧ w.2.2.2.1 = d.2.2.1 ∧ w.2.2.2.2.2.1 = 0 ∧ w.2.2.2.2.2.2.1 = 0 ∧ (d.1 = 1 → w.2.2.1 = d.2.2.2)
/-- a route is settled: what becomes of it, and whether it is another -/
def stp (tg : Int32) : Option DU → Option NV → Option NV × Bool
  | some d, some w => if ownS d w then (some (ownV d w.2.2.2.2.1), false) else (some (ownV d 1), true)
  | some d, none => (some (ownV d 1), true)
  | none, some w => if w.1 = 2 then (some w, false) else (some (2, 16, 0, -1, 1, w.2.2.2.2.2.1, w.2.2.2.2.2.2.1, (0, 0), tg, (0, 0)), true)
  | none, none => (none, false)
theorem ownV_s (d : DU) (c : Int32) : ownS d (ownV d c) := ⟨rfl, rfl, rfl, rfl, fun _ => rfl⟩
theorem stp_i (tg : Int32) (d : Option DU) (v : Option NV) : stp tg d (stp tg d v).1 = ((stp tg d v).1, false) := by
  cases d with
  | none =>
    cases v with
    | none => rfl
    | some w =>
      show stp tg none (if w.1 = 2 then (some w, false) else _).1 = _
      by_cases c : w.1 = 2
      · rw [if_pos c]
        show (if w.1 = 2 then (some w, false) else _) = ((if w.1 = 2 then (some w, false) else _).1, false)
        rw [if_pos c]
      · rw [if_neg c]
        show _ = ((if w.1 = 2 then (some w, false) else _).1, false)
        rw [if_neg c]
        rfl
  | some d =>
    have h : ∀ c, stp tg (some d) (some (ownV d c)) = (some (ownV d c), false) := fun c => by
      show (if ownS d (ownV d c) then _ else _) = _
      rw [if_pos (ownV_s d c)]
      rfl
    cases v with
    | none => exact h 1
    | some w =>
      show stp tg (some d) (if ownS d w then (some (ownV d w.2.2.2.2.1), false) else (some (ownV d 1), true)).1 = ((if ownS d w then (some (ownV d w.2.2.2.2.1), false) else (some (ownV d 1), true)).1, false)
      by_cases c : ownS d w
      · rw [if_pos c]; exact h _
      · rw [if_neg c]; exact h _
abbrev AA : Type := (Pf → Option NV) × Int32 × Int32
/-- one prefix settled: routes, how many were changed, when to tell it -/
def st2 (g0 : Int32) (k : Pf) (p : Option NV × Bool) (a : AA) : AA := ((fun k' => if k' = k then p.1 else a.1 k'), cond p.2 (a.2.1 + 1) a.2.1, cond p.2 (if a.2.2 = -1 then g0 else a.2.2) a.2.2)
def st1 (d : Pf → Option DU) (tg g0 : Int32) (k : Pf) (a : AA) : AA := st2 g0 k (stp tg (d k) (a.1 k)) a
theorem st1_s {d : Pf → Option DU} {tg g0 : Int32} {k : Pf} {a : AA} : (st1 d tg g0 k a).1 k = (stp tg (d k) (a.1 k)).1 := if_pos rfl
theorem st1_n {d : Pf → Option DU} {tg g0 : Int32} {k k' : Pf} {a : AA} (h : k' ≠ k) : (st1 d tg g0 k a).1 k' = a.1 k' := if_neg h
theorem st2_i {g0 : Int32} {k : Pf} {p q : Option NV × Bool} {a : AA} (h : q = (p.1, false)) : st2 g0 k q (st2 g0 k p a) = st2 g0 k p a := by
  subst h
  refine Prod.ext (funext fun k' => ?_) rfl
  show (if k' = k then p.1 else if k' = k then p.1 else a.1 k') = if k' = k then p.1 else a.1 k'
  by_cases c : k' = k
  · rw [if_pos c, if_pos c]
  · rw [if_neg c, if_neg c]
theorem st2_c {g0 : Int32} {k k' : Pf} {p q : Option NV × Bool} {a : AA} (h : k ≠ k') : st2 g0 k p (st2 g0 k' q a) = st2 g0 k' q (st2 g0 k p a) := by
  obtain ⟨p1, p2⟩ := p
  obtain ⟨q1, q2⟩ := q
  refine Prod.ext (funext fun y => ?_) (Prod.ext ?_ ?_)
  · show (if y = k then p1 else if y = k' then q1 else a.1 y) = if y = k' then q1 else if y = k then p1 else a.1 y
    by_cases c1 : y = k
    · rw [if_pos c1, if_neg (fun z => h (c1.symm.trans z)), if_pos c1]
    · rw [if_neg c1, if_neg c1]
  · show cond p2 (cond q2 (a.2.1 + 1) a.2.1 + 1) (cond q2 (a.2.1 + 1) a.2.1) = cond q2 (cond p2 (a.2.1 + 1) a.2.1 + 1) (cond p2 (a.2.1 + 1) a.2.1)
    cases p2 <;> cases q2 <;> rfl
  · show cond p2 (if cond q2 (if a.2.2 = -1 then g0 else a.2.2) a.2.2 = -1 then g0 else cond q2 (if a.2.2 = -1 then g0 else a.2.2) a.2.2) (cond q2 (if a.2.2 = -1 then g0 else a.2.2) a.2.2) = cond q2 (if cond p2 (if a.2.2 = -1 then g0 else a.2.2) a.2.2 = -1 then g0 else cond p2 (if a.2.2 = -1 then g0 else a.2.2) a.2.2) (cond p2 (if a.2.2 = -1 then g0 else a.2.2) a.2.2)
    cases p2 <;> cases q2 <;> rfl
theorem st1_i (d : Pf → Option DU) (tg g0 : Int32) (k : Pf) (a : AA) : st1 d tg g0 k (st1 d tg g0 k a) = st1 d tg g0 k a := by
  have h := stp_i tg (d k) (a.1 k)
  rw [← st1_s (d := d) (tg := tg) (g0 := g0) (k := k) (a := a)] at h
  show st2 g0 k (stp tg (d k) ((st1 d tg g0 k a).1 k)) (st2 g0 k (stp tg (d k) (a.1 k)) a) = _
  rw [h]
  exact st2_i (p := stp tg (d k) (a.1 k)) (by rw [st1_s])
theorem st1_c (d : Pf → Option DU) (tg g0 : Int32) (k k' : Pf) (a : AA) : st1 d tg g0 k (st1 d tg g0 k' a) = st1 d tg g0 k' (st1 d tg g0 k a) := by
  by_cases c : k = k'
  · rw [c]
  show st2 g0 k (stp tg (d k) ((st1 d tg g0 k' a).1 k)) (st1 d tg g0 k' a) = st2 g0 k' (stp tg (d k') ((st1 d tg g0 k a).1 k')) (st1 d tg g0 k a)
  rw [st1_n c, st1_n (fun z => c z.symm)]
  exact st2_c c
