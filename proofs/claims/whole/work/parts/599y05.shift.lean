/-! A row put into its place in a table of the class. -/
def cQs (s : cS) (w : Nat) (f : Nat → Option Nat) : cS := (s.1, s.2.1, s.2.2.1, s.2.2.2.1, s.2.2.2.2.1, fun b => if b = w then f else s.Q b)
/-- rows i.. one further; row a put in at i -/
def shF (f : Nat → Option Nat) (i n : Nat) : Nat → Option Nat := fun k => if i < k ∧ k ≤ n then f (k - 1) else f k
def inF (f : Nat → Option Nat) (i n a : Nat) : Nat → Option Nat := fun k => if k < i then f k else if k = i then some a else if k ≤ n then f (k - 1) else f k
def bts (f : Int32) : Int32 := if f = 4 then 32 else 128
/-- a row that begins -/
def bgS (s : cS) (a p p1 p2 p3 : Nat) (tag metric : Int32) : cS := cSI (cSI (cSI (cSP (cSI (cSpf (cSpf (cSpf s p1 (s.I 100 p) (s.J 101 p) (s.J 102 p) (s.I 103 p)) p2 (s.I 100 p) 0 0 (bts (s.I 100 p))) p3 (s.I 100 p) 0 0 (bts (s.I 100 p))) 163 a 2) 166 a none) 165 a tag) 164 a metric) 167 a 0
section Sh
variable {sa : Nat → Nat} {s : cS} {kc ks tb w n cap a p p1 p2 p3 u ur hw mx i k b : Nat} {g : Nat → Nat} {tag metric : Int32}
theorem cQs_id : cQs s w (s.Q w) = s := by
  unfold cQs
  refine Prod.ext rfl (Prod.ext rfl (Prod.ext rfl (Prod.ext rfl (Prod.ext rfl (funext fun b => ?_)))))
  show (if b = w then s.Q w else s.Q b) = s.Q b
  by_cases c : b = w
  · rw [if_pos c, c]
  · rw [if_neg c]
theorem cQs_up {f : Nat → Option Nat} {v : Option Nat} : cSQ (cQs s w f) w i v = cQs s w (va_up f i v) := by
  unfold cSQ cQs
  refine Prod.ext rfl (Prod.ext rfl (Prod.ext rfl (Prod.ext rfl (Prod.ext rfl (funext fun b => ?_)))))
  show (if b = w then va_up (if w = w then f else s.Q w) i v else (if b = w then f else s.Q b)) = if b = w then va_up f i v else s.Q b
  by_cases c : b = w
  · rw [if_pos c, if_pos c, if_pos rfl]
  · rw [if_neg c, if_neg c, if_neg c]
theorem cQs_s {f : Nat → Option Nat} : (cQs s w f).Q w = f := if_pos rfl
theorem shF_n {f : Nat → Option Nat} : shF f n n = f := funext fun k => if_neg (by omega)
theorem shF_s {f : Nat → Option Nat} (h : i < n) : va_up (shF f (i + 1) n) (i + 1) (f i) = shF f i n := by
  funext k
  show (if k = i + 1 then f i else if i + 1 < k ∧ k ≤ n then f (k - 1) else f k) = if i < k ∧ k ≤ n then f (k - 1) else f k
  by_cases c : k = i + 1
  · rw [if_pos c, if_pos (by omega), c]; rfl
  · rw [if_neg c]
    by_cases c2 : i + 1 < k ∧ k ≤ n
    · rw [if_pos c2, if_pos (by omega)]
    · rw [if_neg c2, if_neg (by omega)]
theorem shF_i {f : Nat → Option Nat} : va_up (shF f i n) i (some a) = inF f i n a := by
  funext k
  show (if k = i then some a else if i < k ∧ k ≤ n then f (k - 1) else f k) = if k < i then f k else if k = i then some a else if k ≤ n then f (k - 1) else f k
  by_cases c : k = i
  · rw [if_pos c, if_neg (by omega), if_pos c]
  · rw [if_neg c]
    by_cases c2 : k < i
    · rw [if_neg (by omega), if_pos c2]
    · rw [if_neg c2, if_neg c]
      by_cases c3 : k ≤ n
      · rw [if_pos ⟨by omega, c3⟩, if_pos c3]
      · rw [if_neg (fun z => c3 z.2), if_neg c3]
theorem evSI {f m : Int32} {h l : Int64} : (cSpf s p f h l m).I k b = if k = 103 ∧ b = p then m else if k = 100 ∧ b = p then f else s.I k b := by
  unfold cSpf
  rw [evI]
  by_cases c : k = 103 ∧ b = p
  · rw [if_pos c, if_pos c]
  · rw [if_neg c, if_neg c]
    exact evI
theorem evSJ {f m : Int32} {h l : Int64} : (cSpf s p f h l m).J k b = if k = 102 ∧ b = p then l else if k = 101 ∧ b = p then h else s.J k b := by
  unfold cSpf
  show (cSJ (cSJ (cSI s 100 p f) 101 p h) 102 p l).J k b = _
  rw [evJ]
  by_cases c : k = 102 ∧ b = p
  · rw [if_pos c, if_pos c]
  · rw [if_neg c, if_neg c]
    exact evJ
theorem w_begin {Qk : cS → Nat → Nat → Prop} (ha : okO s 8 a) (hp : okO s 5 p) (h1 : s.P 160 a = some p1) (h2 : s.P 161 a = some p2) (h3 : s.P 162 a = some p3) (o1 : okO s 5 p1) (o2 : okO s 5 p2) (o3 : okO s 5 p3) (n1 : p ≠ p1) (n2 : p ≠ p2) (k : Qk (bgS s a p p1 p2 p3 tag metric) kc ks) : C_Ro_begin sa a (some p) tag metric s kc ks Qk := by
  have key : ∀ r, r = bts (s.I 100 p) → (ob (gP s 8 0 a) (fun v4 => (ob v4 (fun b5 => (okO s 5 b5 ∧ C_Pr_copy sa b5 (some p) s kc ks (fun sr6 cr6 dr6 => (ob (gP sr6 8 1 a) (fun v7 => (ob (gI sr6 5 0 p) (fun v8 => (ob v7 (fun b9 => (okO sr6 5 b9 ∧ C_Pr_setZero sa b9 v8 r sr6 cr6 dr6 (fun sr10 cr10 dr10 => (ob (gP sr10 8 2 a) (fun v11 => (ob (gI sr10 5 0 p) (fun v12 => (ob v11 (fun b13 => (okO sr10 5 b13 ∧ C_Pr_setZero sa b13 v12 r sr10 cr10 dr10 (fun sr14 cr14 dr14 => (ob (pI sr14 8 3 a (2 : Int32)) (fun s15 => (ob (pP s15 8 6 a none) (fun s16 => (ob (pI s16 8 5 a tag) (fun s17 => (ob (pI s17 8 4 a metric) (fun s18 => (ob (pZ s18 8 7 a (0 : Int32)) (fun s19 => (Qk s19 cr14 dr14))))))))))))))))))))))))))))))))) := by
    intro r hr
    subst hr
    refine ⟨_, gd_to ha, _, h1, o1, w_copy o1 hp ?_⟩
    have e1 : (cSpf s p1 (s.I 100 p) (s.J 101 p) (s.J 102 p) (s.I 103 p)).I 100 p = s.I 100 p := by
      rw [evSI, if_neg (fun z => n1 z.2), if_neg (fun z => n1 z.2)]
    have e2 : (cSpf (cSpf s p1 (s.I 100 p) (s.J 101 p) (s.J 102 p) (s.I 103 p)) p2 (s.I 100 p) 0 0 (bts (s.I 100 p))).I 100 p = s.I 100 p := by
      rw [evSI, if_neg (fun z => n2 z.2), if_neg (fun z => n2 z.2), e1]
    refine ⟨_, gd_to (show okO _ 8 a from ha), _, gd_to (show okO _ 5 p from hp), _, h2, show okO _ 5 p2 from o2, ?_⟩
    rw [show (cSpf s p1 (s.I 100 p) (s.J 101 p) (s.J 102 p) (s.I 103 p)).I (20 * 5 + 0) p = s.I 100 p from e1]
    refine w_setZero (show okO _ 5 p2 from o2) ?_
    refine ⟨_, gd_to (show okO _ 8 a from ha), _, gd_to (show okO _ 5 p from hp), _, h3, show okO _ 5 p3 from o3, ?_⟩
    rw [show (cSpf (cSpf s p1 (s.I 100 p) (s.J 101 p) (s.J 102 p) (s.I 103 p)) p2 (s.I 100 p) 0 0 (bts (s.I 100 p))).I (20 * 5 + 0) p = s.I 100 p from e2]
    refine w_setZero (show okO _ 5 p3 from o3) ?_
    exact ⟨_, gd_to (show okO _ 8 a from ha), _, gd_to (show okO _ 8 a from ha), _, gd_to (show okO _ 8 a from ha), _, gd_to (show okO _ 8 a from ha), _, gd_to ⟨show okO _ 8 a from ha, Or.inl rfl⟩, k⟩
  unfold C_Ro_begin
  refine ⟨p, rfl, _, gd_to hp, ?_⟩
  unfold C_Pr_bitsOf
  by_cases c : s.I 100 p = 4
  · exact ifT c (key 32 (by unfold bts; rw [if_pos c]))
  · exact ifF c (key 128 (by unfold bts; rw [if_neg c]))
/-- the rows behind one further, the row in its place, one more, and it begins -/
theorem w_b92 {Qk : Option Nat → cS → Nat → Nat → Prop} {at' : Nat} (h : RTa s tb u ur n hw mx g) (ho : okO s 10 tb) (hu : (130 ≤ u ∧ u < 146 ∧ cAk u = 8) ∧ 1 ≤ ur ∧ ur < 100 ∧ cKn ur = 8) (hmx : mx ≤ 2800) (hP' : s.P 200 tb = some w) (hK : s.K w = (u, cap)) (hn : n < cap) (hat : at' ≤ n) (ha : okO s 8 a) (hp : okO s 5 p) (h1 : s.P 160 a = some p1) (h2 : s.P 161 a = some p2) (h3 : s.P 162 a = some p3) (o1 : okO s 5 p1) (o2 : okO s 5 p2) (o3 : okO s 5 p3) (n1 : p ≠ p1) (n2 : p ≠ p2) (kk : Qk (some a) (bgS (cSI (cQs s w (inF (s.Q w) at' n a)) 201 tb (nI (n + 1))) a p p1 p2 p3 tag metric) kc ks) : C_Ta_add_b92 sa tb (some p) tag metric (nI at') (some a) s kc ks Qk := by
  obtain ⟨a1, a2, a3, w', cap', b1, b2, b3, b4, b5, b6, b7, b8⟩ := h
  rw [hP'] at b1
  cases b1
  rw [hK] at b2
  cases b2
  unfold C_Ta_add_b92
  refine ⟨_, gd_to ho, ?_⟩
  rw [show s.I (20 * 10 + 1) tb = nI n from a1]
  unfold C_Ta_add_b98
  intro P hP
  have okq : ∀ (f : Nat → Option Nat) i, i < cap → okQ (cQs s w f) w (nI i) := fun f i hi => ⟨by show 130 ≤ (s.K w).1; rw [hK]; exact hu.1.1, by show (s.K w).1 < 146; rw [hK]; exact hu.1.2.1, by show vp_in _ (s.K w).2; rw [hK]; exact vp_in_nI hi (by omega)⟩
  have cak : ∀ (f : Nat → Option Nat), cAk ((cQs s w f).K w).1 = 8 := fun f => by show cAk (s.K w).1 = 8; rw [hK]; exact hu.1.2.2
  have loop : ∀ j i, i = at' + j → i ≤ n → P (nI i) (cQs s w (shF (s.Q w) i n)) kc ks := by
    intro j
    induction j with
    | zero =>
      intro i hi hin
      have e : i = at' := by omega
      subst e
      apply hP
      unfold C_Ta_add_s98
      refine ifF (nI_nlt (by omega) (by omega)) ⟨_, gd_to (show okO _ 10 tb from ho), w, hP', _, gd_to ⟨okq _ i (by omega), by rw [cak]; decide, fun b hb => by rw [cak]; cases hb; exact ha⟩, ?_⟩
      rw [nI_clamp (by omega), cQs_up, shF_i]
      refine ⟨_, gd_to (show okO _ 10 tb from ho), _, gd_to (show okO _ 10 tb from ho), a, rfl, show okO _ 8 a from ha, ?_⟩
      rw [show (cQs s w (inF (s.Q w) i n a)).I (20 * 10 + 1) tb = nI n from a1, show nI n + 1 = nI (n + 1) from nI_add n 1]
      exact w_begin (show okO _ 8 a from ha) (show okO _ 5 p from hp) h1 h2 h3 o1 o2 o3 n1 n2 kk
    | succ j ih =>
      intro i hi hin
      obtain ⟨i', rfl⟩ : ∃ i', i = i' + 1 := ⟨at' + j, by omega⟩
      apply hP
      unfold C_Ta_add_s98
      refine ifT (nI_lt (by omega) (by omega)) ⟨_, gd_to (show okO _ 10 tb from ho), _, gd_to (show okO _ 10 tb from ho), w, hP', ?_⟩
      rw [show nI (i' + 1) - 1 = nI i' from by rw [show (1 : Int32) = nI 1 from rfl, pk_sub (by omega)]; rfl]
      refine ⟨_, gd_to (okq _ i' (by omega)), w, hP', ?_⟩
      rw [nI_clamp (by omega), cQs_s, show shF (s.Q w) (i' + 1) n i' = s.Q w i' from if_neg (by omega)]
      obtain ⟨y1, y2⟩ := b6 i' (by omega)
      refine ⟨_, gd_to ⟨okq _ (i' + 1) (by omega), by rw [cak]; decide, fun b hb => by
        rw [cak]
        rw [y1] at hb
        cases hb
        exact (okr y2 8 hu.2 : okO s 8 (g i'))⟩, ?_⟩
      rw [nI_clamp (by omega), cQs_up, shF_s (by omega), show nI (i' + 1) + (-1) = nI i' from by rw [← Int32.sub_eq_add_neg, show (1 : Int32) = nI 1 from rfl, pk_sub (by omega)]; rfl]
      exact ih i' (by omega) (by omega)
  have := loop (n - at') n (by omega) (Nat.le_refl _)
  rw [shF_n, cQs_id] at this
  exact this
end Sh
