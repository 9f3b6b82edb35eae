/-! A route becomes its router's own, on both sides. -/
def boS (s : cS) (a p1 p2 : Nat) (kind metric tag : Int32) (port : Option Nat) : cS := cSpf (cSP (cSI (cSI (cSI s 163 a kind) 164 a metric) 165 a tag) 166 a port) p2 (s.I 100 p1) 0 0 (bts (s.I 100 p1))
/-- it is that already -/
def boD (s : cS) (a p2 : Nat) (kind metric tag : Int32) (port : Option Nat) : Prop := s.I 164 a = metric ∧ s.P 166 a = port ∧ (s.J 101 p2 = 0 ∧ s.J 102 p2 = 0) ∧ (kind = 1 → s.I 165 a = tag)
def beM (t : moS) (k : Nat) (dk dm di dt : Int32) : moS := moSI (moSI (moSJ (moSJ (moSI (moSI (moSI (moSI t 110 k dk) 111 k dm) 113 k di) 112 k dt) 114 k 0) 115 k 0) 116 k (-1)) 122 k (-1)
def beD (t : moS) (k : Nat) (dk dm di dt : Int32) : Prop := t.I 111 k = dm ∧ t.I 113 k = di ∧ t.J 114 k = 0 ∧ t.J 115 k = 0 ∧ (dk = 1 → t.I 112 k = dt)
section Bo
variable {G H : Nat → Nat → Nat} {sa : Nat → Nat} {x kc ks a p1 p2 r w k : Nat} {s : cS} {t : moS} {kind metric tag : Int32} {port : Option Nat}
theorem w_b45 {Qk : Int32 → cS → Nat → Nat → Prop} {u0 : Int32} (hu : u0 = 0 ∨ u0 = 1) (ha : okO s 8 a) (h1 : s.P 160 a = some p1) (h2 : s.P 161 a = some p2) (o1 : okO s 5 p1) (o2 : okO s 5 p2) (kk : Qk u0 (boS s a p1 p2 kind metric tag port) kc ks) : C_Ro_becomeOwn_b45 sa a kind metric tag port u0 s kc ks Qk := by
  unfold C_Ro_becomeOwn_b45
  have e0 : ∀ p, (cSP (cSI (cSI (cSI s 163 a kind) 164 a metric) 165 a tag) 166 a port).I 100 p = s.I 100 p := fun p => by
    show (cSI (cSI (cSI s 163 a kind) 164 a metric) 165 a tag).I 100 p = _
    rw [cSI_g (by decide), cSI_g (by decide), cSI_g (by decide)]
  have e1 : (cSP (cSI (cSI (cSI s 163 a kind) 164 a metric) 165 a tag) 166 a port).P 160 a = some p1 := by rw [cSP_g (by decide)]; exact h1
  have e2 : (cSP (cSI (cSI (cSI s 163 a kind) 164 a metric) 165 a tag) 166 a port).P 161 a = some p2 := by rw [cSP_g (by decide)]; exact h2
  refine ⟨_, gd_to ha, _, gd_to (show okO _ 8 a from ha), _, gd_to (show okO _ 8 a from ha), _, gd_to (show okO _ 8 a from ha), _, gd_to (show okO _ 8 a from ha), _, gd_to (show okO _ 8 a from ha), p1, e1, _, gd_to (show okO _ 5 p1 from o1), _, gd_to (show okO _ 8 a from ha), p1, e1, _, gd_to (show okO _ 5 p1 from o1), ?_⟩
  unfold C_Pr_bitsOf
  have fin : ∀ b, b = bts (s.I 100 p1) → (ob ((cSP (cSI (cSI (cSI s 163 a kind) 164 a metric) 165 a tag) 166 a port).P (20 * 8 + 1) a) (fun b13 => (okO (cSP (cSI (cSI (cSI s 163 a kind) 164 a metric) 165 a tag) 166 a port) 5 b13 ∧ C_Pr_setZero sa b13 ((cSP (cSI (cSI (cSI s 163 a kind) 164 a metric) 165 a tag) 166 a port).I (20 * 5 + 0) p1) b (cSP (cSI (cSI (cSI s 163 a kind) 164 a metric) 165 a tag) 166 a port) kc ks (fun sr14 cr14 dr14 => ((u0 = 0 ∨ u0 = 1) ∧ Qk u0 sr14 cr14 dr14))))) := by
    intro b hb
    subst hb
    refine ⟨p2, e2, show okO _ 5 p2 from o2, w_setZero (show okO _ 5 p2 from o2) ⟨hu, ?_⟩⟩
    rw [show (cSP (cSI (cSI (cSI s 163 a kind) 164 a metric) 165 a tag) 166 a port).I (20 * 5 + 0) p1 = s.I 100 p1 from e0 p1]
    exact kk
  by_cases c : s.I 100 p1 = 4
  · exact ifT ((e0 p1).trans c) (fin 32 (by unfold bts; rw [if_pos c]))
  · exact ifF (fun z => c ((e0 p1).symm.trans z)) (fin 128 (by unfold bts; rw [if_neg c]))
theorem w_become {Qk : Int32 → cS → Nat → Nat → Prop} (ha : okO s 8 a) (h1 : s.P 160 a = some p1) (h2 : s.P 161 a = some p2) (o1 : okO s 5 p1) (o2 : okO s 5 p2) (k0 : boD s a p2 kind metric tag port → Qk 0 (boS s a p1 p2 kind metric tag port) kc ks) (k1 : ¬ boD s a p2 kind metric tag port → Qk 1 (boS s a p1 p2 kind metric tag port) kc ks) : C_Ro_becomeOwn sa a kind metric tag port s kc ks Qk := by
  unfold boD at k0 k1
  have yes := fun h => w_b45 (sa := sa) (kc := kc) (ks := ks) (kind := kind) (metric := metric) (tag := tag) (port := port) (Or.inr rfl) ha h1 h2 o1 o2 (k1 h)
  have no := fun h => w_b45 (sa := sa) (kc := kc) (ks := ks) (kind := kind) (metric := metric) (tag := tag) (port := port) (Or.inl rfl) ha h1 h2 o1 o2 (k0 h)
  unfold C_Ro_becomeOwn
  refine ⟨_, gd_to ha, ?_⟩
  by_cases c1 : s.I 164 a = metric
  · refine ifT c1 ⟨_, gd_to ha, ?_⟩
    by_cases c2 : s.P 166 a = port
    · refine ifT c2 ⟨_, gd_to ha, p2, h2, o2, w_isZero o2 (fun c3 => ifT rfl (yes fun z => c3 z.2.2.1)) fun c3 => ifF (by decide) ?_⟩
      by_cases c4 : kind = 1
      · refine ifT c4 ⟨_, gd_to ha, ?_⟩
        by_cases c5 : s.I 165 a = tag
        · exact ifT c5 (no ⟨c1, c2, c3, fun _ => c5⟩)
        · exact ifF c5 (yes fun z => c5 (z.2.2.2 c4))
      · exact ifF c4 (no ⟨c1, c2, c3, fun z => absurd z c4⟩)
    · exact ifF c2 (yes fun z => c2 z.2.1)
  · exact ifF c1 (yes fun z => c1 z.1)
theorem beM_74 (hN : ∀ k, k ∈ fRA → t.N k = 16200) (N45 : t.N 45 = 66) (N44 : t.N 44 = 6) (hr : r < 6) (hk : k < 16200) (u0 : Int32) : M_become_b74 t (nI r) (nI k) u0 = some (if u0 = 0 then beM t k (t.S 153) (t.S 154) (t.S 155) (t.S 156) else mkM (beM t k (t.S 153) (t.S 154) (t.S 155) (t.S 156)) r k) := by
  unfold M_become_b74
  refine (sw_I (n := 16200) (by exact hN 110 (by decide)) hk (by decide)).trans ?_
  refine (sw_I (n := 16200) (by exact hN 111 (by decide)) hk (by decide)).trans ?_
  refine (sw_I (n := 16200) (by exact hN 113 (by decide)) hk (by decide)).trans ?_
  refine (sw_I (n := 16200) (by exact hN 112 (by decide)) hk (by decide)).trans ?_
  refine (sw_J (n := 16200) (by exact hN 114 (by decide)) hk (by decide)).trans ?_
  refine (sw_J (n := 16200) (by exact hN 115 (by decide)) hk (by decide)).trans ?_
  refine (sw_I (n := 16200) (by exact hN 116 (by decide)) hk (by decide)).trans ?_
  refine (sw_I (n := 16200) (by exact hN 122 (by decide)) hk (by decide)).trans ?_
  show (if u0 = 0 then some (beM t k (t.S 153) (t.S 154) (t.S 155) (t.S 156)) else Option.bind (M_markChanged (beM t k (t.S 153) (t.S 154) (t.S 155) (t.S 156)) (nI r) (nI k)) fun s9 => some s9) = _
  by_cases c : u0 = 0
  · rw [if_pos c, if_pos c]
  · rw [if_neg c, if_neg c, mkM_e (t := beM t k (t.S 153) (t.S 154) (t.S 155) (t.S 156)) (hN 119 (by decide)) N45 N44 hr hk]
    rfl
theorem beM_e (hN : ∀ k, k ∈ fRA → t.N k = 16200) (N45 : t.N 45 = 66) (N44 : t.N 44 = 6) (hr : r < 6) (hk : k < 16200) : (beD t k (t.S 153) (t.S 154) (t.S 155) (t.S 156) → M_become t (nI r) (nI k) = some (beM t k (t.S 153) (t.S 154) (t.S 155) (t.S 156))) ∧ (¬ beD t k (t.S 153) (t.S 154) (t.S 155) (t.S 156) → M_become t (nI r) (nI k) = some (mkM (beM t k (t.S 153) (t.S 154) (t.S 155) (t.S 156)) r k)) := by
  have e0 := beM_74 hN N45 N44 hr hk 0
  have e1 := beM_74 hN N45 N44 hr hk 1
  rw [if_pos rfl] at e0
  rw [if_neg (by decide)] at e1
  have i : ∀ k', k' ∈ fRA → rdI t k' (nI k) = some (t.I k' k) := fun k' h => rdI_n (n := 16200) (hN k' h) hk (by decide)
  have j : ∀ k', k' ∈ fRA → rdJ t k' (nI k) = some (t.J k' k) := fun k' h => rdJ_n (n := 16200) (hN k' h) hk (by decide)
  unfold M_become M_become_b69 M_become_b73 beD
  rw [i 111 (by decide), e0, e1]
  simp only [Option.bind_some]
  by_cases c1 : t.I 111 k = t.S 154
  · rw [if_pos c1, i 113 (by decide)]
    simp only [Option.bind_some]
    by_cases c2 : t.I 113 k = t.S 155
    · rw [if_pos c2, j 114 (by decide)]
      simp only [Option.bind_some]
      by_cases c3 : t.J 114 k = 0
      · rw [if_pos c3, j 115 (by decide)]
        simp only [Option.bind_some]
        by_cases c4 : t.J 115 k = 0
        · rw [if_pos c4]
          by_cases c5 : t.S 153 = 1
          · rw [if_pos c5, i 112 (by decide)]
            simp only [Option.bind_some]
            by_cases c6 : t.I 112 k = t.S 156
            · rw [if_pos c6]
              exact ⟨fun _ => rfl, fun z => absurd ⟨c1, c2, c3, c4, fun _ => c6⟩ z⟩
            · rw [if_neg c6]
              exact ⟨fun z => absurd (z.2.2.2.2 c5) c6, fun _ => rfl⟩
          · rw [if_neg c5]
            exact ⟨fun _ => rfl, fun z => absurd ⟨c1, c2, c3, c4, fun y => absurd y c5⟩ z⟩
        · rw [if_neg c4]
          exact ⟨fun z => absurd z.2.2.2.1 c4, fun _ => rfl⟩
      · rw [if_neg c3]
        exact ⟨fun z => absurd z.2.2.1 c3, fun _ => rfl⟩
    · rw [if_neg c2]
      exact ⟨fun z => absurd z.2.1 c2, fun _ => rfl⟩
  · rw [if_neg c1]
    exact ⟨fun z => absurd z.1 c1, fun _ => rfl⟩
theorem rwC.bo : rwC G H r a w s (boS s a (H 160 a) (H 161 a) kind metric tag port) := by
  unfold boS
  have a' : a = H 186 (G 1 r) ∨ a = a ∨ a = H 160 a ∨ a = H 161 a ∨ a = H 162 a ∨ a = G 1 r ∨ (s.K a).1 = 18 := Or.inr (Or.inl rfl)
  exact ((((rwC.i a').tr (rwC.i a')).tr (rwC.i a')).tr rwC.p).tr (rwC.pf (Or.inr (Or.inl rfl)))
theorem rwT.be {dk dm di dt : Int32} (hi : 2700 * r ≤ k ∧ k < 2700 * r + 2700) : rwT r t (beM t k dk dm di dt) := by
  unfold beM
  exact (((((((rwT.i (by decide) hi).tr (rwT.i (by decide) hi)).tr (rwT.i (by decide) hi)).tr (rwT.i (by decide) hi)).tr (rwT.j (by decide) hi)).tr (rwT.j (by decide) hi)).tr (rwT.i (by decide) hi)).tr (rwT.i (by decide) hi)
end Bo
