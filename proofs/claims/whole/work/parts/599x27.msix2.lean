/-! Addresses, read by the model. -/
def r6 (o : Option (List Nat)) (r : Int32) (t : moS) : Prop := match o with
  | none => r = 0
  | some gs => r = 1 ∧ t.S 12 = 1 ∧ t.Z 13 = Int64.ofNat (nv gs / 2 ^ 64) ∧ t.Z 14 = Int64.ofNat (nv gs % 2 ^ 64)
section M6
variable {t : moS} {u : Nat → Nat} {n e f : Nat}
theorem m_end6 {t' : moS} {gs : List Nat} {gap : Option Nat} {p : Int32} (m : mfr [16] t t') (h16 : t'.N 16 = 8) (hl : gs.length ≤ 8) (hg : ∀ a, a ∈ gs → a < 65536) (hgap : ∀ g, gap = some g → g ≤ gs.length) (hI : ∀ j, j < gs.length → t'.I 16 j = nI (gs.getD j 0)) : ∃ r t'', M_readSix_s73 t' (nI e) (nI gs.length) (gpI gap) p 0 = xo (some (r, t'')) ∧ mfr [12, 13, 14, 16] t t'' ∧ r6 (exp8 gs gap) r t'' := by
  have mw : mfr [12, 13, 14, 16] t t' := m.wk (by intro k hk; revert hk; revert k; decide)
  unfold M_readSix_s73
  rw [if_pos rfl]
  cases he : exp8 gs gap with
  | some es =>
    have hv := m_val h16 he hg hgap hI
    refine ⟨1, _, ?_, ((mw.tr (mfr.ss (k := 12) (v := 1) (by decide))).tr (mfr.sz (k := 13) (v := Int64.ofNat (nv es / 2 ^ 64)) (by decide))).tr (mfr.sz (k := 14) (v := Int64.ofNat (nv es % 2 ^ 64)) (by decide)), rfl, ?_, ?_, ?_⟩
    · rw [← hv]
      cases gap with
      | none =>
        have h : (if gs.length = 8 then some gs else none) = some es := he
        split at h
        · rename_i h8
          rw [if_pos (show gpI none = -1 from rfl), if_pos (show nI gs.length = 8 by rw [h8]; rfl)]
        · cases h
      | some g =>
        have := hgap g rfl
        have h : (if gs.length < 8 then some (gs.take g ++ List.replicate (8 - gs.length) 0 ++ gs.drop g) else none) = some es := he
        split at h
        · rename_i h8
          rw [if_neg (show ¬ gpI (some g) = -1 from fun h => nI_pos (show g < 2 ^ 31 by omega) (by rw [show nI g = -1 from h]; decide)), if_neg (show ¬ 7 < nI gs.length from nI_nlt (a := 7) (by omega) (by omega))]
        · cases h
    · show (moSS t' 12 1).S 12 = 1
      exact moSS_s
    · rw [moSZ_n (by decide)]; exact moSZ_s
    · exact moSZ_s
  | none =>
    refine ⟨0, t', ?_, mw, rfl⟩
    cases gap with
    | none =>
      have h : (if gs.length = 8 then some gs else none) = none := he
      split at h
      · cases h
      · rename_i h8
        rw [if_pos (show gpI none = -1 from rfl), if_neg (show ¬ nI gs.length = 8 from fun h => h8 ((nI_eq (b := 8) (by omega) (by omega)).mp h))]
    | some g =>
      have := hgap g rfl
      have h : (if gs.length < 8 then some (gs.take g ++ List.replicate (8 - gs.length) 0 ++ gs.drop g) else none) = none := he
      split at h
      · cases h
      · rename_i h8
        rw [if_neg (show ¬ gpI (some g) = -1 from fun h => nI_pos (show g < 2 ^ 31 by omega) (by rw [show nI g = -1 from h]; decide)), if_pos (show 7 < nI gs.length from nI_lt (a := 7) (by omega) (by omega))]
theorem m_loop6 (hu : uT t u n) (h16 : t.N 16 = 8) (he : e ≤ n) (R : Option (List Nat × Option Nat)) : ∀ (r i : Nat) (gs : List Nat) (gap : Option Nat) (t' : moS) (p : Int32), r + gs.length = 9 → gs.length ≤ 8 → (i < e → p = nI i) → mfr [16] t t' → (∀ a, a ∈ gs → a < 65536) → (∀ g, gap = some g → g ≤ gs.length) → (∀ j, j < gs.length → t'.I 16 j = nI (gs.getD j 0)) → sx6 u e r i gs gap = R → ∃ r' t'', lp (fun y : Int32 × Int32 × Int32 × Int32 × moS => M_readSix_s73 y.2.2.2.2 (nI e) y.1 y.2.1 y.2.2.1 y.2.2.2.1) (nI gs.length, gpI gap, p, if i < e then 1 else 0, t') = some (r', t'') ∧ mfr [12, 13, 14, 16] t t'' ∧ r6 (sixE R) r' t'' := by
  have hn := hu.1
  intro r
  induction r with
  | zero => intro i gs gap t' p h1 h2; omega
  | succ r ih =>
    intro i gs gap t' p hr hl hp m hg hgap hI hR
    have h16' : t'.N 16 = 8 := (m.2 16 (Or.inr (by decide))).trans h16
    have hu' := uT.fr hu m (by decide)
    have hu1 := hu.2.1
    by_cases ci : i < e
    · rw [if_pos ci, hp ci]
      have hb := fnd_le u 58 (e - i) i
      have heq := fnd_eq u 58 (e - i) i
      have hR : (if i < e then
          match hexN u i (fnd u 58 (e - i) i) with
          | none => none
          | some v => if gs.length = 8 then none else
              if fnd u 58 (e - i) i < e then
                if fnd u 58 (e - i) i + 1 = e then none else
                if u (fnd u 58 (e - i) i + 1) = 58 then (if gap = none then sx6 u e r (fnd u 58 (e - i) i + 2) (gs ++ [v]) (some (gs.length + 1)) else none)
                else sx6 u e r (fnd u 58 (e - i) i + 1) (gs ++ [v]) gap
              else sx6 u e r (fnd u 58 (e - i) i + 1) (gs ++ [v]) gap
          else some (gs, gap)) = R := hR
      rw [if_pos ci] at hR
      obtain ⟨d1, d2⟩ := m_dgs (a4 := gpI gap) hu' h16' he ci rfl hl
      generalize hE : fnd u 58 (e - i) i = E at hb heq hR d1 d2
      have s73 : M_readSix_s73 t' (nI e) (nI gs.length) (gpI gap) (nI i) 1 = M_readSix_b84 t' (nI e) (nI gs.length) (gpI gap) (nI i) 0 0 := by
        unfold M_readSix_s73
        rw [if_neg (by decide)]
      have stop : ∀ t2 : moS, mfr [16] t t2 → R = none → M_readSix_b84 t' (nI e) (nI gs.length) (gpI gap) (nI i) 0 0 = xo (some (0, t2)) → ∃ r' t'', lp (fun y : Int32 × Int32 × Int32 × Int32 × moS => M_readSix_s73 y.2.2.2.2 (nI e) y.1 y.2.1 y.2.2.1 y.2.2.2.1) (nI gs.length, gpI gap, nI i, 1, t') = some (r', t'') ∧ mfr [12, 13, 14, 16] t t'' ∧ r6 (sixE R) r' t'' := by
        intro t2 m2 hRn hb
        refine ⟨0, t2, lp_x (s73.trans hb), m2.wk (by intro k hk; revert hk; revert k; decide), ?_⟩
        rw [hRn]; exact rfl
      cases hn : hexN u i E with
      | none =>
        rw [hn] at hR
        obtain ⟨t2, m2, e2⟩ := d2 hn
        exact stop t2 (m.tr m2) hR.symm e2
      | some v =>
        rw [hn] at hR
        have hR : (if gs.length = 8 then none else
              if E < e then
                if E + 1 = e then none else
                if u (E + 1) = 58 then (if gap = none then sx6 u e r (E + 2) (gs ++ [v]) (some (gs.length + 1)) else none)
                else sx6 u e r (E + 1) (gs ++ [v]) gap
              else sx6 u e r (E + 1) (gs ++ [v]) gap) = R := hR
        have e1 := d1 v hn
        have hv := hexN_lt hn
        have hge := hexN_ge hn
        have h4 : E ≤ i + 4 := by
          unfold hexN at hn
          split at hn
          · rename_i c; exact c.2
          · cases hn
        have b137 : M_readSix_b137 t' (nI e) (nI gs.length) (gpI gap) (nI E) (nI v) (nI (E - i)) = if nI gs.length = 8 then xo (some (0, t')) else Option.bind (wrI t' 16 (nI gs.length) (nI v)) (fun s1 => if nI E < nI e then M_readSix_b178 s1 (nI e) (nI gs.length + 1) (gpI gap) (nI E) 1 else M_readSix_b178 s1 (nI e) (nI gs.length + 1) (gpI gap) (nI E) 0) := by
          unfold M_readSix_b137
          rw [if_neg (show ¬ nI (E - i) = 0 from fun h => by have := (nI_eq (b := 0) (by omega) (by omega)).mp h; omega), if_neg (show ¬ 4 < nI (E - i) from nI_nlt (a := 4) (by omega) (by omega))]
        rw [b137] at e1
        by_cases c8 : gs.length = 8
        · rw [if_pos c8] at hR
          rw [if_pos (show nI gs.length = 8 by rw [c8]; rfl)] at e1
          exact stop t' m hR.symm e1
        rw [if_neg c8] at hR
        rw [if_neg (show ¬ nI gs.length = 8 from fun h => c8 ((nI_eq (b := 8) (by omega) (by omega)).mp h)), wrI_n (n := 8) h16' (by omega) (by decide)] at e1
        have e1 : M_readSix_b84 t' (nI e) (nI gs.length) (gpI gap) (nI i) 0 0 = if nI E < nI e then M_readSix_b178 (moSI t' 16 gs.length (nI v)) (nI e) (nI gs.length + 1) (gpI gap) (nI E) 1 else M_readSix_b178 (moSI t' 16 gs.length (nI v)) (nI e) (nI gs.length + 1) (gpI gap) (nI E) 0 := e1
        rw [nI_1] at e1
        have m2 : mfr [16] t (moSI t' 16 gs.length (nI v)) := m.tr (mfr.si (by decide))
        have hu2 := uT.fr hu m2 (by decide)
        have l2 : (gs ++ [v]).length = gs.length + 1 := by rw [List.length_append]; rfl
        have hI2 : ∀ j, j < (gs ++ [v]).length → (moSI t' 16 gs.length (nI v)).I 16 j = nI ((gs ++ [v]).getD j 0) := by
          intro j hj
          rw [l2] at hj
          rw [moSI_s]
          by_cases c : j = gs.length
          · subst c
            rw [nd_r (Nat.le_refl _), Nat.sub_self]
            exact pk_us
          · rw [pk_un c, nd_l (by omega)]
            exact hI j (by omega)
        have hg2 : ∀ a, a ∈ gs ++ [v] → a < 65536 := fun a ha => by
          rcases List.mem_append.mp ha with ha | ha
          · exact hg a ha
          · rw [List.mem_singleton.mp ha]; exact hv
        generalize moSI t' 16 gs.length (nI v) = t2 at e1 m2 hu2 hI2
        have go : ∀ (i' : Nat) (gap' : Option Nat) (p' fl : Int32), M_readSix_b84 t' (nI e) (nI gs.length) (gpI gap) (nI i) 0 0 = some (.inl (nI (gs.length + 1), gpI gap', p', fl, t2)) → fl = (if i' < e then 1 else 0) → (i' < e → p' = nI i') → (∀ g, gap' = some g → g ≤ gs.length + 1) → sx6 u e r i' (gs ++ [v]) gap' = R → ∃ r' t'', lp (fun y : Int32 × Int32 × Int32 × Int32 × moS => M_readSix_s73 y.2.2.2.2 (nI e) y.1 y.2.1 y.2.2.1 y.2.2.2.1) (nI gs.length, gpI gap, nI i, 1, t') = some (r', t'') ∧ mfr [12, 13, 14, 16] t t'' ∧ r6 (sixE R) r' t'' := by
          intro i' gap' p' fl hb hfl hp' hgap' hR'
          rw [lp_l (show (fun y : Int32 × Int32 × Int32 × Int32 × moS => M_readSix_s73 y.2.2.2.2 (nI e) y.1 y.2.1 y.2.2.1 y.2.2.2.1) (nI gs.length, gpI gap, nI i, 1, t') = _ from s73.trans hb)]
          have := ih i' (gs ++ [v]) gap' t2 p' (by rw [l2]; omega) (by rw [l2]; omega) hp' m2 hg2 (by rw [l2]; exact hgap') hI2 hR'
          rw [l2, ← hfl] at this
          exact this
        have hgs : ∀ g, gap = some g → g ≤ gs.length + 1 := fun g e => by have := hgap g e; omega
        by_cases cE : E < e
        · rw [if_pos cE] at hR
          rw [if_pos (nI_lt cE (by omega))] at e1
          unfold M_readSix_b178 at e1
          rw [if_neg (by decide), hu2.2.2 E (by omega), heq (by omega)] at e1
          have e1 : M_readSix_b84 t' (nI e) (nI gs.length) (gpI gap) (nI i) 0 0 = if nI E + 1 < nI e then Option.bind (rdI t2 2 (nI E + 1)) (fun x2 => if x2 = 58 then (if gpI gap = -1 then (if nI E + 1 + 1 < nI e then M_readSix_b248 t2 (nI e) (nI (gs.length + 1)) (nI (gs.length + 1)) (nI E + 1 + 1) 1 else M_readSix_b248 t2 (nI e) (nI (gs.length + 1)) (nI (gs.length + 1)) (nI E + 1 + 1) 0) else xo (some (0, t2))) else M_readSix_b253 t2 (nI e) (nI (gs.length + 1)) (gpI gap) (nI E + 1) 1) else M_readSix_b253 t2 (nI e) (nI (gs.length + 1)) (gpI gap) (nI E + 1) 1 := e1
          rw [nI_1, nI_1] at e1
          by_cases cE1 : E + 1 = e
          · rw [if_pos cE1] at hR
            rw [if_neg (nI_nlt (by omega) (by omega))] at e1
            unfold M_readSix_b253 at e1
            rw [if_pos (by rw [cE1])] at e1
            exact stop t2 m2 hR.symm e1
          rw [if_neg cE1] at hR
          rw [if_pos (nI_lt (by omega) (by omega)), hu2.2.2 (E + 1) (by omega)] at e1
          have hvl := hu1 (E + 1)
          have e1 : M_readSix_b84 t' (nI e) (nI gs.length) (gpI gap) (nI i) 0 0 = if nI (u (E + 1)) = 58 then (if gpI gap = -1 then (if nI (E + 1 + 1) < nI e then M_readSix_b248 t2 (nI e) (nI (gs.length + 1)) (nI (gs.length + 1)) (nI (E + 1 + 1)) 1 else M_readSix_b248 t2 (nI e) (nI (gs.length + 1)) (nI (gs.length + 1)) (nI (E + 1 + 1)) 0) else xo (some (0, t2))) else M_readSix_b253 t2 (nI e) (nI (gs.length + 1)) (gpI gap) (nI (E + 1)) 1 := e1
          by_cases c58 : u (E + 1) = 58
          · rw [if_pos c58] at hR
            rw [if_pos (show nI (u (E + 1)) = 58 by rw [c58]; rfl)] at e1
            cases gap with
            | none =>
              rw [if_pos rfl] at hR
              rw [if_pos (show gpI none = -1 from rfl)] at e1
              by_cases c2 : E + 2 < e
              · rw [if_pos (nI_lt (show E + 1 + 1 < e by omega) (by omega))] at e1
                exact go (E + 2) (some (gs.length + 1)) (nI (E + 1 + 1)) 1 e1 (by rw [if_pos c2]) (fun _ => rfl) (fun g e => by cases e; exact Nat.le_refl _) hR
              · rw [if_neg (nI_nlt (show e ≤ E + 1 + 1 by omega) (by omega))] at e1
                exact go (E + 2) (some (gs.length + 1)) (nI (E + 1 + 1)) 0 e1 (by rw [if_neg c2]) (fun _ => rfl) (fun g e => by cases e; exact Nat.le_refl _) hR
            | some g =>
              rw [if_neg (by simp)] at hR
              have := hgap g rfl
              rw [if_neg (show ¬ gpI (some g) = -1 from fun h => nI_pos (show g < 2 ^ 31 by omega) (by rw [show nI g = -1 from h]; decide))] at e1
              exact stop t2 m2 hR.symm e1
          · rw [if_neg c58] at hR
            rw [if_neg (show ¬ nI (u (E + 1)) = 58 from fun h => c58 ((nI_eq (b := 58) (by omega) (by omega)).mp h))] at e1
            unfold M_readSix_b253 at e1
            rw [if_neg (show ¬ nI (E + 1) = nI e from fun h => cE1 ((nI_eq (by omega) (by omega)).mp h))] at e1
            exact go (E + 1) gap (nI (E + 1)) 1 e1 (by rw [if_pos (by omega)]) (fun _ => rfl) hgs hR
        · rw [if_neg cE] at hR
          rw [if_neg (nI_nlt (by omega) (by omega))] at e1
          unfold M_readSix_b178 at e1
          rw [if_pos rfl] at e1
          exact go (E + 1) gap (nI E) 0 e1 (by rw [if_neg (by omega)]) (fun h => by omega) hgs hR
    · rw [if_neg ci]
      have hR : some (gs, gap) = R := by rw [← hR]; exact (if_neg ci).symm
      obtain ⟨r', t'', e1, m1, h1⟩ := m_end6 (e := e) (p := p) m h16' hl hg hgap hI
      refine ⟨r', t'', lp_x e1, m1, ?_⟩
      rw [← hR]; exact h1
end M6
