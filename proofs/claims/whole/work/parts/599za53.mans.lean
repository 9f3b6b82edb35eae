/-! A request is answered entry by entry: the model. -/
/-- the metric that an entry is answered with -/
noncomputable def aeM (t : moS) (r : Nat) (g : Nat → Int32) (f e : Nat) : Int32 := @dite _ (∃ j, j < cN t r ∧ peK g f e ∧ kyR t (2700 * r + j) = kyV (nI f) (peH g f e) (peL g f e) (peN g f e)) (Classical.propDecidable _) (fun h => t.I 111 (2700 * r + h.choose)) (fun _ => 16)
/-- the body, k entries of which are answered -/
def anF (L : List Int32) (f i0 : Nat) (M : Nat → Int32) (k i : Nat) : Int32 := if i < 20 * k then (if i % 20 = 19 then M (i / 20) else if f = 0 ∧ 16 ≤ i % 20 then 0 else L.getD (i0 + i) 0) else L.getD (i0 + i) 0
theorem anF_s {L : List Int32} {f i0 k i : Nat} {M : Nat → Int32} : anF L f i0 M (k + 1) i = if i = 20 * k + 19 then M k else if f = 0 ∧ 20 * k + 16 ≤ i ∧ i < 20 * k + 19 then 0 else anF L f i0 M k i := by
  unfold anF
  by_cases c1 : i = 20 * k + 19
  · rw [if_pos c1, if_pos (by omega), if_pos (by omega), show i / 20 = k by omega]
  rw [if_neg c1]
  by_cases c2 : f = 0 ∧ 20 * k + 16 ≤ i ∧ i < 20 * k + 19
  · rw [if_pos c2, if_pos (by omega), if_neg (by omega), if_pos ⟨c2.1, by omega⟩]
  rw [if_neg c2]
  by_cases c3 : i < 20 * k
  · rw [if_pos c3, if_pos (by omega)]
  · rw [if_neg c3]
    by_cases c4 : i < 20 * (k + 1)
    · rw [if_pos c4, if_neg (by omega), if_neg (fun z => c2 ⟨z.1, by omega, by omega⟩)]
    · rw [if_neg c4]
theorem anF_e {L : List Int32} {f i0 k n i : Nat} {M : Nat → Int32} (h : k ≤ n) (hi : i < 20 * k) : anF L f i0 M k i = anF L f i0 M n i := by
  unfold anF
  rw [if_pos hi, if_pos (show i < 20 * n by omega)]
section Mn
variable {t u : moS} {r p f i0 n : Nat} {g : Nat → Int32} {e : Nat} {h l : Int64} {L : List Int32}
theorem aeM_p {j : Nat} (hM : MV t) (hr : r < cR t) (hj : j < cN t r) (cK : peK g f e) (hk : kyR t (2700 * r + j) = kyV (nI f) (peH g f e) (peL g f e) (peN g f e)) : aeM t r g f e = t.I 111 (2700 * r + j) := by
  have ex : ∃ j, j < cN t r ∧ peK g f e ∧ kyR t (2700 * r + j) = kyV (nI f) (peH g f e) (peL g f e) (peN g f e) := ⟨j, hj, cK, hk⟩
  have e1 : aeM t r g f e = t.I 111 (2700 * r + ex.choose) := dif_pos ex
  obtain ⟨h1, -, h3⟩ := ex.choose_spec
  have : ex.choose = j := by
    rcases Nat.lt_trichotomy ex.choose j with c | c | c
    · have := hM.ks hr c hj
      omega
    · exact c
    · have := hM.ks hr c h1
      omega
  rw [e1, this]
theorem aeM_n (no : ∀ j, j < cN t r → peK g f e → kyR t (2700 * r + j) ≠ kyV (nI f) (peH g f e) (peL g f e) (peN g f e)) : aeM t r g f e = 16 := dif_neg fun ⟨j, h1, h2, h3⟩ => no j h1 h2 h3
theorem aeM_r (hM : MV t) (hr : r < cR t) : rng (aeM t r g f e) 1 16 := by
  by_cases ex : ∃ j, j < cN t r ∧ peK g f e ∧ kyR t (2700 * r + j) = kyV (nI f) (peH g f e) (peL g f e) (peN g f e)
  · obtain ⟨j, h1, h2, h3⟩ := ex
    rw [aeM_p hM hr h1 h2 h3]
    exact ((hM.r hr).w h1).2.2.1
  · rw [aeM_n fun j h1 h2 h3 => ex ⟨j, h1, h2, h3⟩]
    exact ⟨16, rfl, by decide, by decide⟩
theorem aeM_fr {W : List Nat} (m : mfr W t u) (d : dj [105, 106, 107, 108, 109, 111] W) : aeM u r g f e = aeM t r g f e := by
  unfold aeM kyR cN
  rw [m.I 105 (d.n 105), m.I 106 (d.n 106), m.I 109 (d.n 109), m.I 111 (d.n 111), m.J 107 (d.n 107), m.J 108 (d.n 108)]
theorem b17 : ∀ m, m < 17 → ((nI m >>> ((16 : Int32) &&& 31)) >>> ((8 : Int32) &&& 31)) &&& 255 = 0 ∧ (nI m >>> ((16 : Int32) &&& 31)) &&& 255 = 0 ∧ (nI m >>> ((8 : Int32) &&& 31)) &&& 255 = 0 ∧ nI m &&& 255 = nI m := by decide
abbrev Wan : List Nat := [12, 13, 14, 15, 146]
/-- what stands in the body -/
def BD (t u : moS) (L : List Int32) (f i0 n : Nat) (M : Nat → Int32) (k : Nat) : Prop := mfr Wan t u ∧ ∀ i, i < 20 * n → u.I 146 i = anF L f i0 M k i
/-- the metric of an entry is written -/
theorem bd_put {k : Nat} {v : Int32} {q : Int32} (hN : u.N 146 = 700) (hB : BD t u L f i0 n (fun k => aeM t r (fun j => L.getD j 0) f (i0 + 20 * k)) k) (hk : k < n) (hn : n ≤ 28) (hf : f = 0 ∨ f = 1) (hv : rng v 1 16) (ev : v = aeM t r (fun j => L.getD j 0) f (i0 + 20 * k)) : ∃ u', M_answer_b151 u q (nI f) h l (nI n) (nI k) v = some (.inl (nI (k + 1), u')) ∧ BD t u' L f i0 n (fun k => aeM t r (fun j => L.getD j 0) f (i0 + 20 * k)) (k + 1) := by
  obtain ⟨mm, e1, e2, e3⟩ := hv
  obtain ⟨b1, b2, b3, b4⟩ := b17 mm (by omega)
  have w : ∀ (u : moS) (i : Nat) (v : Int32), u.N 146 = 700 → i < 700 → wrI u 146 (nI i) v = some (moSI u 146 i v) := fun u i v hN hi => wrI_n (n := 700) hN hi (by decide)
  rcases hf with rfl | rfl
  · refine ⟨moSI (moSI (moSI (moSI u 146 (20 * k + 16) 0) 146 (20 * k + 17) 0) 146 (20 * k + 18) 0) 146 (20 * k + 19) v, ?_, hB.1.tr ((((mfr.si (by decide)).tr (mfr.si (by decide))).tr (mfr.si (by decide))).tr (mfr.si (by decide))), fun i hi => ?_⟩
    · unfold M_answer_b151 M_put4 M_put2 M_answer_b193
      rw [if_pos (show nI 0 = 0 from rfl), show (20 : Int32) * nI k + 16 = nI (20 * k + 16) by rw [show (20 : Int32) = nI 20 from rfl, pk_mul]; exact nI_add _ 16, nI_1, show nI (20 * k + 16) + (2 : Int32) = nI (20 * k + 18) from nI_add _ 2, nI_1, e1, b1, b2, b3, b4, w u _ _ hN (by omega)]
      simp only [Option.bind_some]
      rw [w (moSI u 146 (20 * k + 16) 0) _ _ hN (by omega)]
      simp only [Option.bind_some]
      rw [w (moSI (moSI u 146 (20 * k + 16) 0) 146 (20 * k + 17) 0) _ _ hN (by omega)]
      simp only [Option.bind_some]
      rw [w (moSI (moSI (moSI u 146 (20 * k + 16) 0) 146 (20 * k + 17) 0) 146 (20 * k + 18) 0) _ _ hN (by omega)]
      simp only [Option.bind_some]
      rw [nI_1]
    · rw [anF_s, evMI, evMI, evMI, evMI]
      by_cases c : i = 20 * k + 19
      · rw [if_pos ⟨rfl, c⟩, if_pos c]
        exact ev
      rw [if_neg (fun z => c z.2), if_neg c]
      by_cases c2 : 20 * k + 16 ≤ i ∧ i < 20 * k + 19
      · rw [if_pos (show 0 = 0 ∧ 20 * k + 16 ≤ i ∧ i < 20 * k + 19 from ⟨rfl, c2⟩)]
        by_cases c3 : i = 20 * k + 18
        · rw [if_pos ⟨rfl, c3⟩]
        rw [if_neg (fun z => c3 z.2)]
        by_cases c4 : i = 20 * k + 17
        · rw [if_pos ⟨rfl, c4⟩]
        rw [if_neg (fun z => c4 z.2), if_pos ⟨rfl, by omega⟩]
      · rw [if_neg (show ¬ (0 = 0 ∧ 20 * k + 16 ≤ i ∧ i < 20 * k + 19) from fun z => c2 z.2), if_neg (show ¬ (146 = 146 ∧ i = 20 * k + 18) by omega), if_neg (show ¬ (146 = 146 ∧ i = 20 * k + 17) by omega), if_neg (show ¬ (146 = 146 ∧ i = 20 * k + 16) by omega)]
        exact hB.2 i hi
  · refine ⟨moSI u 146 (20 * k + 19) v, ?_, hB.1.tr (mfr.si (by decide)), fun i hi => ?_⟩
    · unfold M_answer_b151 M_answer_b193
      rw [if_neg (show ¬ nI 1 = 0 by decide), show (20 : Int32) * nI k + 19 = nI (20 * k + 19) by rw [show (20 : Int32) = nI 20 from rfl, pk_mul]; exact nI_add _ 19, w u _ _ hN (by omega)]
      simp only [Option.bind_some]
      rw [nI_1]
    · rw [anF_s, evMI]
      by_cases c : i = 20 * k + 19
      · rw [if_pos ⟨rfl, c⟩, if_pos c]
        exact ev
      · rw [if_neg (fun z => c z.2), if_neg c, if_neg (fun z => absurd z.1 (by decide))]
        exact hB.2 i hi
/-- the whole body -/
theorem m_body (hM : MV t) (hr : r < cR t) (hp : p < cI t r) (hI : IN t L) (hB : ∀ j, L.getD j 0 = nI (vc L j)) (hf : f = 0 ∨ f = 1) (s162 : t.S 162 = nI i0) (hn : i0 + 20 * n ≤ L.length) (hl6 : L.length ≤ 600) (h28 : n ≤ 28) : ∃ te, BD t te L f i0 n (fun k => aeM t r (fun j => L.getD j 0) f (i0 + 20 * k)) n ∧ M_answer_b45 t (nI (4 * r + p)) (nI f) h l (nI n) 0 = Option.bind (M_send te (nI (4 * r + p)) (nI f) 2 (nI n) 0 h l) (fun s1 => some s1) := by
  have h6 := hM.nR
  have h4 := hM.nIf hr
  have hN := hM.1.1
  have e4 : nI (4 * r + p) / 4 = nI r := by
    have : nI (4 * r + p) / 4 = nI ((4 * r + p) / 4) := pk_div (d := 4) (by omega) (by decide) (by decide)
    rw [this]
    congr 1
    omega
  have nu : ∀ {u : moS}, mfr Wan t u → mN u := fun {u} m => (hM.1.fr m rfl).1
  -- the entries
  have two : ∀ d k u, k + d = n → BD t u L f i0 n (fun k => aeM t r (fun j => L.getD j 0) f (i0 + 20 * k)) k → ∃ te, BD t te L f i0 n (fun k => aeM t r (fun j => L.getD j 0) f (i0 + 20 * k)) n ∧ M_answer_b83 u (nI (4 * r + p)) (nI f) h l (nI n) (nI k) = Option.bind (M_send te (nI (4 * r + p)) (nI f) 2 (nI n) 0 h l) (fun s1 => some s1) := by
    intro d
    induction d with
    | zero =>
      intro k u hk hb
      have ek : k = n := by omega
      subst ek
      refine ⟨u, hb, ?_⟩
      unfold M_answer_b83
      refine lp_x ?_
      show M_answer_s83 u (nI (4 * r + p)) (nI f) h l (nI k) (nI k) = _
      unfold M_answer_s83
      rw [if_neg (nI_nlt (Nat.le_refl _) (by omega))]
    | succ d ih =>
      intro k u hk hb
      have hmu := hb.1
      have Mu : MV u := hM.fr hmu rfl (hM.1.fr hmu rfl)
      have Nu := Mu.1.1
      have Iu : IN u L := hI.fr hmu rfl
      have hru : r < cR u := by unfold cR; rw [hmu.S 37 (by decide)]; exact hr
      have ent := m_entry (t := u) (i := i0 + 20 * k) (Nu.n 149 700) (by omega) (fun j _ _ => ⟨vc L j, vc_b L j, (Iu.2 j (by omega)).trans (hB j)⟩) hf
      rw [pk_e (g' := fun j => L.getD j 0) Iu.2 (by omega)] at ent
      obtain ⟨en1, en0⟩ := ent
      obtain ⟨y1, y2, y3⟩ := pe_e (f := f) (g' := fun j => L.getD j 0) (i := i0 + 20 * k) Iu.2 (by omega)
      have ea : u.S 162 + (20 : Int32) * nI k = nI (i0 + 20 * k) := by rw [hmu.S 162 (by decide), s162, show (20 : Int32) = nI 20 from rfl, pk_mul, nI_add]
      have rv := aeM_r (g := fun j => L.getD j 0) (f := f) (e := i0 + 20 * k) hM hr
      -- one entry
      have st : ∃ u', M_answer_s83 u (nI (4 * r + p)) (nI f) h l (nI n) (nI k) = some (.inl (nI (k + 1), u')) ∧ BD t u' L f i0 n (fun k => aeM t r (fun j => L.getD j 0) f (i0 + 20 * k)) (k + 1) := by
        have fin : ∀ u1, mfr [12, 13, 14, 15] u u1 → ∃ u', M_answer_b151 u1 (nI (4 * r + p)) (nI f) h l (nI n) (nI k) (aeM t r (fun j => L.getD j 0) f (i0 + 20 * k)) = some (.inl (nI (k + 1), u')) ∧ BD t u' L f i0 n (fun k => aeM t r (fun j => L.getD j 0) f (i0 + 20 * k)) (k + 1) := fun u1 m1 => by
          have b1 : BD t u1 L f i0 n (fun k => aeM t r (fun j => L.getD j 0) f (i0 + 20 * k)) k := ⟨hmu.tr (m1.wk (by decide)), fun i hi => by rw [m1.I 146 (by decide)]; exact hb.2 i hi⟩
          exact bd_put ((nu b1.1).n 146 700) b1 (by omega) h28 hf rv rfl
        unfold M_answer_s83
        rw [if_pos (nI_lt (by omega) (by omega)), ea]
        by_cases cK : peK (fun j => L.getD j 0) f (i0 + 20 * k)
        · obtain ⟨u1, q1, m1, q12, q13, q14, q15⟩ := en1 cK
          rw [y2] at q13
          rw [y3] at q14
          rw [y1] at q15
          have lo := pe_ok hB hf cK
          have M1 : MV u1 := Mu.fr m1 rfl (Mu.1.fr m1 rfl)
          have hr1 : r < cR u1 := by unfold cR; rw [m1.S 37 (by decide)]; exact hru
          have m2 : mfr Wan t u1 := hmu.tr (m1.wk (by decide))
          have eA : aeM u1 r (fun j => L.getD j 0) f (i0 + 20 * k) = aeM t r (fun j => L.getD j 0) f (i0 + 20 * k) := aeM_fr m2 rfl
          obtain ⟨u', z1, z2⟩ := fin u1 m1
          refine ⟨u', ?_, z2⟩
          rw [q1, bn2_s, if_neg (by decide), e4, q13, q14, q15]
          rcases m_find (h := peH (fun j => L.getD j 0) f (i0 + 20 * k)) (l := peL (fun j => L.getD j 0) f (i0 + 20 * k)) M1 hr1 lo with ⟨no, y⟩ | ⟨j, hj, hky, y⟩
          · rw [y]
            simp only [Option.bind_some]
            unfold M_answer_b133
            rw [if_pos rfl, ← z1, ← eA, aeM_n fun j h1 _ => no j h1]
          · have h9 := M1.nRo hr1
            rw [y]
            simp only [Option.bind_some]
            unfold M_answer_b133
            rw [if_neg (nI_ne (show 2700 * r + j < 16200 by omega)), rdI_n (n := 16200) (M1.1.1.n 111 16200) (by omega) (by decide)]
            simp only [Option.bind_some]
            rw [← z1, ← eA, aeM_p M1 hr1 hj cK hky]
        · obtain ⟨u1, q1, m1⟩ := en0 cK
          obtain ⟨u', z1, z2⟩ := fin u1 m1
          refine ⟨u', ?_, z2⟩
          rw [q1, bn2_s, if_pos rfl]
          unfold M_answer_b133
          rw [if_pos rfl, ← z1, aeM_n fun j _ h2 => absurd h2 cK]
      obtain ⟨u', s1, s2⟩ := st
      obtain ⟨te, w1, w2⟩ := ih (k + 1) u' (by omega) s2
      refine ⟨te, w1, ?_⟩
      unfold M_answer_b83 at w2 ⊢
      exact (lp_l (f := fun x : Int32 × moS => M_answer_s83 x.2 (nI (4 * r + p)) (nI f) h l (nI n) x.1) (x := (nI k, u)) (y := (nI (k + 1), u')) s1).trans w2
  -- the copy
  have one : ∀ d k u, k + d = 20 * n → mfr [146] t u → (∀ i, i < k → u.I 146 i = L.getD (i0 + i) 0) → ∃ te, BD t te L f i0 n (fun k => aeM t r (fun j => L.getD j 0) f (i0 + 20 * k)) n ∧ M_answer_b45 u (nI (4 * r + p)) (nI f) h l (nI n) (nI k) = Option.bind (M_send te (nI (4 * r + p)) (nI f) 2 (nI n) 0 h l) (fun s1 => some s1) := by
    intro d
    induction d with
    | zero =>
      intro k u hk m hg
      obtain ⟨te, w1, w2⟩ := two n 0 u (by omega) ⟨m.wk (by decide), fun i hi => by
        rw [hg i (by omega)]
        unfold anF
        rw [if_neg (by omega)]⟩
      refine ⟨te, w1, ?_⟩
      unfold M_answer_b45
      refine lp_x ?_
      show M_answer_s45 u (nI (4 * r + p)) (nI f) h l (nI n) (nI k) = _
      unfold M_answer_s45
      rw [show (20 : Int32) * nI n = nI (20 * n) by rw [show (20 : Int32) = nI 20 from rfl, pk_mul], if_neg (nI_nlt (by omega) (by omega)), ← w2]
      rfl
    | succ d ih =>
      intro k u hk m hg
      have Nu : mN u := nu (m.wk (by decide))
      have st : M_answer_s45 u (nI (4 * r + p)) (nI f) h l (nI n) (nI k) = some (.inl (nI (k + 1), moSI u 146 k (L.getD (i0 + k) 0))) := by
        unfold M_answer_s45
        rw [show (20 : Int32) * nI n = nI (20 * n) by rw [show (20 : Int32) = nI 20 from rfl, pk_mul], if_pos (nI_lt (by omega) (by omega)), m.S 162 (by decide), s162, nI_add, rdI_n (n := 700) (Nu.n 149 700) (by omega) (by decide), m.I 149 (by decide), hI.2 _ (by omega)]
        simp only [Option.bind_some]
        rw [wrI_n (n := 700) (Nu.n 146 700) (by omega) (by decide)]
        simp only [Option.bind_some]
        rw [nI_1]
      obtain ⟨te, w1, w2⟩ := ih (k + 1) (moSI u 146 k (L.getD (i0 + k) 0)) (by omega) (m.tr (mfr.si (by decide))) fun i hi => by
        rw [evMI]
        by_cases c : i = k
        · rw [if_pos ⟨rfl, c⟩, c]
        · rw [if_neg (fun z => c z.2)]
          exact hg i (by omega)
      refine ⟨te, w1, ?_⟩
      unfold M_answer_b45 at w2 ⊢
      exact (lp_l (f := fun x : Int32 × moS => M_answer_s45 x.2 (nI (4 * r + p)) (nI f) h l (nI n) x.1) (x := (nI k, u)) (y := (nI (k + 1), moSI u 146 k (L.getD (i0 + k) 0))) st).trans w2
  exact one (20 * n) 0 t (by omega) mfr.rf fun i hi => absurd hi (Nat.not_lt_zero i)
end Mn
