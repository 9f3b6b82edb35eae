/-! A route that is new in a table, its router's own: the relation. -/
section In
variable {G H : Nat → Nat → Nat} {sa : Nat → Nat} {x r w a i n hw' p cap : Nat} {s : cS} {t t2 : moS} {f n' dk dm di dt : Int32} {h l : Int64}
theorem mv_ins (hM : MV t) (hr : r < cR t) (hn : n = cN t r) (h8 : n < 880) (hins : insM t t2 r i f h l n') (hi : i ≤ n) (hf : lnOk f n') (hlt : ∀ j, j < i → kyR t (2700 * r + j) < kyV f h l n') (hgt : ∀ j, i ≤ j → j < n → kyV f h l n' < kyR t (2700 * r + j)) (hd : dueOk t r dk dm di dt) : MV (setM t2 (2700 * r + i) dk dm di dt) := by
  have h6 := hM.nR
  obtain ⟨ct, e105, -, -, oI, oJ, ⟨v1, v2, v3, v4⟩, ⟨v5, v6, v7, v8⟩, v9, v10, v11, v12⟩ := ins_mod (dk := dk) (dm := dm) (di := di) (dt := dt) hins hn h8 hi
  generalize setM t2 (2700 * r + i) dk dm di dt = t3 at *
  have eN : cN t3 r = n + 1 := by unfold cN; rw [e105, nI_clamp (by omega)]
  have i4 := hM.nIf hr
  have ei : cI t3 r = cI t r := by unfold cI; rw [ct.1.I 70 (by decide)]
  obtain ⟨y1, y2, y3, y4, y5⟩ := id hd
  have nn : ∀ q, q < 100 → nI q ≠ -1 := by decide +kernel
  have dk2 : dk ≠ 2 := by rcases y1 with e | e <;> rw [e] <;> decide
  have kyN : kyR t3 (2700 * r + i) = kyV f h l n' := by
    unfold kyR
    rw [v1, v2, v3, v4]
  have kyO : ∀ j, j ≠ i → j ≤ n → kyR t3 (2700 * r + j) = kyR t (2700 * r + (if i < j then j - 1 else j)) := fun j h1 h2 => by
    unfold kyR
    rw [oI 106 (by decide) j h1 h2, oI 109 (by decide) j h1 h2, oJ 107 (by decide) j h1 h2, oJ 108 (by decide) j h1 h2]
  refine hM.rw hr ct ⟨n + 1, e105, by omega, by omega⟩ (fun j hj => ?_) fun j1 j2 h12 hj2 => ?_
  · rw [eN] at hj
    by_cases z : j = i
    · subst z
      unfold mRw
      rw [ei, v1, v4, v5, v6, v7, v8, v9, v10, v11, v12]
      refine ⟨hf, ?_, y2.wk (by omega) (by omega), fun _ => y2, y3, hd.i, fun z => ?_, y5, fun _ => ⟨rfl, rfl⟩, Or.inl rfl, fun z => absurd z dk2, fun _ => rfl⟩
      · rcases y1 with e | e <;> rw [e]
        · exact ⟨0, rfl, by omega, by omega⟩
        · exact ⟨1, rfl, by omega, by omega⟩
      · obtain ⟨q, q1, q2, q3⟩ := y4 z
        rw [q1]
        exact nn q (by omega)
    · exact ((hM.r hr).w (j := if i < j then j - 1 else j) (by rw [← hn]; split <;> omega)).mv ei (fun g hg => oI g hg j z (by omega)) fun g hg => oJ g hg j z (by omega)
  · rw [eN] at hj2
    by_cases z1 : j1 = i
    · rw [z1, kyN, kyO j2 (by omega) (by omega), if_pos (by omega)]
      exact hgt _ (by omega) (by omega)
    · rw [kyO j1 z1 (by omega)]
      by_cases z2 : j2 = i
      · rw [z2, kyN, if_neg (by omega)]
        exact hlt _ (by omega)
      · rw [kyO j2 z2 (by omega)]
        refine hM.ks hr ?_ ?_
        · split <;> split <;> omega
        · rw [← hn]; split <;> omega
theorem rr_ins (hR : RR G H sa x s t) (hM : MV t) (hr : r < cR t) (hn : n = cN t r) (h8 : n < 880) (hins : insM t t2 r i f h l n') (hi : i ≤ n) (hw : s.P 200 (H 186 (G 1 r)) = some w) (hK : s.K w = (135, cap)) (hnc : n < cap) (ka : (s.K a).1 = 23) (hnew : n < G 13 r ∧ hw' = G 13 r ∧ a = G 4 (2700 * r + n) ∨ n = G 13 r ∧ hw' = G 13 r + 1 ∧ ∀ r' j, r' < cR t → j < G 13 r' → G 4 (2700 * r' + j) ≠ a) (hp : PF s p (fam f) h l n') (hpr : p ≠ H 186 (G 1 r)) (hd : dueOk t r dk dm di dt) : RR (insG G r i n a hw') H sa x (inC s H (H 186 (G 1 r)) w i n a p dk dm dt (ifp G di)) (setM t2 (2700 * r + i) dk dm di dt) := by
  have h6 := hM.nR
  have hq := hR.q.1
  have hT := hq.ty
  have b0 := (hq.tb hr).1
  rw [← hn] at b0
  have k1 := (hq.rt hr).1.1
  have kw : (s.K w).1 = 135 := by rw [hK]
  have h27 := b0.2.2.1
  have d8 : ∀ i j, i < G 13 r → j < G 13 r → G 4 (2700 * r + i) = G 4 (2700 * r + j) → i = j := by
    obtain ⟨-, -, -, w0, cap0, -, -, -, -, -, -, -, d8⟩ := b0
    exact d8
  have hc : n < G 13 r ∧ hw' = G 13 r ∨ n = G 13 r ∧ hw' = G 13 r + 1 := by
    rcases hnew with ⟨z1, z2, -⟩ | ⟨z1, z2, -⟩
    · exact Or.inl ⟨z1, z2⟩
    · exact Or.inr ⟨z1, z2⟩
  have nota : ∀ y, y < G 13 r → y ≠ n → G 4 (2700 * r + y) ≠ a := fun y h1 h2 z => by
    rcases hnew with ⟨w1, -, w3⟩ | ⟨-, -, w3⟩
    · rw [w3] at z
      exact h2 (d8 y n h1 w1 z)
    · exact w3 r y hr h1 z
  have oth : ∀ r' j, r' < cR t → r' ≠ r → j < G 13 r' → G 4 (2700 * r' + j) ≠ a := fun r' j hr' hne hj z => by
    rcases hnew with ⟨w1, -, w3⟩ | ⟨-, -, w3⟩
    · rw [w3] at z
      have hb := (hq.tb hr').1.2.2.1
      have := hq.2.1.2.2.2.2.1 r' r j n hr' hr hj w1 z
      omega
    · exact w3 r' j hr' hj z
  obtain ⟨ct, e105, m44, m45, oI, oJ, ⟨v1, v2, v3, v4⟩, ⟨v5, v6, v7, v8⟩, v9, v10, v11, v12⟩ := ins_mod (dk := dk) (dm := dm) (di := di) (dt := dt) hins hn h8 hi
  generalize setM t2 (2700 * r + i) dk dm di dt = t3 at *
  obtain ⟨cc, s201, ⟨s100, s101, s102, s103⟩, ⟨g100, g101, g102⟩, ⟨a163, a164, a165, a167, a166⟩, iR, hE, hQ⟩ := ins_cls (dk := dk) (dm := dm) (dt := dt) (port := ifp G di) (i := i) (n := n) (w := w) hT k1 ka hp hpr
  generalize inC s H (H 186 (G 1 r)) w i n a p dk dm dt (ifp G di) = sF at *
  have hTa := ins_ta b0 hw hK hnc hi hc (by omega) ka nota cc.1 (cc.2.1 200 _ (by decide)) s201 hQ
  have eN : cN t3 r = n + 1 := by unfold cN; rw [e105, nI_clamp (by omega)]
  have dk2 : dk ≠ 2 := by rcases hd.1 with e | e <;> rw [e] <;> decide
  have hRW : RW (insG G r i n a hw') H sF t3 a (2700 * r + i) := by
    unfold RW PF ifp
    rw [insG_o (by decide) (by decide), v1, v2, v3, v4, v5, v6, v7, v8, v9, v10, v11, s100, s103, s101, s102, g100, g101, g102, a163, a164, a165, a166, a167]
    exact ⟨⟨rfl, rfl, rfl, rfl⟩, ⟨rfl, rfl, rfl, rfl⟩, rfl, ⟨rfl, rfl, rfl⟩, fun z => absurd z dk2, fun z => absurd z dk2, fun z => absurd z dk2⟩
  have e13 : insG G r i n a hw' 13 r = hw' := by rw [insG_13]; exact if_pos rfl
  have hw27 : hw' ≤ 2700 := by omega
  refine rr_row hR hM hr (fun b h4 h13 => insG_o h4 h13) (fun r' hr' hne => ⟨by rw [insG_13]; exact if_neg hne, fun j hj => insG_4o hne ?_⟩) cc ct hw ka ⟨iR 190, iR 192⟩ ?_ (by rw [iR 199]; exact Int32.lt_irrefl) ?_ oth (fun j hj => ?_) fun j hj => ?_
  · have := (hq.tb hr').1.2.2.1
    omega
  · exact rt_keep (hq.rt hr) hq hr cc ka kw (fun g _ => iR g) (by rw [hE]) ct.1 (m44 r) fun y _ => m45 _
  · rw [e13, eN]
    exact hTa
  · rw [e13] at hj
    rcases ins_src (G := G) (r := r) (a := a) (q := s.Q w) hi hc hw27 hj with ⟨z1, z2, -⟩ | ⟨y, z1, z2, z3, -⟩
    · exact Or.inl z2
    · exact Or.inr ⟨y, z1, z3⟩
  · rw [eN] at hj
    have hj27 : j < 2700 := by omega
    by_cases z : j = i
    · subst z
      refine Or.inl ⟨?_, hRW, fun z => ?_⟩
      · rw [insG_4 hj27, if_neg (by omega), if_pos rfl]
      · rw [v5] at z
        exact absurd z dk2
    · have hx : (if i < j then j - 1 else j) < n ∧ (if i < j then j - 1 else j) < G 13 r := by
        split <;> omega
      refine Or.inr ⟨if i < j then j - 1 else j, by rw [← hn]; exact hx.1, nota _ hx.2 (by omega), ?_, fun g hg => oI g hg j z (by omega), fun g hg => oJ g hg j z (by omega)⟩
      rw [insG_4 hj27]
      by_cases z2 : i < j
      · rw [if_neg (by omega), if_neg z, if_pos (by omega), if_pos z2]
      · rw [if_pos (by omega), if_neg z2]
end In
