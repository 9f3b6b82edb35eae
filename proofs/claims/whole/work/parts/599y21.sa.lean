/-! One prefix is settled: the model. -/
noncomputable def SA (t : moS) (r : Nat) (f : Int32) (h l : Int64) (n : Int32) : Option moS := Option.bind (M_find t (nI r) f h l n) fun k => if k = -1 then M_come t (nI r) f h l n else bn2 (M_isDue t (nI r) f h l n) fun d t1 => if d = 0 then Option.bind (rdI t1 110 k) (fun x8 => if x8 = 2 then some t1 else M_forsake t1 (nI r) k) else M_become t1 (nI r) k
theorem bn2_s {α β γ : Type} {a : α} {b : γ} {f : α → γ → Option β} : bn2 (some (a, b)) f = f a b := rfl
section Sa
variable {G H : Nat → Nat → Nat} {sa : Nat → Nat} {x r j i : Nat} {s : cS} {t td t2 : moS} {f n dk dm di dt : Int32} {h l : Int64}
abbrev Wdu : List Nat := [153, 154, 155, 156]
theorem nI_ne {q : Nat} (h : q < 16200) : nI q ≠ -1 := fun z => by
  have h1 : ¬ nI q < 0 := nI_nlt (b := 0) (by omega) (by omega)
  rw [z] at h1
  exact h1 (by decide)
theorem rr_sc (hR : RR G H sa x s t) (hM : MV t) (m : mfr Wdu t td) : RR G H sa x s td ∧ MV td := ⟨rr_fr hR hM hR.q.1.1 (fr.rf (Rv := []) (Gp := []) (Rq := [])) m rfl rfl rfl rfl rfl rfl rfl, hM.fr m rfl (hM.1.fr m rfl)⟩
theorem mdu (m : mfr Wdu t td) : cR td = cR t ∧ (∀ r, cI td r = cI t r) ∧ (∀ r, cN td r = cN t r) ∧ ∀ k, kyR td k = kyR t k := by
  refine ⟨by unfold cR; rw [m.S 37 (by decide)], fun r => by unfold cI; rw [m.I 70 (by decide)], fun r => by unfold cN; rw [m.I 105 (by decide)], fun k => ?_⟩
  unfold kyR
  rw [m.I 106 (by decide), m.J 107 (by decide), m.J 108 (by decide), m.I 109 (by decide)]
theorem rwT.m (m : mfr Wdu t td) : rwT r t td := by
  refine ⟨m.wk (by decide), fun j _ => by rw [m.I 44 (by decide)], fun j _ => by rw [m.I 45 (by decide)], fun j _ => by rw [m.I 105 (by decide)], fun k hk j _ => ?_, fun k hk j _ => ?_⟩
  · rw [m.I k (by revert hk; revert k; decide)]
  · rw [m.J k (by revert hk; revert k; decide)]
theorem dueOk.m (hd : dueOk t r dk dm di dt) (m : mfr Wdu t td) : dueOk td r dk dm di dt := by
  unfold dueOk at hd ⊢
  rw [(mdu m).2.1]
  exact hd
/-- found, and due -/
theorem sa_own (hM : MV t) (hr : r < cR t) (hj : j < cN t r) (hF : M_find t (nI r) f h l n = some (nI (2700 * r + j))) (hD : M_isDue t (nI r) f h l n = some (1, td)) (m : mfr Wdu t td) (e1 : td.S 153 = dk) (e2 : td.S 154 = dm) (e3 : td.S 155 = di) (e4 : td.S 156 = dt) : (beD td (2700 * r + j) dk dm di dt → SA t r f h l n = some (beM td (2700 * r + j) dk dm di dt)) ∧ (¬ beD td (2700 * r + j) dk dm di dt → SA t r f h l n = some (mkM (beM td (2700 * r + j) dk dm di dt) r (2700 * r + j))) := by
  have h6 := hM.nR
  have h8 := (hM.c5 hr).2
  have hM' : MV td := hM.fr m rfl (hM.1.fr m rfl)
  have key : SA t r f h l n = M_become td (nI r) (nI (2700 * r + j)) := by
    unfold SA
    rw [hF]
    simp only [Option.bind_some]
    rw [if_neg (nI_ne (by omega)), hD, bn2_s, if_neg (by decide)]
  have be := beM_e (t := td) (r := r) (k := 2700 * r + j) hM'.row (hM'.n.n 45 66) (hM'.n.n 44 6) (by omega) (by omega)
  rw [e1, e2, e3, e4] at be
  rw [key]
  exact be
/-- found, and not due -/
theorem sa_lap (hM : MV t) (hr : r < cR t) (hj : j < cN t r) (hF : M_find t (nI r) f h l n = some (nI (2700 * r + j))) (hD : M_isDue t (nI r) f h l n = some (0, td)) (m : mfr Wdu t td) : (td.I 110 (2700 * r + j) = 2 → SA t r f h l n = some td) ∧ (td.I 110 (2700 * r + j) ≠ 2 → SA t r f h l n = some (mkM (moSI (moSI (foM td (2700 * r + j)) 111 (2700 * r + j) 16) 122 (2700 * r + j) (td.S 1 + td.I 42 r)) r (2700 * r + j))) := by
  have h6 := hM.nR
  have h8 := (hM.c5 hr).2
  have hM' : MV td := hM.fr m rfl (hM.1.fr m rfl)
  have hr' : r < cR td := by rw [(mdu m).1]; exact hr
  have hj' : j < cN td r := by rw [(mdu m).2.2.1]; exact hj
  have key : SA t r f h l n = if td.I 110 (2700 * r + j) = 2 then some td else M_forsake td (nI r) (nI (2700 * r + j)) := by
    unfold SA
    rw [hF]
    simp only [Option.bind_some]
    rw [if_neg (nI_ne (by omega)), hD, bn2_s, if_pos rfl, rdI_n (n := 16200) (hM'.row 110 (by decide)) (by omega) (by decide)]
    rfl
  rw [key]
  refine ⟨fun z => by rw [if_pos z], fun z => ?_⟩
  have h16 : td.I 111 (2700 * r + j) ≠ 16 := fun y => by
    obtain ⟨q, q1, q2, q3⟩ := ((hM'.r hr').w hj').2.2.2.1 z
    rw [y] at q1
    have := (nI_eq (a := 16) (b := q) (by omega) (by omega)).mp q1
    omega
  rw [if_neg z, foM_e hM'.row (hM'.n.n 45 66) (hM'.n.n 44 6) (hM'.n.n 42 6) (by omega) (by omega) h16]
  have e42 : (foM td (2700 * r + j)).I 42 = td.I 42 := by
    unfold foM
    rw [moSI_n (by decide), moSI_n (by decide), moSI_n (by decide), moSI_n (by decide)]
  unfold dieM
  rw [e42]
  rfl
/-- not found, and not due -/
theorem sa_no (hF : M_find t (nI r) f h l n = some (-1)) (hD : M_isDue t (nI r) f h l n = some (0, td)) : SA t r f h l n = some td := by
  unfold SA
  rw [hF]
  simp only [Option.bind_some]
  unfold M_come
  rw [hF]
  simp only [Option.bind_some]
  rw [if_pos trivial, if_pos trivial, hD]
  rfl
/-- not found, and due -/
theorem sa_come (hM : MV t) (hr : r < cR t) (hF : M_find t (nI r) f h l n = some (-1)) (hD : M_isDue t (nI r) f h l n = some (1, td)) (m : mfr Wdu t td) (e1 : td.S 153 = dk) (e2 : td.S 154 = dm) (e3 : td.S 155 = di) (e4 : td.S 156 = dt) (hi : 2700 * r + i < 16200) (hI : M_insert td (nI r) f h l n = some (nI (2700 * r + i), t2)) (m2 : mfr (105 :: fRA) td t2) : SA t r f h l n = some (mkM (setM t2 (2700 * r + i) dk dm di dt) r (2700 * r + i)) := by
  have h6 := hM.nR
  have hM' : MV td := hM.fr m rfl (hM.1.fr m rfl)
  have N : ∀ k, k ∉ mG → t2.N k = td.N k := fun k hk => m2.2 k (Or.inr hk)
  have nR : ∀ k, k ∈ fRA → t2.N k = 16200 := fun k hk => by rw [N k (by revert hk; revert k; decide +kernel)]; exact hM'.row k hk
  have S : ∀ k, k ∈ Wdu → t2.S k = td.S k := fun k hk => m2.S k (by revert hk; revert k; decide)
  unfold SA
  rw [hF]
  simp only [Option.bind_some]
  unfold M_come
  rw [hF]
  simp only [Option.bind_some]
  rw [if_pos trivial, if_pos trivial, hD, bn2_s, if_neg (by decide), hI, bn2_s]
  refine (sw_I (n := 16200) (by exact nR 110 (by decide)) hi (by decide)).trans ?_
  refine (sw_I (n := 16200) (by exact nR 111 (by decide)) hi (by decide)).trans ?_
  refine (sw_I (n := 16200) (by exact nR 113 (by decide)) hi (by decide)).trans ?_
  refine (sw_I (n := 16200) (by exact nR 112 (by decide)) hi (by decide)).trans ?_
  show Option.bind (M_markChanged (setM t2 (2700 * r + i) (t2.S 153) (t2.S 154) (t2.S 155) (t2.S 156)) (nI r) (nI (2700 * r + i))) (fun s10 => some s10) = _
  rw [S 153 (by decide), S 154 (by decide), S 155 (by decide), S 156 (by decide), e1, e2, e3, e4, mkM_e (t := setM t2 (2700 * r + i) dk dm di dt) (nR 119 (by decide)) ((N 45 (by decide +kernel)).trans (hM'.n.n 45 66)) ((N 44 (by decide +kernel)).trans (hM'.n.n 44 6)) (by omega) hi]
  rfl
end Sa
