/-! One prefix is settled: what is due is there already, or comes, or lapses. -/
section S2
variable {G H : Nat → Nat → Nat} {sa : Nat → Nat} {x r j p kc ks : Nat} {s : cS} {t td : moS} {f n dk dm di dt : Int32} {h l : Int64} {a2 a3 : Option Nat}
theorem dueC.fr {s' : cS} {port : Option Nat} (hd : dueC s a2 a3 dk dm dt port) (v8 : ∀ q, (s.K q).1 = 8 → s'.K q = s.K q ∧ ∀ g, s'.I g q = s.I g q) (v24 : ∀ q, (s.K q).1 = 24 → s'.K q = s.K q ∧ ∀ g, s'.I g q = s.I g q) : dueC s' a2 a3 dk dm dt port := by
  rcases hd with ⟨q, e1, e2, e3, e4, e5⟩ | ⟨e0, b, e1, e2, e3, e4, e5, e6⟩
  · exact Or.inl ⟨q, e1, by rw [(v8 q e2).1]; exact e2, e3, by rw [(v8 q e2).2]; exact e4, e5⟩
  · exact Or.inr ⟨e0, b, e1, by rw [(v24 b e2).1]; exact e2, e3, by rw [(v24 b e2).2]; exact e4, by rw [(v24 b e2).2]; exact e5, e6⟩
/-- the route is there -/
theorem c_own {Q : cS → Nat → Nat → Prop} (hR : RR G H sa x s t) (hM : MV t) (hr : r < cR t) (hj : j < cN t r) (hF : M_find t (nI r) f h l n = some (nI (2700 * r + j))) (hD : M_isDue t (nI r) f h l n = some (1, td)) (m : mfr Wdu t td) (e1 : td.S 153 = dk) (e2 : td.S 154 = dm) (e3 : td.S 155 = di) (e4 : td.S 156 = dt) (hdo : dueOk t r dk dm di dt) (hd : dueC s a2 a3 dk dm dt (ifp G di)) (kk : SetK G H sa x s t r (SA t r f h l n) kc ks Q) : C_Rr_settle_b74 sa (G 1 r) a2 a3 (some (G 4 (2700 * r + j))) s kc ks Q := by
  have hq := hR.q.1
  have hT := hq.ty
  have k26 := (hq.rt hr).1.1
  obtain ⟨b0, b1, b2⟩ := hq.tb hr
  obtain ⟨c1, c2, c3, w, cap, d1, d2, d3, d4, d5, d6, d7, d8⟩ := id b0
  have ka := (d6 j (by omega)).2
  have ka : (s.K (G 4 (2700 * r + j))).1 = 23 := ka
  have h180 := hT.p k26 180 30
  have e180 : s.P 180 (G 1 r) = some x := by rw [h180.1, (hq.rt hr).1.2.2]
  have h160 := hT.p ka 160 9
  have h161 := hT.p ka 161 10
  have h196 := hT.r k26 196 104 11
  obtain ⟨hRd, hMd⟩ := rr_sc hR hM m
  obtain ⟨n1, n2, n3, n4⟩ := mdu m
  have hr' : r < cR td := by rw [n1]; exact hr
  have hj' : j < cN td r := by rw [n3]; exact hj
  have hdo' := hdo.m m
  obtain ⟨sa1, sa2⟩ := sa_own hM hr hj hF hD m e1 e2 e3 e4
  have hbb := bo_be hRd hMd hr' hj' hdo'
  obtain ⟨o1, o2⟩ := rr_own (a := G 4 (2700 * r + j)) (k := 2700 * r + j) hRd hMd hr' hj' rfl rfl hdo'
  have h9 := hM.nRo hr
  have ct : rwT r t (beM td (2700 * r + j) dk dm di dt) := (rwT.m m).tr (rwT.be (by omega))
  refine w_b74 hd (okr k26 9) (okr ka 8) hq.ox h196.1 h196.2 e180 h160.1 h161.1 (okr h160.2 5) (okr h161.2 5) (fun z => ?_) fun z => ?_
  · exact kk.o hq hr ka d1 (sa1 (hbb.mp z)) o1 o2 rwC.bo ct
  · have hjb : j < cN (beM td (2700 * r + j) dk dm di dt) r := by
      unfold cN
      rw [show (beM td (2700 * r + j) dk dm di dt).I 105 r = td.I 105 r by rw [beM_I]; split <;> rfl]
      exact hj'
    have hrb : r < cR (beM td (2700 * r + j) dk dm di dt) := by
      unfold cR
      rw [ct.1.S 37 (by decide)]
      exact hr
    obtain ⟨q1, q2⟩ := rr_mk (a := G 4 (2700 * r + j)) (k := 2700 * r + j) o1 o2 hrb hjb rfl rfl
    exact kk.o hq hr ka d1 (sa2 (fun y => z (hbb.mpr y))) q1 q2 (rwC.bo.tr rwC.mk) (ct.tr (rwT.mk (by omega)))
/-- nothing is due -/
theorem c_lap {Q : cS → Nat → Nat → Prop} (hR : RR G H sa x s t) (hM : MV t) (hr : r < cR t) (hj : j < cN t r) (hF : M_find t (nI r) f h l n = some (nI (2700 * r + j))) (hD : M_isDue t (nI r) f h l n = some (0, td)) (m : mfr Wdu t td) (kk : SetK G H sa x s t r (SA t r f h l n) kc ks Q) : C_Rr_lapse sa (G 1 r) (some (G 4 (2700 * r + j))) s kc ks Q := by
  have hq := hR.q.1
  have hT := hq.ty
  have k26 := (hq.rt hr).1.1
  obtain ⟨b0, b1, b2⟩ := hq.tb hr
  obtain ⟨c1, c2, c3, w, cap, d1, d2, d3, d4, d5, d6, d7, d8⟩ := id b0
  have ka := (d6 j (by omega)).2
  have ka : (s.K (G 4 (2700 * r + j))).1 = 23 := ka
  have h180 := hT.p k26 180 30
  have e180 : s.P 180 (G 1 r) = some x := by rw [h180.1, (hq.rt hr).1.2.2]
  have h196 := hT.r k26 196 104 11
  have h195 := hT.r k26 195 123 3
  obtain ⟨hRd, hMd⟩ := rr_sc hR hM m
  obtain ⟨n1, n2, n3, n4⟩ := mdu m
  have hr' : r < cR td := by rw [n1]; exact hr
  have hj' : j < cN td r := by rw [n3]; exact hj
  obtain ⟨sa1, sa2⟩ := sa_lap hM hr hj hF hD m
  have h9 := hM.nRo hr
  have hRW := (hRd.q.1.tb hr').2.1 j hj'
  have e163 : s.I 163 (G 4 (2700 * r + j)) = td.I 110 (2700 * r + j) := hRW.2.1.1
  have e164 : s.I 164 (G 4 (2700 * r + j)) = td.I 111 (2700 * r + j) := hRW.2.1.2.1
  obtain ⟨o1, o2⟩ := rr_lap (a := G 4 (2700 * r + j)) (k := 2700 * r + j) hRd hMd hr' hj' rfl rfl
  have hb : 2700 * r ≤ 2700 * r + j ∧ 2700 * r + j < 2700 * r + 2700 := by omega
  refine w_lapse (okr k26 9) (okr ka 8) hq.ox h196.1 h196.2 e180 h195.1 h195.2 (ne_ro k26 ka) (fun z => ?_) (fun z => ?_) fun z => ?_
  · rw [e163] at z
    obtain ⟨q, q1, q2, q3⟩ := ((hMd.r hr').w hj').2.2.2.1 z
    rw [e164, q1]
    exact nI_lt (b := 16) (by omega) (by omega)
  · rw [e163] at z
    exact kk.n (sa1 z) hRd hMd (rwT.m m)
  · rw [e163] at z
    have ct : rwT r t (moSI (moSI (foM td (2700 * r + j)) 111 (2700 * r + j) 16) 122 (2700 * r + j) (td.S 1 + td.I 42 r)) := (((rwT.m m).tr (rwT.fo hb)).tr (rwT.i (by decide) hb)).tr (rwT.i (by decide) hb)
    have hn5 : (moSI (moSI (foM td (2700 * r + j)) 111 (2700 * r + j) 16) 122 (2700 * r + j) (td.S 1 + td.I 42 r)).I 105 = td.I 105 := by
      unfold foM
      rw [moSI_n (by decide), moSI_n (by decide), moSI_n (by decide), moSI_n (by decide), moSI_n (by decide), moSI_n (by decide)]
    have hjb : j < cN (moSI (moSI (foM td (2700 * r + j)) 111 (2700 * r + j) 16) 122 (2700 * r + j) (td.S 1 + td.I 42 r)) r := by
      unfold cN
      rw [hn5]
      exact hj'
    have hrb : r < cR (moSI (moSI (foM td (2700 * r + j)) 111 (2700 * r + j) 16) 122 (2700 * r + j) (td.S 1 + td.I 42 r)) := by
      unfold cR
      rw [ct.1.S 37 (by decide)]
      exact hr
    obtain ⟨q1, q2⟩ := rr_mk (a := G 4 (2700 * r + j)) (k := 2700 * r + j) o1 o2 hrb hjb rfl rfl
    have ed : dieS (lpS s (G 4 (2700 * r + j))) (G 1 r) (H 195 (G 1 r)) (H 196 (G 1 r)) x (G 4 (2700 * r + j)) = mkS (dlS (cSI (lpS s (G 4 (2700 * r + j))) 164 (G 4 (2700 * r + j)) 16) (G 1 r) (G 4 (2700 * r + j)) (s.I 225 x + s.E (H 195 (G 1 r)) 2)) (G 1 r) (H 196 (G 1 r)) x (G 4 (2700 * r + j)) := by
      unfold dieS
      rw [show (lpS s (G 4 (2700 * r + j))).I 225 x = s.I 225 x from by
        unfold lpS
        rw [evIP, cSI_g (by decide), cSI_g (by decide)]]
      rfl
    rw [ed]
    exact kk.o hq hr ka d1 (sa2 z) q1 q2 (((rwC.lp.tr (rwC.i (Or.inr (Or.inl rfl)))).tr (rwC.dl rfl)).tr rwC.mk) (ct.tr (rwT.mk hb))
end S2
