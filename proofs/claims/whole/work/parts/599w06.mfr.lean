/-! What the model's functions leave as it was, by program. -/
def wM_oracle_b288 : List Nat := []
theorem fM_oracle_b288 {W : List Nat} {t0 : moS} {t : moS} {p1 : Int32} {a3 : Int32} {a4 : Int64} {a6 : Int64} {a8 : Int32} {a9 : Int32} {a10 : Int32} {a11 : Int64} {a13 : Int32} (hW : sbs wM_oracle_b288 W) (h : mfr W t0 t) : aw (M_oracle_b288 t p1 a3 a4 a6 a8 a9 a10 a11 a13) (Sum.elim (fun z => (fun z => (mfr W t0) z.2) z.2) (Sum.elim (fun z => (fun z => (mfr W t0) z.2) z.2) (Sum.elim (fun z => (mfr W t0) z.2) (fun z => (mfr W t0) z.2)))) := by
  unfold M_oracle_b288
  exact (fM_oracle_b290 (hW.of (by decide)) (by assumption))
def wM_oracle_b355 : List Nat := []
theorem fM_oracle_b355 {W : List Nat} {t0 : moS} {t : moS} {p1 : Int32} {a3 : Int32} {a4 : Int64} {a6 : Int64} {a8 : Int32} {a9 : Int32} {a10 : Int32} (hW : sbs wM_oracle_b355 W) (h : mfr W t0 t) : aw (M_oracle_b355 t p1 a3 a4 a6 a8 a9 a10) (Sum.elim (fun z => (fun z => (mfr W t0) z.2) z.2) (Sum.elim (fun z => (mfr W t0) z.2) (fun z => (mfr W t0) z.2))) := by
  unfold M_oracle_b355
  exact (aw_some (by first | assumption | trivial | exact True.intro))
def wM_oracle_b354 : List Nat := [161]
theorem fM_oracle_b354 {W : List Nat} {t0 : moS} {t : moS} {p1 : Int32} {a3 : Int32} {a4 : Int64} {a6 : Int64} {a8 : Int32} {a9 : Int32} {a10 : Int32} {u1 : Int32} {u2 : Int64} (hW : sbs wM_oracle_b354 W) (h : mfr W t0 t) : aw (M_oracle_b354 t p1 a3 a4 a6 a8 a9 a10 u1 u2) (Sum.elim (fun z => (fun z => (mfr W t0) z.2) z.2) (Sum.elim (fun z => (mfr W t0) z.2) (fun z => (mfr W t0) z.2))) := by
  unfold M_oracle_b354
  exact (aw_bind (aw_wrJ (hW.m (by decide)) (by assumption)) (fun _ h => (fM_oracle_b355 (hW.of (by decide)) (by assumption))))
def wM_oracle_b321 : List Nat := [161]
theorem fM_oracle_b321 {W : List Nat} {t0 : moS} {t : moS} {p1 : Int32} {a3 : Int32} {a4 : Int64} {a6 : Int64} {a8 : Int32} {a10 : Int32} {a11 : Int64} {u0 : Int32} (hW : sbs wM_oracle_b321 W) (h : mfr W t0 t) : aw (M_oracle_b321 t p1 a3 a4 a6 a8 a10 a11 u0) (Sum.elim (fun z => (fun z => (mfr W t0) z.2) z.2) (Sum.elim (fun z => (mfr W t0) z.2) (fun z => (mfr W t0) z.2))) := by
  unfold M_oracle_b321
  exact (aw_bind aw_t (fun _ h => (aw_if (fM_oracle_b354 (hW.of (by decide)) (by assumption)) (aw_bind aw_t (fun _ h => (fM_oracle_b354 (hW.of (by decide)) (by assumption)))))))
def wM_oracle_b316 : List Nat := [161]
theorem fM_oracle_b316 {W : List Nat} {t0 : moS} {t : moS} {p1 : Int32} {a3 : Int32} {a4 : Int64} {a6 : Int64} {a8 : Int32} {a10 : Int32} {a11 : Int64} (hW : sbs wM_oracle_b316 W) (h : mfr W t0 t) : aw (M_oracle_b316 t p1 a3 a4 a6 a8 a10 a11) (Sum.elim (fun z => (fun z => (mfr W t0) z.2) z.2) (Sum.elim (fun z => (mfr W t0) z.2) (fun z => (mfr W t0) z.2))) := by
  unfold M_oracle_b316
  exact (fM_oracle_b321 (hW.of (by decide)) (by assumption))
def wM_oracle_s202 : List Nat := [161]
theorem fM_oracle_s202 {W : List Nat} {t0 : moS} {t : moS} {p1 : Int32} {a3 : Int32} {a4 : Int64} {a6 : Int64} {a8 : Int32} {a9 : Int32} {a10 : Int32} {a11 : Int64} {a13 : Int32} (hW : sbs wM_oracle_s202 W) (h : mfr W t0 t) : aw (M_oracle_s202 t p1 a3 a4 a6 a8 a9 a10 a11 a13) (Sum.elim (fun z => (fun z => (mfr W t0) z.2) z.2) (Sum.elim (fun z => (fun z => (mfr W t0) z.2) z.2) (Sum.elim (fun z => (mfr W t0) z.2) (fun z => (mfr W t0) z.2)))) := by
  unfold M_oracle_s202
  exact (aw_bind aw_t (fun _ h => (aw_if (aw_bind aw_t (fun _ h => (aw_bind aw_t (fun _ h => (aw_bind aw_t (fun _ h => (aw_bind aw_t (fun _ h => (aw_if (fM_oracle_b288 (hW.of (by decide)) (by assumption)) (aw_bind aw_t (fun _ h => (aw_bind aw_t (fun _ h => (aw_if (fM_oracle_b288 (hW.of (by decide)) (by assumption)) (aw_if (fM_oracle_b290 (hW.of (by decide)) (by assumption)) (fM_oracle_b288 (hW.of (by decide)) (by assumption))))))))))))))))) (aw_xo (aw_if (aw_bind aw_t (fun _ h => (aw_if (fM_oracle_b316 (hW.of (by decide)) (by assumption)) (fM_oracle_b321 (hW.of (by decide)) (by assumption))))) (fM_oracle_b316 (hW.of (by decide)) (by assumption)))))))
def wM_oracle_b202 : List Nat := [161]
theorem fM_oracle_b202 {W : List Nat} {t0 : moS} {t : moS} {p1 : Int32} {a3 : Int32} {a4 : Int64} {a6 : Int64} {a8 : Int32} {a9 : Int32} {a10 : Int32} {a11 : Int64} {a13 : Int32} (hW : sbs wM_oracle_b202 W) (h : mfr W t0 t) : aw (M_oracle_b202 t p1 a3 a4 a6 a8 a9 a10 a11 a13) (Sum.elim (fun z => (fun z => (mfr W t0) z.2) z.2) (Sum.elim (fun z => (mfr W t0) z.2) (fun z => (mfr W t0) z.2))) := by
  unfold M_oracle_b202
  refine aw_lp (I := (fun z => (fun z => (mfr W t0) z.2) z.2)) ?_ ?_
  · exact h
  · intro y hy
    exact (fM_oracle_s202 (hW.of (by decide)) hy)
def wM_oracle_s153 : List Nat := [153, 154, 155, 156, 161]
theorem fM_oracle_s153 {W : List Nat} {t0 : moS} {t : moS} {p1 : Int32} {a3 : Int32} {a4 : Int64} {a6 : Int64} {a8 : Int32} {a9 : Int32} {a10 : Int32} (hW : sbs wM_oracle_s153 W) (h : mfr W t0 t) : aw (M_oracle_s153 t p1 a3 a4 a6 a8 a9 a10) (Sum.elim (fun z => (fun z => (mfr W t0) z.2) z.2) (Sum.elim (fun z => (mfr W t0) z.2) (fun z => (mfr W t0) z.2))) := by
  unfold M_oracle_s153
  exact (aw_if (aw_bind aw_t (fun _ h => (aw_if (fM_oracle_b355 (hW.of (by decide)) (by assumption)) (aw_bn2 (fM_isDue (hW.of (by decide)) (by assumption)) (fun _ _ h => (aw_if (fM_oracle_b202 (hW.of (by decide)) (by assumption)) (fM_oracle_b355 (hW.of (by decide)) (by assumption)))))))) (aw_xo (aw_some (by first | assumption | trivial | exact True.intro))))
def wM_oracle_b153 : List Nat := [153, 154, 155, 156, 161]
theorem fM_oracle_b153 {W : List Nat} {t0 : moS} {t : moS} {p1 : Int32} {a3 : Int32} {a4 : Int64} {a6 : Int64} {a8 : Int32} {a9 : Int32} {a10 : Int32} (hW : sbs wM_oracle_b153 W) (h : mfr W t0 t) : aw (M_oracle_b153 t p1 a3 a4 a6 a8 a9 a10) (Sum.elim (fun z => (mfr W t0) z.2) (fun z => (mfr W t0) z.2)) := by
  unfold M_oracle_b153
  refine aw_lp (I := (fun z => (fun z => (mfr W t0) z.2) z.2)) ?_ ?_
  · exact h
  · intro y hy
    exact (fM_oracle_s153 (hW.of (by decide)) hy)
def wM_oracle_s142 : List Nat := [153, 154, 155, 156, 161]
theorem fM_oracle_s142 {W : List Nat} {t0 : moS} {t : moS} {p1 : Int32} {a3 : Int32} {a4 : Int64} {a6 : Int64} {a8 : Int32} {a9 : Int32} (hW : sbs wM_oracle_s142 W) (h : mfr W t0 t) : aw (M_oracle_s142 t p1 a3 a4 a6 a8 a9) (Sum.elim (fun z => (mfr W t0) z.2) (fun z => (mfr W t0) z.2)) := by
  unfold M_oracle_s142
  exact (aw_if (aw_xo (aw_bind aw_t (fun _ h => (aw_if (aw_some (by first | assumption | trivial | exact True.intro)) (aw_bind aw_t (fun _ h => (aw_some (by first | assumption | trivial | exact True.intro)))))))) (fM_oracle_b153 (hW.of (by decide)) (by assumption)))
def wM_oracle_b142 : List Nat := [153, 154, 155, 156, 161]
theorem fM_oracle_b142 {W : List Nat} {t0 : moS} {t : moS} {p1 : Int32} {a3 : Int32} {a4 : Int64} {a6 : Int64} {a8 : Int32} {a9 : Int32} (hW : sbs wM_oracle_b142 W) (h : mfr W t0 t) : aw (M_oracle_b142 t p1 a3 a4 a6 a8 a9) (fun z => (mfr W t0) z.2) := by
  unfold M_oracle_b142
  refine aw_lp (I := (fun z => (mfr W t0) z.2)) ?_ ?_
  · exact h
  · intro y hy
    exact (fM_oracle_s142 (hW.of (by decide)) hy)
def wM_oracle_s76 : List Nat := [153, 154, 155, 156, 161]
theorem fM_oracle_s76 {W : List Nat} {t0 : moS} {t : moS} {p1 : Int32} {a3 : Int32} {a4 : Int64} {a6 : Int64} {a8 : Int32} {a9 : Int32} (hW : sbs wM_oracle_s76 W) (h : mfr W t0 t) : aw (M_oracle_s76 t p1 a3 a4 a6 a8 a9) (Sum.elim (fun z => (mfr W t0) z.2) (fun z => (mfr W t0) z.2)) := by
  unfold M_oracle_s76
  exact (aw_if (aw_bind (aw_wrJ (hW.m (by decide)) (by assumption)) (fun _ h => (aw_bind aw_t (fun _ h => (aw_if (fM_oracle_b133 (hW.of (by decide)) (by assumption)) (aw_bn2 (fM_isDue (hW.of (by decide)) (by assumption)) (fun _ _ h => (aw_if (fM_oracle_b133 (hW.of (by decide)) (by assumption)) (aw_bind (aw_wrJ (hW.m (by decide)) (by assumption)) (fun _ h => (fM_oracle_b133 (hW.of (by decide)) (by assumption)))))))))))) (aw_xo (fM_oracle_b142 (hW.of (by decide)) (by assumption))))
def wM_oracle_b76 : List Nat := [153, 154, 155, 156, 161]
theorem fM_oracle_b76 {W : List Nat} {t0 : moS} {t : moS} {p1 : Int32} {a3 : Int32} {a4 : Int64} {a6 : Int64} {a8 : Int32} {a9 : Int32} (hW : sbs wM_oracle_b76 W) (h : mfr W t0 t) : aw (M_oracle_b76 t p1 a3 a4 a6 a8 a9) (fun z => (mfr W t0) z.2) := by
  unfold M_oracle_b76
  refine aw_lp (I := (fun z => (mfr W t0) z.2)) ?_ ?_
  · exact h
  · intro y hy
    exact (fM_oracle_s76 (hW.of (by decide)) hy)
def wM_oracle : List Nat := [0, 3, 12, 13, 14, 16, 153, 154, 155, 156, 161]
theorem fM_oracle {W : List Nat} {t0 : moS} {t : moS} {p1 : Int32} (hW : sbs wM_oracle W) (h : mfr W t0 t) : aw (M_oracle t p1) (fun z => (mfr W t0) z.2) := by
  unfold M_oracle
  exact (aw_let (mfr.tr (by assumption) (mfr.ss (hW.m (by decide)))) (fun _ h => (aw_bn2 (fM_takeAddress (hW.of (by decide)) (by assumption)) (fun _ _ h => (aw_if (aw_some (by first | assumption | trivial | exact True.intro)) (aw_if (aw_some (by first | assumption | trivial | exact True.intro)) (aw_bind aw_t (fun _ h => (aw_if (aw_some (by first | assumption | trivial | exact True.intro)) (aw_bind aw_t (fun _ h => (aw_if (aw_some (by first | assumption | trivial | exact True.intro)) (fM_oracle_b76 (hW.of (by decide)) (by assumption))))))))))))))
def wM_way_b117 : List Nat := []
theorem fM_way_b117 {W : List Nat} {t0 : moS} {t : moS} {p1 : Int32} {a3 : Int32} {a4 : Int32} {a5 : Int32} (hW : sbs wM_way_b117 W) (h : mfr W t0 t) : aw (M_way_b117 t p1 a3 a4 a5) (Sum.elim (fun z => (fun z => (fun z => (mfr W t0) z.2) z.2) z.2) (fun z => (mfr W t0) z.2)) := by
  unfold M_way_b117
  exact (aw_some (by first | assumption | trivial | exact True.intro))
def wM_way_s36 : List Nat := [5, 6, 7, 8, 16]
theorem fM_way_s36 {W : List Nat} {t0 : moS} {t : moS} {p1 : Int32} {a3 : Int32} {a4 : Int32} {a5 : Int32} (hW : sbs wM_way_s36 W) (h : mfr W t0 t) : aw (M_way_s36 t p1 a3 a4 a5) (Sum.elim (fun z => (fun z => (fun z => (mfr W t0) z.2) z.2) z.2) (fun z => (mfr W t0) z.2)) := by
  unfold M_way_s36
  exact (aw_bind aw_t (fun _ h => (aw_if (aw_bind aw_t (fun _ h => (aw_if (fM_way_b117 (hW.of (by decide)) (by assumption)) (aw_bind aw_t (fun _ h => (aw_bind aw_t (fun _ h => (aw_bind aw_t (fun _ h => (aw_bind aw_t (fun _ h => (aw_if (fM_way_b117 (hW.of (by decide)) (by assumption)) (aw_bind aw_t (fun _ h => (fM_way_b117 (hW.of (by decide)) (by assumption)))))))))))))))) (aw_xo (aw_if (aw_some (by first | assumption | trivial | exact True.intro)) (aw_let (mfr.tr (by assumption) (mfr.ss (hW.m (by decide)))) (fun _ h => (aw_bind (fM_sayRoute (hW.of (by decide)) (by assumption)) (fun _ h => (aw_bn2 (fM_shown (hW.of (by decide)) (by assumption)) (fun _ _ h => (aw_some (by first | assumption | trivial | exact True.intro)))))))))))))
def wM_way_b36 : List Nat := [5, 6, 7, 8, 16]
theorem fM_way_b36 {W : List Nat} {t0 : moS} {t : moS} {p1 : Int32} {a3 : Int32} {a4 : Int32} {a5 : Int32} (hW : sbs wM_way_b36 W) (h : mfr W t0 t) : aw (M_way_b36 t p1 a3 a4 a5) (fun z => (mfr W t0) z.2) := by
  unfold M_way_b36
  refine aw_lp (I := (fun z => (fun z => (fun z => (mfr W t0) z.2) z.2) z.2)) ?_ ?_
  · exact h
  · intro y hy
    exact (fM_way_s36 (hW.of (by decide)) hy)
def wM_way : List Nat := [0, 3, 5, 6, 7, 8, 12, 13, 14, 16]
theorem fM_way {W : List Nat} {t0 : moS} {t : moS} {p1 : Int32} (hW : sbs wM_way W) (h : mfr W t0 t) : aw (M_way t p1) (fun z => (mfr W t0) z.2) := by
  unfold M_way
  exact (aw_let (mfr.tr (by assumption) (mfr.ss (hW.m (by decide)))) (fun _ h => (aw_bn2 (fM_takeAddress (hW.of (by decide)) (by assumption)) (fun _ _ h => (aw_if (aw_some (by first | assumption | trivial | exact True.intro)) (aw_if (aw_some (by first | assumption | trivial | exact True.intro)) (fM_way_b36 (hW.of (by decide)) (by assumption))))))))
def wM_seen_s26 : List Nat := [5, 6, 7, 8]
theorem fM_seen_s26 {W : List Nat} {t0 : moS} {t : moS} {p1 : Int32} {a2 : Int32} (hW : sbs wM_seen_s26 W) (h : mfr W t0 t) : aw (M_seen_s26 t p1 a2) (Sum.elim (fun z => (mfr W t0) z.2) (fun z => (mfr W t0) z.2)) := by
  unfold M_seen_s26
  exact (aw_bind aw_t (fun _ h => (aw_if (aw_bind aw_t (fun _ h => (aw_bind (fM_say (hW.of (by decide)) (by assumption)) (fun _ h => (aw_some (by first | assumption | trivial | exact True.intro)))))) (aw_xo (aw_bn2 (fM_shown (hW.of (by decide)) (by assumption)) (fun _ _ h => (aw_some (by first | assumption | trivial | exact True.intro))))))))
def wM_seen_b26 : List Nat := [5, 6, 7, 8]
theorem fM_seen_b26 {W : List Nat} {t0 : moS} {t : moS} {p1 : Int32} {a2 : Int32} (hW : sbs wM_seen_b26 W) (h : mfr W t0 t) : aw (M_seen_b26 t p1 a2) (fun z => (mfr W t0) z.2) := by
  unfold M_seen_b26
  refine aw_lp (I := (fun z => (mfr W t0) z.2)) ?_ ?_
  · exact h
  · intro y hy
    exact (fM_seen_s26 (hW.of (by decide)) hy)
def wM_seen : List Nat := [0, 5, 6, 7, 8]
theorem fM_seen {W : List Nat} {t0 : moS} {t : moS} {p1 : Int32} (hW : sbs wM_seen W) (h : mfr W t0 t) : aw (M_seen t p1) (fun z => (mfr W t0) z.2) := by
  unfold M_seen
  exact (aw_let (mfr.tr (by assumption) (mfr.ss (hW.m (by decide)))) (fun _ h => (aw_if (aw_some (by first | assumption | trivial | exact True.intro)) (aw_if (aw_let (mfr.tr (by assumption) (mfr.ss (hW.m (by decide)))) (fun _ h => (fM_seen_b26 (hW.of (by decide)) (by assumption)))) (aw_some (by first | assumption | trivial | exact True.intro))))))
def wM_textAt_b18 : List Nat := [0]
theorem fM_textAt_b18 {W : List Nat} {t0 : moS} {t : moS} {p1 : Int32} {u1 : Int32} (hW : sbs wM_textAt_b18 W) (h : mfr W t0 t) : aw (M_textAt_b18 t p1 u1) (fun z => (mfr W t0) z.2) := by
  unfold M_textAt_b18
  exact (aw_let (mfr.tr (by assumption) (mfr.ss (hW.m (by decide)))) (fun _ h => (aw_if (aw_bind aw_t (fun _ h => (aw_some (by first | assumption | trivial | exact True.intro)))) (aw_some (by first | assumption | trivial | exact True.intro)))))
def wM_textAt_b13 : List Nat := [0]
theorem fM_textAt_b13 {W : List Nat} {t0 : moS} {t : moS} {p1 : Int32} (hW : sbs wM_textAt_b13 W) (h : mfr W t0 t) : aw (M_textAt_b13 t p1) (fun z => (mfr W t0) z.2) := by
  unfold M_textAt_b13
  exact (fM_textAt_b18 (hW.of (by decide)) (by assumption))
def wM_textAt : List Nat := [0]
theorem fM_textAt {W : List Nat} {t0 : moS} {t : moS} {p1 : Int32} (hW : sbs wM_textAt W) (h : mfr W t0 t) : aw (M_textAt t p1) (fun z => (mfr W t0) z.2) := by
  unfold M_textAt
  exact (aw_if (fM_textAt_b13 (hW.of (by decide)) (by assumption)) (aw_if (fM_textAt_b18 (hW.of (by decide)) (by assumption)) (fM_textAt_b13 (hW.of (by decide)) (by assumption))))
def wM_count_b37 : List Nat := []
theorem fM_count_b37 {W : List Nat} {t0 : moS} {t : moS} (hW : sbs wM_count_b37 W) (h : mfr W t0 t) : aw (M_count_b37 t) (fun z => (mfr W t0) z.2) := by
  unfold M_count_b37
  exact (aw_some (by first | assumption | trivial | exact True.intro))
def wM_count : List Nat := [0]
theorem fM_count {W : List Nat} {t0 : moS} {t : moS} {p1 : Int32} {p2 : Int32} (hW : sbs wM_count W) (h : mfr W t0 t) : aw (M_count t p1 p2) (fun z => (mfr W t0) z.2) := by
  unfold M_count
  exact (aw_let (mfr.tr (by assumption) (mfr.ss (hW.m (by decide)))) (fun _ h => (aw_if (fM_count_b37 (hW.of (by decide)) (by assumption)) (aw_if (fM_count_b37 (hW.of (by decide)) (by assumption)) (aw_if (aw_bind aw_t (fun _ h => (aw_some (by first | assumption | trivial | exact True.intro)))) (fM_count_b37 (hW.of (by decide)) (by assumption)))))))
def wM_routes : List Nat := [0]
theorem fM_routes {W : List Nat} {t0 : moS} {t : moS} {p1 : Int32} (hW : sbs wM_routes W) (h : mfr W t0 t) : aw (M_routes t p1) (fun z => (mfr W t0) z.2) := by
  unfold M_routes
  exact (aw_let (mfr.tr (by assumption) (mfr.ss (hW.m (by decide)))) (fun _ h => (aw_if (aw_some (by first | assumption | trivial | exact True.intro)) (aw_bind aw_t (fun _ h => (aw_some (by first | assumption | trivial | exact True.intro)))))))
def wM_flying : List Nat := [0]
theorem fM_flying {W : List Nat} {t0 : moS} {t : moS} (hW : sbs wM_flying W) (h : mfr W t0 t) : aw (M_flying t) (fun z => (mfr W t0) z.2) := by
  unfold M_flying
  exact (aw_let (mfr.tr (by assumption) (mfr.ss (hW.m (by decide)))) (fun _ h => (aw_some (by first | assumption | trivial | exact True.intro))))
def wM_now : List Nat := [0]
theorem fM_now {W : List Nat} {t0 : moS} {t : moS} (hW : sbs wM_now W) (h : mfr W t0 t) : aw (M_now t) (fun z => (mfr W t0) z.2) := by
  unfold M_now
  exact (aw_let (mfr.tr (by assumption) (mfr.ss (hW.m (by decide)))) (fun _ h => (aw_some (by first | assumption | trivial | exact True.intro))))
