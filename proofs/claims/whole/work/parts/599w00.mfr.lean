/-! What the model's functions leave as it was, by program. -/
def wM_lay_s3 : List Nat := [2, 3]
theorem fM_lay_s3 {W : List Nat} {t0 : moS} {t : moS} {p1 : Int32} {a2 : Int32} (hW : sbs wM_lay_s3 W) (h : mfr W t0 t) : aw (M_lay_s3 t p1 a2) (Sum.elim (fun z => (mfr W t0) z.2) (mfr W t0)) := by
  unfold M_lay_s3
  exact (aw_if (aw_xo (aw_some (by first | assumption | trivial | exact True.intro))) (aw_bind (aw_wrI (hW.m (by decide)) (by assumption)) (fun _ h => (aw_let (mfr.tr (by assumption) (mfr.ss (hW.m (by decide)))) (fun _ h => (aw_some (by first | assumption | trivial | exact True.intro)))))))
def wM_lay_b3 : List Nat := [2, 3]
theorem fM_lay_b3 {W : List Nat} {t0 : moS} {t : moS} {p1 : Int32} {a2 : Int32} (hW : sbs wM_lay_b3 W) (h : mfr W t0 t) : aw (M_lay_b3 t p1 a2) (mfr W t0) := by
  unfold M_lay_b3
  refine aw_lp (I := (fun z => (mfr W t0) z.2)) ?_ ?_
  · exact h
  · intro y hy
    exact (fM_lay_s3 (hW.of (by decide)) hy)
def wM_lay : List Nat := [2, 3]
theorem fM_lay {W : List Nat} {t0 : moS} {t : moS} {p1 : Int32} (hW : sbs wM_lay W) (h : mfr W t0 t) : aw (M_lay t p1) (mfr W t0) := by
  unfold M_lay
  exact (fM_lay_b3 (hW.of (by decide)) (by assumption))
def wM_feed : List Nat := [0, 2, 3]
theorem fM_feed {W : List Nat} {t0 : moS} {t : moS} {p1 : Int32} {p2 : Int32} {p3 : Int32} {p4 : Int32} {p5 : Int32} (hW : sbs wM_feed W) (h : mfr W t0 t) : aw (M_feed t p1 p2 p3 p4 p5) (fun z => (mfr W t0) z.2) := by
  unfold M_feed
  exact (aw_let (mfr.tr (by assumption) (mfr.ss (hW.m (by decide)))) (fun _ h => (aw_if (aw_some (by first | assumption | trivial | exact True.intro)) (aw_bind (fM_lay (hW.of (by decide)) (by assumption)) (fun _ h => (aw_bind (fM_lay (hW.of (by decide)) (by assumption)) (fun _ h => (aw_bind (fM_lay (hW.of (by decide)) (by assumption)) (fun _ h => (aw_bind (fM_lay (hW.of (by decide)) (by assumption)) (fun _ h => (aw_bind (fM_lay (hW.of (by decide)) (by assumption)) (fun _ h => (aw_some (by first | assumption | trivial | exact True.intro)))))))))))))))
def wM_end : List Nat := [0, 3]
theorem fM_end {W : List Nat} {t0 : moS} {t : moS} {p1 : Int32} (hW : sbs wM_end W) (h : mfr W t0 t) : aw (M_end t p1) (fun z => (mfr W t0) z.2) := by
  unfold M_end
  exact (aw_let (mfr.tr (by assumption) (mfr.ss (hW.m (by decide)))) (fun _ h => (aw_if (aw_some (by first | assumption | trivial | exact True.intro)) (aw_if (aw_some (by first | assumption | trivial | exact True.intro)) (aw_let (mfr.tr (by assumption) (mfr.ss (hW.m (by decide)))) (fun _ h => (aw_some (by first | assumption | trivial | exact True.intro))))))))
def wM_readFour_b83 : List Nat := []
theorem fM_readFour_b83 {W : List Nat} {t0 : moS} {t : moS} {p2 : Int32} {a3 : Int64} {a6 : Int32} {a7 : Int32} {a8 : Int32} {u0 : Int32} {u1 : Int32} (hW : sbs wM_readFour_b83 W) (h : mfr W t0 t) : aw (M_readFour_b83 t p2 a3 a6 a7 a8 u0 u1) (Sum.elim (fun z => (fun z => (fun z => (mfr W t0) z.2) z.2) z.2) (fun z => (mfr W t0) z.2)) := by
  unfold M_readFour_b83
  exact (aw_if (aw_xo (aw_some (by first | assumption | trivial | exact True.intro))) (aw_some (by first | assumption | trivial | exact True.intro)))
def wM_readFour_b72 : List Nat := []
theorem fM_readFour_b72 {W : List Nat} {t0 : moS} {t : moS} {p2 : Int32} {a3 : Int64} {a6 : Int32} {a7 : Int32} {a8 : Int32} {u0 : Int32} (hW : sbs wM_readFour_b72 W) (h : mfr W t0 t) : aw (M_readFour_b72 t p2 a3 a6 a7 a8 u0) (Sum.elim (fun z => (fun z => (fun z => (mfr W t0) z.2) z.2) z.2) (fun z => (mfr W t0) z.2)) := by
  unfold M_readFour_b72
  exact (aw_if (fM_readFour_b83 (hW.of (by decide)) (by assumption)) (fM_readFour_b83 (hW.of (by decide)) (by assumption)))
def wM_readFour_b42 : List Nat := []
theorem fM_readFour_b42 {W : List Nat} {t0 : moS} {t : moS} {p2 : Int32} {a3 : Int64} {a5 : Int32} {a6 : Int32} {a7 : Int32} (hW : sbs wM_readFour_b42 W) (h : mfr W t0 t) : aw (M_readFour_b42 t p2 a3 a5 a6 a7) (Sum.elim (fun z => (fun z => (fun z => (mfr W t0) z.2) z.2) z.2) (fun z => (mfr W t0) z.2)) := by
  unfold M_readFour_b42
  exact (aw_bind aw_t (fun _ h => (aw_if (aw_xo (aw_some (by first | assumption | trivial | exact True.intro))) (aw_if (fM_readFour_b72 (hW.of (by decide)) (by assumption)) (fM_readFour_b72 (hW.of (by decide)) (by assumption))))))
def wM_readFour_s18 : List Nat := []
theorem fM_readFour_s18 {W : List Nat} {t0 : moS} {t : moS} {p2 : Int32} {a3 : Int64} {a5 : Int32} {a6 : Int32} {a7 : Int32} (hW : sbs wM_readFour_s18 W) (h : mfr W t0 t) : aw (M_readFour_s18 t p2 a3 a5 a6 a7) (Sum.elim (fun z => (mfr W t0) z.2) (Sum.elim (fun z => (fun z => (fun z => (mfr W t0) z.2) z.2) z.2) (fun z => (mfr W t0) z.2))) := by
  unfold M_readFour_s18
  exact (aw_if (aw_bind aw_t (fun _ h => (aw_if (aw_xo (fM_readFour_b42 (hW.of (by decide)) (by assumption))) (aw_some (by first | assumption | trivial | exact True.intro))))) (aw_xo (fM_readFour_b42 (hW.of (by decide)) (by assumption))))
def wM_readFour_b18 : List Nat := []
theorem fM_readFour_b18 {W : List Nat} {t0 : moS} {t : moS} {p2 : Int32} {a3 : Int64} {a5 : Int32} {a6 : Int32} {a7 : Int32} (hW : sbs wM_readFour_b18 W) (h : mfr W t0 t) : aw (M_readFour_b18 t p2 a3 a5 a6 a7) (Sum.elim (fun z => (fun z => (fun z => (mfr W t0) z.2) z.2) z.2) (fun z => (mfr W t0) z.2)) := by
  unfold M_readFour_b18
  refine aw_lp (I := (fun z => (mfr W t0) z.2)) ?_ ?_
  · exact h
  · intro y hy
    exact (fM_readFour_s18 (hW.of (by decide)) hy)
def wM_readFour_s8 : List Nat := [12, 13, 14]
theorem fM_readFour_s8 {W : List Nat} {t0 : moS} {t : moS} {p2 : Int32} {a3 : Int64} {a5 : Int32} {a6 : Int32} (hW : sbs wM_readFour_s8 W) (h : mfr W t0 t) : aw (M_readFour_s8 t p2 a3 a5 a6) (Sum.elim (fun z => (fun z => (fun z => (mfr W t0) z.2) z.2) z.2) (fun z => (mfr W t0) z.2)) := by
  unfold M_readFour_s8
  exact (aw_if (fM_readFour_b18 (hW.of (by decide)) (by assumption)) (aw_xo (aw_let (mfr.tr (by assumption) (mfr.ss (hW.m (by decide)))) (fun _ h => (aw_let (mfr.tr (by assumption) (mfr.sz (hW.m (by decide)))) (fun _ h => (aw_let (mfr.tr (by assumption) (mfr.sz (hW.m (by decide)))) (fun _ h => (aw_some (by first | assumption | trivial | exact True.intro))))))))))
def wM_readFour_b8 : List Nat := [12, 13, 14]
theorem fM_readFour_b8 {W : List Nat} {t0 : moS} {t : moS} {p2 : Int32} {a3 : Int64} {a5 : Int32} {a6 : Int32} (hW : sbs wM_readFour_b8 W) (h : mfr W t0 t) : aw (M_readFour_b8 t p2 a3 a5 a6) (fun z => (mfr W t0) z.2) := by
  unfold M_readFour_b8
  refine aw_lp (I := (fun z => (fun z => (fun z => (mfr W t0) z.2) z.2) z.2)) ?_ ?_
  · exact h
  · intro y hy
    exact (fM_readFour_s8 (hW.of (by decide)) hy)
def wM_readFour : List Nat := [12, 13, 14]
theorem fM_readFour {W : List Nat} {t0 : moS} {t : moS} {p1 : Int32} {p2 : Int32} (hW : sbs wM_readFour W) (h : mfr W t0 t) : aw (M_readFour t p1 p2) (fun z => (mfr W t0) z.2) := by
  unfold M_readFour
  exact (fM_readFour_b8 (hW.of (by decide)) (by assumption))
def wM_readSix_b261 : List Nat := []
theorem fM_readSix_b261 {W : List Nat} {t0 : moS} {t : moS} {p2 : Int32} {a3 : Int32} {a4 : Int32} {a5 : Int32} {a6 : Int32} (hW : sbs wM_readSix_b261 W) (h : mfr W t0 t) : aw (M_readSix_b261 t p2 a3 a4 a5 a6) (Sum.elim (fun z => (fun z => (fun z => (fun z => (mfr W t0) z.2) z.2) z.2) z.2) (fun z => (mfr W t0) z.2)) := by
  unfold M_readSix_b261
  exact (aw_some (by first | assumption | trivial | exact True.intro))
def wM_readSix_b248 : List Nat := []
theorem fM_readSix_b248 {W : List Nat} {t0 : moS} {t : moS} {p2 : Int32} {a3 : Int32} {a4 : Int32} {a5 : Int32} {u0 : Int32} (hW : sbs wM_readSix_b248 W) (h : mfr W t0 t) : aw (M_readSix_b248 t p2 a3 a4 a5 u0) (Sum.elim (fun z => (fun z => (fun z => (fun z => (mfr W t0) z.2) z.2) z.2) z.2) (fun z => (mfr W t0) z.2)) := by
  unfold M_readSix_b248
  exact (fM_readSix_b261 (hW.of (by decide)) (by assumption))
def wM_readSix_b253 : List Nat := []
theorem fM_readSix_b253 {W : List Nat} {t0 : moS} {t : moS} {p2 : Int32} {a3 : Int32} {a4 : Int32} {a5 : Int32} {a6 : Int32} (hW : sbs wM_readSix_b253 W) (h : mfr W t0 t) : aw (M_readSix_b253 t p2 a3 a4 a5 a6) (Sum.elim (fun z => (fun z => (fun z => (fun z => (mfr W t0) z.2) z.2) z.2) z.2) (fun z => (mfr W t0) z.2)) := by
  unfold M_readSix_b253
  exact (aw_if (aw_xo (aw_some (by first | assumption | trivial | exact True.intro))) (fM_readSix_b261 (hW.of (by decide)) (by assumption)))
def wM_readSix_b178 : List Nat := []
theorem fM_readSix_b178 {W : List Nat} {t0 : moS} {t : moS} {p2 : Int32} {a3 : Int32} {a4 : Int32} {a5 : Int32} {u0 : Int32} (hW : sbs wM_readSix_b178 W) (h : mfr W t0 t) : aw (M_readSix_b178 t p2 a3 a4 a5 u0) (Sum.elim (fun z => (fun z => (fun z => (fun z => (mfr W t0) z.2) z.2) z.2) z.2) (fun z => (mfr W t0) z.2)) := by
  unfold M_readSix_b178
  exact (aw_if (aw_some (by first | assumption | trivial | exact True.intro)) (aw_bind aw_t (fun _ h => (aw_if (aw_if (aw_bind aw_t (fun _ h => (aw_if (aw_if (aw_if (fM_readSix_b248 (hW.of (by decide)) (by assumption)) (fM_readSix_b248 (hW.of (by decide)) (by assumption))) (aw_xo (aw_some (by first | assumption | trivial | exact True.intro)))) (fM_readSix_b253 (hW.of (by decide)) (by assumption))))) (fM_readSix_b253 (hW.of (by decide)) (by assumption))) (aw_xo (aw_some (by first | assumption | trivial | exact True.intro)))))))
def wM_readSix_b137 : List Nat := [16]
theorem fM_readSix_b137 {W : List Nat} {t0 : moS} {t : moS} {p2 : Int32} {a3 : Int32} {a4 : Int32} {a5 : Int32} {a7 : Int32} {a8 : Int32} (hW : sbs wM_readSix_b137 W) (h : mfr W t0 t) : aw (M_readSix_b137 t p2 a3 a4 a5 a7 a8) (Sum.elim (fun z => (fun z => (fun z => (fun z => (mfr W t0) z.2) z.2) z.2) z.2) (fun z => (mfr W t0) z.2)) := by
  unfold M_readSix_b137
  exact (aw_if (aw_xo (aw_some (by first | assumption | trivial | exact True.intro))) (aw_if (aw_xo (aw_some (by first | assumption | trivial | exact True.intro))) (aw_if (aw_xo (aw_some (by first | assumption | trivial | exact True.intro))) (aw_bind (aw_wrI (hW.m (by decide)) (by assumption)) (fun _ h => (aw_if (fM_readSix_b178 (hW.of (by decide)) (by assumption)) (fM_readSix_b178 (hW.of (by decide)) (by assumption))))))))
def wM_readSix_s84 : List Nat := [16]
theorem fM_readSix_s84 {W : List Nat} {t0 : moS} {t : moS} {p2 : Int32} {a3 : Int32} {a4 : Int32} {a5 : Int32} {a7 : Int32} {a8 : Int32} (hW : sbs wM_readSix_s84 W) (h : mfr W t0 t) : aw (M_readSix_s84 t p2 a3 a4 a5 a7 a8) (Sum.elim (fun z => (fun z => (fun z => (mfr W t0) z.2) z.2) z.2) (Sum.elim (fun z => (fun z => (fun z => (fun z => (mfr W t0) z.2) z.2) z.2) z.2) (fun z => (mfr W t0) z.2))) := by
  unfold M_readSix_s84
  exact (aw_if (aw_bind aw_t (fun _ h => (aw_if (aw_xo (fM_readSix_b137 (hW.of (by decide)) (by assumption))) (aw_if (aw_bind aw_t (fun _ h => (aw_some (by first | assumption | trivial | exact True.intro)))) (aw_xo (fM_readSix_b137 (hW.of (by decide)) (by assumption))))))) (aw_xo (fM_readSix_b137 (hW.of (by decide)) (by assumption))))
def wM_readSix_b84 : List Nat := [16]
theorem fM_readSix_b84 {W : List Nat} {t0 : moS} {t : moS} {p2 : Int32} {a3 : Int32} {a4 : Int32} {a5 : Int32} {a7 : Int32} {a8 : Int32} (hW : sbs wM_readSix_b84 W) (h : mfr W t0 t) : aw (M_readSix_b84 t p2 a3 a4 a5 a7 a8) (Sum.elim (fun z => (fun z => (fun z => (fun z => (mfr W t0) z.2) z.2) z.2) z.2) (fun z => (mfr W t0) z.2)) := by
  unfold M_readSix_b84
  refine aw_lp (I := (fun z => (fun z => (fun z => (mfr W t0) z.2) z.2) z.2)) ?_ ?_
  · exact h
  · intro y hy
    exact (fM_readSix_s84 (hW.of (by decide)) hy)
def wM_readSix_b387 : List Nat := []
theorem fM_readSix_b387 {W : List Nat} {t0 : moS} {t : moS} {a3 : Int32} {a4 : Int32} {a7 : Int64} {a9 : Int64} {a11 : Int32} (hW : sbs wM_readSix_b387 W) (h : mfr W t0 t) : aw (M_readSix_b387 t a3 a4 a7 a9 a11) (Sum.elim (fun z => (fun z => (fun z => (mfr W t0) z.2) z.2) z.2) (fun z => (mfr W t0) z.2)) := by
  unfold M_readSix_b387
  exact (aw_some (by first | assumption | trivial | exact True.intro))
def wM_readSix_b354 : List Nat := []
theorem fM_readSix_b354 {W : List Nat} {t0 : moS} {t : moS} {a3 : Int32} {a4 : Int32} {a7 : Int64} {a9 : Int64} {a11 : Int32} {u0 : Int32} (hW : sbs wM_readSix_b354 W) (h : mfr W t0 t) : aw (M_readSix_b354 t a3 a4 a7 a9 a11 u0) (Sum.elim (fun z => (fun z => (fun z => (mfr W t0) z.2) z.2) z.2) (fun z => (mfr W t0) z.2)) := by
  unfold M_readSix_b354
  exact (aw_if (fM_readSix_b387 (hW.of (by decide)) (by assumption)) (fM_readSix_b387 (hW.of (by decide)) (by assumption)))
def wM_readSix_b316 : List Nat := []
theorem fM_readSix_b316 {W : List Nat} {t0 : moS} {t : moS} {a3 : Int32} {a4 : Int32} {a7 : Int64} {a9 : Int64} {a11 : Int32} (hW : sbs wM_readSix_b316 W) (h : mfr W t0 t) : aw (M_readSix_b316 t a3 a4 a7 a9 a11) (Sum.elim (fun z => (fun z => (fun z => (mfr W t0) z.2) z.2) z.2) (fun z => (mfr W t0) z.2)) := by
  unfold M_readSix_b316
  exact (aw_bind aw_t (fun _ h => (fM_readSix_b354 (hW.of (by decide)) (by assumption))))
def wM_readSix_s296 : List Nat := [12, 13, 14]
theorem fM_readSix_s296 {W : List Nat} {t0 : moS} {t : moS} {a3 : Int32} {a4 : Int32} {a7 : Int64} {a9 : Int64} {a11 : Int32} (hW : sbs wM_readSix_s296 W) (h : mfr W t0 t) : aw (M_readSix_s296 t a3 a4 a7 a9 a11) (Sum.elim (fun z => (fun z => (fun z => (mfr W t0) z.2) z.2) z.2) (fun z => (mfr W t0) z.2)) := by
  unfold M_readSix_s296
  exact (aw_if (aw_if (fM_readSix_b316 (hW.of (by decide)) (by assumption)) (aw_if (fM_readSix_b316 (hW.of (by decide)) (by assumption)) (aw_if (fM_readSix_b354 (hW.of (by decide)) (by assumption)) (aw_bind aw_t (fun _ h => (fM_readSix_b354 (hW.of (by decide)) (by assumption))))))) (aw_xo (aw_let (mfr.tr (by assumption) (mfr.ss (hW.m (by decide)))) (fun _ h => (aw_let (mfr.tr (by assumption) (mfr.sz (hW.m (by decide)))) (fun _ h => (aw_let (mfr.tr (by assumption) (mfr.sz (hW.m (by decide)))) (fun _ h => (aw_some (by first | assumption | trivial | exact True.intro))))))))))
def wM_readSix_b296 : List Nat := [12, 13, 14]
theorem fM_readSix_b296 {W : List Nat} {t0 : moS} {t : moS} {a3 : Int32} {a4 : Int32} {a7 : Int64} {a9 : Int64} {a11 : Int32} (hW : sbs wM_readSix_b296 W) (h : mfr W t0 t) : aw (M_readSix_b296 t a3 a4 a7 a9 a11) (fun z => (mfr W t0) z.2) := by
  unfold M_readSix_b296
  refine aw_lp (I := (fun z => (fun z => (fun z => (mfr W t0) z.2) z.2) z.2)) ?_ ?_
  · exact h
  · intro y hy
    exact (fM_readSix_s296 (hW.of (by decide)) hy)
def wM_readSix_b287 : List Nat := [12, 13, 14]
theorem fM_readSix_b287 {W : List Nat} {t0 : moS} {t : moS} {a3 : Int32} {a4 : Int32} (hW : sbs wM_readSix_b287 W) (h : mfr W t0 t) : aw (M_readSix_b287 t a3 a4) (fun z => (mfr W t0) z.2) := by
  unfold M_readSix_b287
  exact (fM_readSix_b296 (hW.of (by decide)) (by assumption))
def wM_readSix_s73 : List Nat := [12, 13, 14, 16]
theorem fM_readSix_s73 {W : List Nat} {t0 : moS} {t : moS} {p2 : Int32} {a3 : Int32} {a4 : Int32} {a5 : Int32} {a6 : Int32} (hW : sbs wM_readSix_s73 W) (h : mfr W t0 t) : aw (M_readSix_s73 t p2 a3 a4 a5 a6) (Sum.elim (fun z => (fun z => (fun z => (fun z => (mfr W t0) z.2) z.2) z.2) z.2) (fun z => (mfr W t0) z.2)) := by
  unfold M_readSix_s73
  exact (aw_if (aw_xo (aw_if (aw_if (fM_readSix_b287 (hW.of (by decide)) (by assumption)) (aw_some (by first | assumption | trivial | exact True.intro))) (aw_if (aw_some (by first | assumption | trivial | exact True.intro)) (fM_readSix_b287 (hW.of (by decide)) (by assumption))))) (fM_readSix_b84 (hW.of (by decide)) (by assumption)))
def wM_readSix_b73 : List Nat := [12, 13, 14, 16]
theorem fM_readSix_b73 {W : List Nat} {t0 : moS} {t : moS} {p2 : Int32} {a3 : Int32} {a4 : Int32} {a5 : Int32} {a6 : Int32} (hW : sbs wM_readSix_b73 W) (h : mfr W t0 t) : aw (M_readSix_b73 t p2 a3 a4 a5 a6) (fun z => (mfr W t0) z.2) := by
  unfold M_readSix_b73
  refine aw_lp (I := (fun z => (fun z => (fun z => (fun z => (mfr W t0) z.2) z.2) z.2) z.2)) ?_ ?_
  · exact h
  · intro y hy
    exact (fM_readSix_s73 (hW.of (by decide)) hy)
def wM_readSix_b58 : List Nat := [12, 13, 14, 16]
theorem fM_readSix_b58 {W : List Nat} {t0 : moS} {t : moS} {p2 : Int32} {a3 : Int32} {a4 : Int32} {a5 : Int32} {u0 : Int32} (hW : sbs wM_readSix_b58 W) (h : mfr W t0 t) : aw (M_readSix_b58 t p2 a3 a4 a5 u0) (fun z => (mfr W t0) z.2) := by
  unfold M_readSix_b58
  exact (aw_if (aw_if (aw_some (by first | assumption | trivial | exact True.intro)) (fM_readSix_b73 (hW.of (by decide)) (by assumption))) (fM_readSix_b73 (hW.of (by decide)) (by assumption)))
def wM_readSix_b47 : List Nat := [12, 13, 14, 16]
theorem fM_readSix_b47 {W : List Nat} {t0 : moS} {t : moS} {p2 : Int32} {a3 : Int32} {a4 : Int32} {a5 : Int32} (hW : sbs wM_readSix_b47 W) (h : mfr W t0 t) : aw (M_readSix_b47 t p2 a3 a4 a5) (fun z => (mfr W t0) z.2) := by
  unfold M_readSix_b47
  exact (aw_if (fM_readSix_b58 (hW.of (by decide)) (by assumption)) (fM_readSix_b58 (hW.of (by decide)) (by assumption)))
def wM_readSix : List Nat := [12, 13, 14, 16]
theorem fM_readSix {W : List Nat} {t0 : moS} {t : moS} {p1 : Int32} {p2 : Int32} (hW : sbs wM_readSix W) (h : mfr W t0 t) : aw (M_readSix t p1 p2) (fun z => (mfr W t0) z.2) := by
  unfold M_readSix
  exact (aw_if (aw_bind aw_t (fun _ h => (aw_if (aw_bind aw_t (fun _ h => (aw_if (fM_readSix_b47 (hW.of (by decide)) (by assumption)) (fM_readSix_b47 (hW.of (by decide)) (by assumption))))) (fM_readSix_b47 (hW.of (by decide)) (by assumption))))) (fM_readSix_b47 (hW.of (by decide)) (by assumption)))
def wM_readAddress_b18 : List Nat := []
theorem fM_readAddress_b18 {W : List Nat} {t0 : moS} {t : moS} (hW : sbs wM_readAddress_b18 W) (h : mfr W t0 t) : aw (M_readAddress_b18 t) (fun z => (mfr W t0) z.2) := by
  unfold M_readAddress_b18
  exact (aw_some (by first | assumption | trivial | exact True.intro))
def wM_readAddress : List Nat := [12, 13, 14, 16]
theorem fM_readAddress {W : List Nat} {t0 : moS} {t : moS} {p1 : Int32} {p2 : Int32} (hW : sbs wM_readAddress W) (h : mfr W t0 t) : aw (M_readAddress t p1 p2) (fun z => (mfr W t0) z.2) := by
  unfold M_readAddress
  exact (aw_bn2 (fM_readFour (hW.of (by decide)) (by assumption)) (fun _ _ h => (aw_if (aw_bn2 (fM_readSix (hW.of (by decide)) (by assumption)) (fun _ _ h => (aw_if (aw_some (by first | assumption | trivial | exact True.intro)) (fM_readAddress_b18 (hW.of (by decide)) (by assumption))))) (fM_readAddress_b18 (hW.of (by decide)) (by assumption)))))
def wM_isAddress : List Nat := [12, 13, 14, 16]
theorem fM_isAddress {W : List Nat} {t0 : moS} {t : moS} {p1 : Int32} (hW : sbs wM_isAddress W) (h : mfr W t0 t) : aw (M_isAddress t p1) (fun z => (mfr W t0) z.2) := by
  unfold M_isAddress
  exact (aw_bind aw_t (fun _ h => (aw_bind aw_t (fun _ h => (aw_bind aw_t (fun _ h => (aw_bn2 (fM_readAddress (hW.of (by decide)) (by assumption)) (fun _ _ h => (aw_okZ (aw_some (by first | assumption | trivial | exact True.intro)))))))))))
def wM_isAddressWithLength_b43 : List Nat := [12, 13, 14, 15, 16]
theorem fM_isAddressWithLength_b43 {W : List Nat} {t0 : moS} {t : moS} {p1 : Int32} {a2 : Int32} {a3 : Int32} (hW : sbs wM_isAddressWithLength_b43 W) (h : mfr W t0 t) : aw (M_isAddressWithLength_b43 t p1 a2 a3) (fun z => (mfr W t0) z.2) := by
  unfold M_isAddressWithLength_b43
  exact (aw_if (aw_some (by first | assumption | trivial | exact True.intro)) (aw_bind aw_t (fun _ h => (aw_bn2 (fM_readAddress (hW.of (by decide)) (by assumption)) (fun _ _ h => (aw_if (aw_some (by first | assumption | trivial | exact True.intro)) (aw_bind aw_t (fun _ h => (aw_let (mfr.tr (by assumption) (mfr.ss (hW.m (by decide)))) (fun _ h => (aw_if (aw_some (by first | assumption | trivial | exact True.intro)) (aw_some (by first | assumption | trivial | exact True.intro)))))))))))))
def wM_isAddressWithLength_s21 : List Nat := [12, 13, 14, 15, 16]
theorem fM_isAddressWithLength_s21 {W : List Nat} {t0 : moS} {t : moS} {p1 : Int32} {a2 : Int32} {a3 : Int32} (hW : sbs wM_isAddressWithLength_s21 W) (h : mfr W t0 t) : aw (M_isAddressWithLength_s21 t p1 a2 a3) (Sum.elim (fun z => (mfr W t0) z.2) (fun z => (mfr W t0) z.2)) := by
  unfold M_isAddressWithLength_s21
  exact (aw_if (aw_bind aw_t (fun _ h => (aw_if (aw_xo (fM_isAddressWithLength_b43 (hW.of (by decide)) (by assumption))) (aw_some (by first | assumption | trivial | exact True.intro))))) (aw_xo (fM_isAddressWithLength_b43 (hW.of (by decide)) (by assumption))))
def wM_isAddressWithLength_b21 : List Nat := [12, 13, 14, 15, 16]
theorem fM_isAddressWithLength_b21 {W : List Nat} {t0 : moS} {t : moS} {p1 : Int32} {a2 : Int32} {a3 : Int32} (hW : sbs wM_isAddressWithLength_b21 W) (h : mfr W t0 t) : aw (M_isAddressWithLength_b21 t p1 a2 a3) (fun z => (mfr W t0) z.2) := by
  unfold M_isAddressWithLength_b21
  refine aw_lp (I := (fun z => (mfr W t0) z.2)) ?_ ?_
  · exact h
  · intro y hy
    exact (fM_isAddressWithLength_s21 (hW.of (by decide)) hy)
def wM_isAddressWithLength : List Nat := [12, 13, 14, 15, 16]
theorem fM_isAddressWithLength {W : List Nat} {t0 : moS} {t : moS} {p1 : Int32} (hW : sbs wM_isAddressWithLength W) (h : mfr W t0 t) : aw (M_isAddressWithLength t p1) (fun z => (mfr W t0) z.2) := by
  unfold M_isAddressWithLength
  exact (aw_bind aw_t (fun _ h => (aw_bind aw_t (fun _ h => (aw_bind aw_t (fun _ h => (fM_isAddressWithLength_b21 (hW.of (by decide)) (by assumption))))))))
def wM_isPrefixWord_b30 : List Nat := []
theorem fM_isPrefixWord_b30 {W : List Nat} {t0 : moS} {t : moS} (hW : sbs wM_isPrefixWord_b30 W) (h : mfr W t0 t) : aw (M_isPrefixWord_b30 t) (fun z => (mfr W t0) z.2) := by
  unfold M_isPrefixWord_b30
  exact (aw_some (by first | assumption | trivial | exact True.intro))
def wM_isPrefixWord : List Nat := [12, 13, 14, 15, 16]
theorem fM_isPrefixWord {W : List Nat} {t0 : moS} {t : moS} {p1 : Int32} (hW : sbs wM_isPrefixWord W) (h : mfr W t0 t) : aw (M_isPrefixWord t p1) (fun z => (mfr W t0) z.2) := by
  unfold M_isPrefixWord
  exact (aw_bn2 (fM_isAddressWithLength (hW.of (by decide)) (by assumption)) (fun _ _ h => (aw_if (fM_isPrefixWord_b30 (hW.of (by decide)) (by assumption)) (aw_if (fM_isPrefixWord_b30 (hW.of (by decide)) (by assumption)) (aw_some (by first | assumption | trivial | exact True.intro))))))
def wM_fault : List Nat := [0]
theorem fM_fault {W : List Nat} {t0 : moS} {t : moS} (hW : sbs wM_fault W) (h : mfr W t0 t) : aw (M_fault t) (fun z => (mfr W t0) z.2) := by
  unfold M_fault
  exact (aw_let (mfr.tr (by assumption) (mfr.ss (hW.m (by decide)))) (fun _ h => (aw_some (by first | assumption | trivial | exact True.intro))))
def wM_part_b74 : List Nat := [10, 11]
theorem fM_part_b74 {W : List Nat} {t0 : moS} {t : moS} {p2 : Int32} {a3 : Int32} (hW : sbs wM_part_b74 W) (h : mfr W t0 t) : aw (M_part_b74 t p2 a3) (Sum.elim (fun z => (mfr W t0) z.2) (mfr W t0)) := by
  unfold M_part_b74
  exact (aw_bind aw_t (fun _ h => (aw_bind (aw_wrI (hW.m (by decide)) (by assumption)) (fun _ h => (aw_let (mfr.tr (by assumption) (mfr.ss (hW.m (by decide)))) (fun _ h => (aw_some (by first | assumption | trivial | exact True.intro))))))))
def wM_part_s51 : List Nat := [10, 11]
theorem fM_part_s51 {W : List Nat} {t0 : moS} {t : moS} {p2 : Int32} {a3 : Int32} (hW : sbs wM_part_s51 W) (h : mfr W t0 t) : aw (M_part_s51 t p2 a3) (Sum.elim (fun z => (mfr W t0) z.2) (Sum.elim (fun z => (mfr W t0) z.2) (mfr W t0))) := by
  unfold M_part_s51
  exact (aw_if (aw_bind aw_t (fun _ h => (aw_if (aw_some (by first | assumption | trivial | exact True.intro)) (aw_xo (fM_part_b74 (hW.of (by decide)) (by assumption)))))) (aw_xo (fM_part_b74 (hW.of (by decide)) (by assumption))))
def wM_part_b51 : List Nat := [10, 11]
theorem fM_part_b51 {W : List Nat} {t0 : moS} {t : moS} {p2 : Int32} {a3 : Int32} (hW : sbs wM_part_b51 W) (h : mfr W t0 t) : aw (M_part_b51 t p2 a3) (Sum.elim (fun z => (mfr W t0) z.2) (mfr W t0)) := by
  unfold M_part_b51
  refine aw_lp (I := (fun z => (mfr W t0) z.2)) ?_ ?_
  · exact h
  · intro y hy
    exact (fM_part_s51 (hW.of (by decide)) hy)
def wM_part_b35 : List Nat := [9, 10, 11]
theorem fM_part_b35 {W : List Nat} {t0 : moS} {t : moS} {p2 : Int32} {a3 : Int32} (hW : sbs wM_part_b35 W) (h : mfr W t0 t) : aw (M_part_b35 t p2 a3) (Sum.elim (fun z => (mfr W t0) z.2) (mfr W t0)) := by
  unfold M_part_b35
  exact (aw_if (aw_xo (aw_some (by first | assumption | trivial | exact True.intro))) (aw_bind (aw_wrI (hW.m (by decide)) (by assumption)) (fun _ h => (fM_part_b51 (hW.of (by decide)) (by assumption)))))
def wM_part_s12 : List Nat := [9, 10, 11]
theorem fM_part_s12 {W : List Nat} {t0 : moS} {t : moS} {p2 : Int32} {a3 : Int32} (hW : sbs wM_part_s12 W) (h : mfr W t0 t) : aw (M_part_s12 t p2 a3) (Sum.elim (fun z => (mfr W t0) z.2) (Sum.elim (fun z => (mfr W t0) z.2) (mfr W t0))) := by
  unfold M_part_s12
  exact (aw_if (aw_bind aw_t (fun _ h => (aw_if (aw_xo (fM_part_b35 (hW.of (by decide)) (by assumption))) (aw_some (by first | assumption | trivial | exact True.intro))))) (aw_xo (fM_part_b35 (hW.of (by decide)) (by assumption))))
def wM_part_b12 : List Nat := [9, 10, 11]
theorem fM_part_b12 {W : List Nat} {t0 : moS} {t : moS} {p2 : Int32} {a3 : Int32} (hW : sbs wM_part_b12 W) (h : mfr W t0 t) : aw (M_part_b12 t p2 a3) (Sum.elim (fun z => (mfr W t0) z.2) (mfr W t0)) := by
  unfold M_part_b12
  refine aw_lp (I := (fun z => (mfr W t0) z.2)) ?_ ?_
  · exact h
  · intro y hy
    exact (fM_part_s12 (hW.of (by decide)) hy)
def wM_part_s7 : List Nat := [9, 10, 11]
theorem fM_part_s7 {W : List Nat} {t0 : moS} {t : moS} {p2 : Int32} {a3 : Int32} (hW : sbs wM_part_s7 W) (h : mfr W t0 t) : aw (M_part_s7 t p2 a3) (Sum.elim (fun z => (mfr W t0) z.2) (mfr W t0)) := by
  unfold M_part_s7
  exact (aw_if (fM_part_b12 (hW.of (by decide)) (by assumption)) (aw_xo (aw_some (by first | assumption | trivial | exact True.intro))))
def wM_part_b7 : List Nat := [9, 10, 11]
theorem fM_part_b7 {W : List Nat} {t0 : moS} {t : moS} {p2 : Int32} {a3 : Int32} (hW : sbs wM_part_b7 W) (h : mfr W t0 t) : aw (M_part_b7 t p2 a3) (mfr W t0) := by
  unfold M_part_b7
  refine aw_lp (I := (fun z => (mfr W t0) z.2)) ?_ ?_
  · exact h
  · intro y hy
    exact (fM_part_s7 (hW.of (by decide)) hy)
def wM_part : List Nat := [9, 10, 11]
theorem fM_part {W : List Nat} {t0 : moS} {t : moS} {p1 : Int32} {p2 : Int32} (hW : sbs wM_part W) (h : mfr W t0 t) : aw (M_part t p1 p2) (mfr W t0) := by
  unfold M_part
  exact (aw_let (mfr.tr (by assumption) (mfr.ss (hW.m (by decide)))) (fun _ h => (fM_part_b7 (hW.of (by decide)) (by assumption))))
def wM_lineLink_b198 : List Nat := [17, 21, 22]
theorem fM_lineLink_b198 {W : List Nat} {t0 : moS} {t : moS} {u1 : Int32} {u2 : Int32} (hW : sbs wM_lineLink_b198 W) (h : mfr W t0 t) : aw (M_lineLink_b198 t u1 u2) (fun z => (mfr W t0) z.2) := by
  unfold M_lineLink_b198
  exact (aw_bind (aw_wrI (hW.m (by decide)) (by assumption)) (fun _ h => (aw_bind (aw_wrZ (hW.m (by decide)) (by assumption)) (fun _ h => (aw_let (mfr.tr (by assumption) (mfr.ss (hW.m (by decide)))) (fun _ h => (aw_some (by first | assumption | trivial | exact True.intro))))))))
def wM_lineLink_b172 : List Nat := [17, 20, 21, 22]
theorem fM_lineLink_b172 {W : List Nat} {t0 : moS} {t : moS} {a4 : Int32} {u1 : Int32} {u2 : Int32} (hW : sbs wM_lineLink_b172 W) (h : mfr W t0 t) : aw (M_lineLink_b172 t a4 u1 u2) (fun z => (mfr W t0) z.2) := by
  unfold M_lineLink_b172
  exact (aw_bind (aw_wrI (hW.m (by decide)) (by assumption)) (fun _ h => (aw_if (aw_bind aw_t (fun _ h => (fM_lineLink_b198 (hW.of (by decide)) (by assumption)))) (fM_lineLink_b198 (hW.of (by decide)) (by assumption)))))
def wM_lineLink_b115 : List Nat := [17, 18, 19, 20, 21, 22]
theorem fM_lineLink_b115 {W : List Nat} {t0 : moS} {t : moS} {a1 : Int64} {a3 : Int32} {a4 : Int32} (hW : sbs wM_lineLink_b115 W) (h : mfr W t0 t) : aw (M_lineLink_b115 t a1 a3 a4) (fun z => (mfr W t0) z.2) := by
  unfold M_lineLink_b115
  exact (aw_if (aw_some (by first | assumption | trivial | exact True.intro)) (aw_bind (aw_wrJ (hW.m (by decide)) (by assumption)) (fun _ h => (aw_bind aw_t (fun _ h => (aw_bind (aw_wrI (hW.m (by decide)) (by assumption)) (fun _ h => (aw_if (aw_bind aw_t (fun _ h => (fM_lineLink_b172 (hW.of (by decide)) (by assumption)))) (fM_lineLink_b172 (hW.of (by decide)) (by assumption))))))))))
def wM_lineLink_b94 : List Nat := [17, 18, 19, 20, 21, 22]
theorem fM_lineLink_b94 {W : List Nat} {t0 : moS} {t : moS} {a1 : Int64} {a3 : Int32} {a4 : Int32} (hW : sbs wM_lineLink_b94 W) (h : mfr W t0 t) : aw (M_lineLink_b94 t a1 a3 a4) (fun z => (mfr W t0) z.2) := by
  unfold M_lineLink_b94
  exact (aw_if (aw_bind aw_t (fun _ h => (aw_if (aw_some (by first | assumption | trivial | exact True.intro)) (fM_lineLink_b115 (hW.of (by decide)) (by assumption))))) (fM_lineLink_b115 (hW.of (by decide)) (by assumption)))
def wM_lineLink : List Nat := [17, 18, 19, 20, 21, 22]
theorem fM_lineLink {W : List Nat} {t0 : moS} {t : moS} (hW : sbs wM_lineLink W) (h : mfr W t0 t) : aw (M_lineLink t) (fun z => (mfr W t0) z.2) := by
  unfold M_lineLink
  exact (aw_if (aw_some (by first | assumption | trivial | exact True.intro)) (aw_bind aw_t (fun _ h => (aw_if (aw_some (by first | assumption | trivial | exact True.intro)) (aw_bind aw_t (fun _ h => (aw_if (aw_some (by first | assumption | trivial | exact True.intro)) (aw_bind aw_t (fun _ h => (aw_if (aw_bind aw_t (fun _ h => (aw_bind aw_t (fun _ h => (aw_bind aw_t (fun _ h => (aw_if (aw_some (by first | assumption | trivial | exact True.intro)) (aw_if (aw_bind aw_t (fun _ h => (aw_if (aw_some (by first | assumption | trivial | exact True.intro)) (fM_lineLink_b94 (hW.of (by decide)) (by assumption))))) (fM_lineLink_b94 (hW.of (by decide)) (by assumption)))))))))) (aw_some (by first | assumption | trivial | exact True.intro))))))))))))
def wM_lineRouter_s114 : List Nat := [37, 68, 69]
theorem fM_lineRouter_s114 {W : List Nat} {t0 : moS} {t : moS} {a3 : Int32} {a4 : Int32} (hW : sbs wM_lineRouter_s114 W) (h : mfr W t0 t) : aw (M_lineRouter_s114 t a3 a4) (Sum.elim (fun z => (mfr W t0) z.2) (fun z => (mfr W t0) z.2)) := by
  unfold M_lineRouter_s114
  exact (aw_if (aw_bind (aw_wrI (hW.m (by decide)) (by assumption)) (fun _ h => (aw_bind (aw_wrI (hW.m (by decide)) (by assumption)) (fun _ h => (aw_some (by first | assumption | trivial | exact True.intro)))))) (aw_xo (aw_let (mfr.tr (by assumption) (mfr.ss (hW.m (by decide)))) (fun _ h => (aw_some (by first | assumption | trivial | exact True.intro))))))
def wM_lineRouter_b114 : List Nat := [37, 68, 69]
theorem fM_lineRouter_b114 {W : List Nat} {t0 : moS} {t : moS} {a3 : Int32} {a4 : Int32} (hW : sbs wM_lineRouter_b114 W) (h : mfr W t0 t) : aw (M_lineRouter_b114 t a3 a4) (fun z => (mfr W t0) z.2) := by
  unfold M_lineRouter_b114
  refine aw_lp (I := (fun z => (mfr W t0) z.2)) ?_ ?_
  · exact h
  · intro y hy
    exact (fM_lineRouter_s114 (hW.of (by decide)) hy)
def wM_lineRouter : List Nat := [37, 38, 39, 40, 41, 42, 43, 44, 68, 69]
theorem fM_lineRouter {W : List Nat} {t0 : moS} {t : moS} (hW : sbs wM_lineRouter W) (h : mfr W t0 t) : aw (M_lineRouter t) (fun z => (mfr W t0) z.2) := by
  unfold M_lineRouter
  exact (aw_if (aw_bind aw_t (fun _ h => (aw_if (aw_some (by first | assumption | trivial | exact True.intro)) (aw_bind aw_t (fun _ h => (aw_if (aw_if (aw_some (by first | assumption | trivial | exact True.intro)) (aw_bind (aw_wrJ (hW.m (by decide)) (by assumption)) (fun _ h => (aw_bind (aw_wrZ (hW.m (by decide)) (by assumption)) (fun _ h => (aw_bind (aw_wrI (hW.m (by decide)) (by assumption)) (fun _ h => (aw_bind (aw_wrI (hW.m (by decide)) (by assumption)) (fun _ h => (aw_bind (aw_wrI (hW.m (by decide)) (by assumption)) (fun _ h => (aw_bind (aw_wrI (hW.m (by decide)) (by assumption)) (fun _ h => (aw_bind (aw_wrI (hW.m (by decide)) (by assumption)) (fun _ h => (fM_lineRouter_b114 (hW.of (by decide)) (by assumption))))))))))))))))) (aw_some (by first | assumption | trivial | exact True.intro)))))))) (aw_some (by first | assumption | trivial | exact True.intro)))
def wM_newInterface : List Nat := [70, 71, 72, 73]
theorem fM_newInterface {W : List Nat} {t0 : moS} {t : moS} {p1 : Int32} {p2 : Int32} (hW : sbs wM_newInterface W) (h : mfr W t0 t) : aw (M_newInterface t p1 p2) (fun z => (mfr W t0) z.2) := by
  unfold M_newInterface
  exact (aw_bind aw_t (fun _ h => (aw_bind (aw_wrI (hW.m (by decide)) (by assumption)) (fun _ h => (aw_bind (aw_wrI (hW.m (by decide)) (by assumption)) (fun _ h => (aw_bind (aw_wrJ (hW.m (by decide)) (by assumption)) (fun _ h => (aw_bind aw_t (fun _ h => (aw_bind (aw_wrI (hW.m (by decide)) (by assumption)) (fun _ h => (aw_some (by first | assumption | trivial | exact True.intro))))))))))))))
def wM_takePassword_s28 : List Nat := [81]
theorem fM_takePassword_s28 {W : List Nat} {t0 : moS} {t : moS} {p1 : Int32} {p2 : Int32} {a3 : Int32} (hW : sbs wM_takePassword_s28 W) (h : mfr W t0 t) : aw (M_takePassword_s28 t p1 p2 a3) (Sum.elim (fun z => (mfr W t0) z.2) (mfr W t0)) := by
  unfold M_takePassword_s28
  exact (aw_bind aw_t (fun _ h => (aw_if (aw_bind aw_t (fun _ h => (aw_bind aw_t (fun _ h => (aw_bind (aw_wrI (hW.m (by decide)) (by assumption)) (fun _ h => (aw_some (by first | assumption | trivial | exact True.intro)))))))) (aw_xo (aw_some (by first | assumption | trivial | exact True.intro))))))
def wM_takePassword_b28 : List Nat := [81]
theorem fM_takePassword_b28 {W : List Nat} {t0 : moS} {t : moS} {p1 : Int32} {p2 : Int32} {a3 : Int32} (hW : sbs wM_takePassword_b28 W) (h : mfr W t0 t) : aw (M_takePassword_b28 t p1 p2 a3) (mfr W t0) := by
  unfold M_takePassword_b28
  refine aw_lp (I := (fun z => (mfr W t0) z.2)) ?_ ?_
  · exact h
  · intro y hy
    exact (fM_takePassword_s28 (hW.of (by decide)) hy)
def wM_takePassword : List Nat := [79, 80, 81, 82]
theorem fM_takePassword {W : List Nat} {t0 : moS} {t : moS} {p1 : Int32} {p2 : Int32} (hW : sbs wM_takePassword W) (h : mfr W t0 t) : aw (M_takePassword t p1 p2) (mfr W t0) := by
  unfold M_takePassword
  exact (aw_bind (aw_wrI (hW.m (by decide)) (by assumption)) (fun _ h => (aw_bind (aw_wrI (hW.m (by decide)) (by assumption)) (fun _ h => (aw_bind aw_t (fun _ h => (aw_bind (aw_wrI (hW.m (by decide)) (by assumption)) (fun _ h => (fM_takePassword_b28 (hW.of (by decide)) (by assumption))))))))))
def wM_takeKey_s94 : List Nat := [86, 87, 88]
theorem fM_takeKey_s94 {W : List Nat} {t0 : moS} {t : moS} {p4 : Int32} {p5 : Int32} {p6 : Int32} {a8 : Int32} {a9 : Int32} (hW : sbs wM_takeKey_s94 W) (h : mfr W t0 t) : aw (M_takeKey_s94 t p4 p5 p6 a8 a9) (Sum.elim (fun z => (mfr W t0) z.2) (mfr W t0)) := by
  unfold M_takeKey_s94
  exact (aw_bind aw_t (fun _ h => (aw_if (aw_bind aw_t (fun _ h => (aw_bind aw_t (fun _ h => (aw_bind (aw_wrI (hW.m (by decide)) (by assumption)) (fun _ h => (aw_some (by first | assumption | trivial | exact True.intro)))))))) (aw_xo (aw_bind (aw_wrI (hW.m (by decide)) (by assumption)) (fun _ h => (aw_bind (aw_wrI (hW.m (by decide)) (by assumption)) (fun _ h => (aw_some (by first | assumption | trivial | exact True.intro))))))))))
def wM_takeKey_b94 : List Nat := [86, 87, 88]
theorem fM_takeKey_b94 {W : List Nat} {t0 : moS} {t : moS} {p4 : Int32} {p5 : Int32} {p6 : Int32} {a8 : Int32} {a9 : Int32} (hW : sbs wM_takeKey_b94 W) (h : mfr W t0 t) : aw (M_takeKey_b94 t p4 p5 p6 a8 a9) (mfr W t0) := by
  unfold M_takeKey_b94
  refine aw_lp (I := (fun z => (mfr W t0) z.2)) ?_ ?_
  · exact h
  · intro y hy
    exact (fM_takeKey_s94 (hW.of (by decide)) hy)
def wM_takeKey_b53 : List Nat := [83, 84, 85, 86, 87, 88]
theorem fM_takeKey_b53 {W : List Nat} {t0 : moS} {t : moS} {p1 : Int32} {p2 : Int32} {p3 : Int32} {p4 : Int32} {p5 : Int32} {p6 : Int32} {a7 : Int32} (hW : sbs wM_takeKey_b53 W) (h : mfr W t0 t) : aw (M_takeKey_b53 t p1 p2 p3 p4 p5 p6 a7) (mfr W t0) := by
  unfold M_takeKey_b53
  exact (aw_bind (aw_wrI (hW.m (by decide)) (by assumption)) (fun _ h => (aw_bind (aw_wrZ (hW.m (by decide)) (by assumption)) (fun _ h => (aw_bind aw_t (fun _ h => (aw_bind (aw_wrI (hW.m (by decide)) (by assumption)) (fun _ h => (fM_takeKey_b94 (hW.of (by decide)) (by assumption))))))))))
def wM_takeKey_b17 : List Nat := [79, 82, 83, 84, 85, 86, 87, 88]
theorem fM_takeKey_b17 {W : List Nat} {t0 : moS} {t : moS} {p1 : Int32} {p2 : Int32} {p3 : Int32} {p4 : Int32} {p5 : Int32} {p6 : Int32} (hW : sbs wM_takeKey_b17 W) (h : mfr W t0 t) : aw (M_takeKey_b17 t p1 p2 p3 p4 p5 p6) (mfr W t0) := by
  unfold M_takeKey_b17
  exact (aw_bind (aw_wrI (hW.m (by decide)) (by assumption)) (fun _ h => (aw_bind aw_t (fun _ h => (aw_bind aw_t (fun _ h => (aw_if (aw_bind aw_t (fun _ h => (aw_bind (aw_wrI (hW.m (by decide)) (by assumption)) (fun _ h => (fM_takeKey_b53 (hW.of (by decide)) (by assumption)))))) (fM_takeKey_b53 (hW.of (by decide)) (by assumption)))))))))
def wM_takeKey : List Nat := [79, 82, 83, 84, 85, 86, 87, 88]
theorem fM_takeKey {W : List Nat} {t0 : moS} {t : moS} {p1 : Int32} {p2 : Int32} {p3 : Int32} {p4 : Int32} {p5 : Int32} {p6 : Int32} (hW : sbs wM_takeKey W) (h : mfr W t0 t) : aw (M_takeKey t p1 p2 p3 p4 p5 p6) (mfr W t0) := by
  unfold M_takeKey
  exact (aw_bind aw_t (fun _ h => (aw_if (fM_takeKey_b17 (hW.of (by decide)) (by assumption)) (aw_bind (aw_wrI (hW.m (by decide)) (by assumption)) (fun _ h => (fM_takeKey_b17 (hW.of (by decide)) (by assumption)))))))
def wM_isDue_b85 : List Nat := []
theorem fM_isDue_b85 {W : List Nat} {t0 : moS} {t : moS} {p1 : Int32} {p2 : Int32} {p3 : Int64} {p5 : Int64} {p7 : Int32} {a8 : Int32} (hW : sbs wM_isDue_b85 W) (h : mfr W t0 t) : aw (M_isDue_b85 t p1 p2 p3 p5 p7 a8) (Sum.elim (fun z => (mfr W t0) z.2) (fun z => (mfr W t0) z.2)) := by
  unfold M_isDue_b85
  exact (aw_some (by first | assumption | trivial | exact True.intro))
def wM_isDue_s10 : List Nat := [153, 154, 155, 156]
theorem fM_isDue_s10 {W : List Nat} {t0 : moS} {t : moS} {p1 : Int32} {p2 : Int32} {p3 : Int64} {p5 : Int64} {p7 : Int32} {a8 : Int32} (hW : sbs wM_isDue_s10 W) (h : mfr W t0 t) : aw (M_isDue_s10 t p1 p2 p3 p5 p7 a8) (Sum.elim (fun z => (mfr W t0) z.2) (fun z => (mfr W t0) z.2)) := by
  unfold M_isDue_s10
  exact (aw_bind aw_t (fun _ h => (aw_if (aw_bind aw_t (fun _ h => (aw_bind aw_t (fun _ h => (aw_if (fM_isDue_b85 (hW.of (by decide)) (by assumption)) (aw_bind aw_t (fun _ h => (aw_if (fM_isDue_b85 (hW.of (by decide)) (by assumption)) (aw_xo (aw_let (mfr.tr (by assumption) (mfr.ss (hW.m (by decide)))) (fun _ h => (aw_bind aw_t (fun _ h => (aw_let (mfr.tr (by assumption) (mfr.ss (hW.m (by decide)))) (fun _ h => (aw_let (mfr.tr (by assumption) (mfr.ss (hW.m (by decide)))) (fun _ h => (aw_some (by first | assumption | trivial | exact True.intro))))))))))))))))))) (aw_xo (aw_bind aw_t (fun _ h => (aw_if (aw_some (by first | assumption | trivial | exact True.intro)) (aw_let (mfr.tr (by assumption) (mfr.ss (hW.m (by decide)))) (fun _ h => (aw_bind aw_t (fun _ h => (aw_let (mfr.tr (by assumption) (mfr.ss (hW.m (by decide)))) (fun _ h => (aw_let (mfr.tr (by assumption) (mfr.ss (hW.m (by decide)))) (fun _ h => (aw_bind aw_t (fun _ h => (aw_let (mfr.tr (by assumption) (mfr.ss (hW.m (by decide)))) (fun _ h => (aw_some (by first | assumption | trivial | exact True.intro)))))))))))))))))))))
def wM_isDue_b10 : List Nat := [153, 154, 155, 156]
theorem fM_isDue_b10 {W : List Nat} {t0 : moS} {t : moS} {p1 : Int32} {p2 : Int32} {p3 : Int64} {p5 : Int64} {p7 : Int32} {a8 : Int32} (hW : sbs wM_isDue_b10 W) (h : mfr W t0 t) : aw (M_isDue_b10 t p1 p2 p3 p5 p7 a8) (fun z => (mfr W t0) z.2) := by
  unfold M_isDue_b10
  refine aw_lp (I := (fun z => (mfr W t0) z.2)) ?_ ?_
  · exact h
  · intro y hy
    exact (fM_isDue_s10 (hW.of (by decide)) hy)
def wM_isDue : List Nat := [153, 154, 155, 156]
theorem fM_isDue {W : List Nat} {t0 : moS} {t : moS} {p1 : Int32} {p2 : Int32} {p3 : Int64} {p5 : Int64} {p7 : Int32} (hW : sbs wM_isDue W) (h : mfr W t0 t) : aw (M_isDue t p1 p2 p3 p5 p7) (fun z => (mfr W t0) z.2) := by
  unfold M_isDue
  exact (aw_let (mfr.tr (by assumption) (mfr.ss (hW.m (by decide)))) (fun _ h => (fM_isDue_b10 (hW.of (by decide)) (by assumption))))
def wM_markChanged : List Nat := [44, 45, 119]
theorem fM_markChanged {W : List Nat} {t0 : moS} {t : moS} {p1 : Int32} {p2 : Int32} (hW : sbs wM_markChanged W) (h : mfr W t0 t) : aw (M_markChanged t p1 p2) (mfr W t0) := by
  unfold M_markChanged
  exact (aw_bind (aw_wrZ (hW.m (by decide)) (by assumption)) (fun _ h => (aw_bind aw_t (fun _ h => (aw_bind (aw_wrI (hW.m (by decide)) (by assumption)) (fun _ h => (aw_bind aw_t (fun _ h => (aw_if (aw_bind aw_t (fun _ h => (aw_bind (aw_wrI (hW.m (by decide)) (by assumption)) (fun _ h => (aw_some (by first | assumption | trivial | exact True.intro)))))) (aw_some (by first | assumption | trivial | exact True.intro)))))))))))
def wM_become_b74 : List Nat := [44, 45, 110, 111, 112, 113, 114, 115, 116, 119, 122]
theorem fM_become_b74 {W : List Nat} {t0 : moS} {t : moS} {p1 : Int32} {p2 : Int32} {u0 : Int32} (hW : sbs wM_become_b74 W) (h : mfr W t0 t) : aw (M_become_b74 t p1 p2 u0) (mfr W t0) := by
  unfold M_become_b74
  exact (aw_bind (aw_wrI (hW.m (by decide)) (by assumption)) (fun _ h => (aw_bind (aw_wrI (hW.m (by decide)) (by assumption)) (fun _ h => (aw_bind (aw_wrI (hW.m (by decide)) (by assumption)) (fun _ h => (aw_bind (aw_wrI (hW.m (by decide)) (by assumption)) (fun _ h => (aw_bind (aw_wrJ (hW.m (by decide)) (by assumption)) (fun _ h => (aw_bind (aw_wrJ (hW.m (by decide)) (by assumption)) (fun _ h => (aw_bind (aw_wrI (hW.m (by decide)) (by assumption)) (fun _ h => (aw_bind (aw_wrI (hW.m (by decide)) (by assumption)) (fun _ h => (aw_if (aw_some (by first | assumption | trivial | exact True.intro)) (aw_bind (fM_markChanged (hW.of (by decide)) (by assumption)) (fun _ h => (aw_some (by first | assumption | trivial | exact True.intro)))))))))))))))))))))
def wM_become_b69 : List Nat := [44, 45, 110, 111, 112, 113, 114, 115, 116, 119, 122]
theorem fM_become_b69 {W : List Nat} {t0 : moS} {t : moS} {p1 : Int32} {p2 : Int32} (hW : sbs wM_become_b69 W) (h : mfr W t0 t) : aw (M_become_b69 t p1 p2) (mfr W t0) := by
  unfold M_become_b69
  exact (fM_become_b74 (hW.of (by decide)) (by assumption))
def wM_become_b73 : List Nat := [44, 45, 110, 111, 112, 113, 114, 115, 116, 119, 122]
theorem fM_become_b73 {W : List Nat} {t0 : moS} {t : moS} {p1 : Int32} {p2 : Int32} (hW : sbs wM_become_b73 W) (h : mfr W t0 t) : aw (M_become_b73 t p1 p2) (mfr W t0) := by
  unfold M_become_b73
  exact (fM_become_b74 (hW.of (by decide)) (by assumption))
def wM_become : List Nat := [44, 45, 110, 111, 112, 113, 114, 115, 116, 119, 122]
theorem fM_become {W : List Nat} {t0 : moS} {t : moS} {p1 : Int32} {p2 : Int32} (hW : sbs wM_become W) (h : mfr W t0 t) : aw (M_become t p1 p2) (mfr W t0) := by
  unfold M_become
  exact (aw_bind aw_t (fun _ h => (aw_if (aw_bind aw_t (fun _ h => (aw_if (aw_bind aw_t (fun _ h => (aw_if (aw_bind aw_t (fun _ h => (aw_if (aw_if (aw_bind aw_t (fun _ h => (aw_if (fM_become_b73 (hW.of (by decide)) (by assumption)) (fM_become_b69 (hW.of (by decide)) (by assumption))))) (fM_become_b73 (hW.of (by decide)) (by assumption))) (fM_become_b69 (hW.of (by decide)) (by assumption))))) (fM_become_b69 (hW.of (by decide)) (by assumption))))) (fM_become_b69 (hW.of (by decide)) (by assumption))))) (fM_become_b69 (hW.of (by decide)) (by assumption)))))
def wM_die : List Nat := [44, 45, 111, 119, 122]
theorem fM_die {W : List Nat} {t0 : moS} {t : moS} {p1 : Int32} {p2 : Int32} (hW : sbs wM_die W) (h : mfr W t0 t) : aw (M_die t p1 p2) (mfr W t0) := by
  unfold M_die
  exact (aw_bind aw_t (fun _ h => (aw_if (aw_some (by first | assumption | trivial | exact True.intro)) (aw_bind (aw_wrI (hW.m (by decide)) (by assumption)) (fun _ h => (aw_bind aw_t (fun _ h => (aw_bind (aw_wrI (hW.m (by decide)) (by assumption)) (fun _ h => (aw_bind (fM_markChanged (hW.of (by decide)) (by assumption)) (fun _ h => (aw_some (by first | assumption | trivial | exact True.intro)))))))))))))
def wM_forsake : List Nat := [44, 45, 110, 111, 112, 113, 116, 119, 122]
theorem fM_forsake {W : List Nat} {t0 : moS} {t : moS} {p1 : Int32} {p2 : Int32} (hW : sbs wM_forsake W) (h : mfr W t0 t) : aw (M_forsake t p1 p2) (mfr W t0) := by
  unfold M_forsake
  exact (aw_bind (aw_wrI (hW.m (by decide)) (by assumption)) (fun _ h => (aw_bind (aw_wrI (hW.m (by decide)) (by assumption)) (fun _ h => (aw_bind (aw_wrI (hW.m (by decide)) (by assumption)) (fun _ h => (aw_bind (aw_wrI (hW.m (by decide)) (by assumption)) (fun _ h => (aw_bind (fM_die (hW.of (by decide)) (by assumption)) (fun _ h => (aw_some (by first | assumption | trivial | exact True.intro))))))))))))
def wM_copyRoute : List Nat := [106, 107, 108, 109, 110, 111, 112, 113, 114, 115, 116, 117, 118, 119, 120, 121, 122]
theorem fM_copyRoute {W : List Nat} {t0 : moS} {t : moS} {p1 : Int32} {p2 : Int32} (hW : sbs wM_copyRoute W) (h : mfr W t0 t) : aw (M_copyRoute t p1 p2) (mfr W t0) := by
  unfold M_copyRoute
  exact (aw_bind aw_t (fun _ h => (aw_bind (aw_wrI (hW.m (by decide)) (by assumption)) (fun _ h => (aw_bind aw_t (fun _ h => (aw_bind (aw_wrJ (hW.m (by decide)) (by assumption)) (fun _ h => (aw_bind aw_t (fun _ h => (aw_bind (aw_wrJ (hW.m (by decide)) (by assumption)) (fun _ h => (aw_bind aw_t (fun _ h => (aw_bind (aw_wrI (hW.m (by decide)) (by assumption)) (fun _ h => (aw_bind aw_t (fun _ h => (aw_bind (aw_wrI (hW.m (by decide)) (by assumption)) (fun _ h => (aw_bind aw_t (fun _ h => (aw_bind (aw_wrI (hW.m (by decide)) (by assumption)) (fun _ h => (aw_bind aw_t (fun _ h => (aw_bind (aw_wrI (hW.m (by decide)) (by assumption)) (fun _ h => (aw_bind aw_t (fun _ h => (aw_bind (aw_wrI (hW.m (by decide)) (by assumption)) (fun _ h => (aw_bind aw_t (fun _ h => (aw_bind (aw_wrJ (hW.m (by decide)) (by assumption)) (fun _ h => (aw_bind aw_t (fun _ h => (aw_bind (aw_wrJ (hW.m (by decide)) (by assumption)) (fun _ h => (aw_bind aw_t (fun _ h => (aw_bind (aw_wrI (hW.m (by decide)) (by assumption)) (fun _ h => (aw_bind aw_t (fun _ h => (aw_bind (aw_wrJ (hW.m (by decide)) (by assumption)) (fun _ h => (aw_bind aw_t (fun _ h => (aw_bind (aw_wrJ (hW.m (by decide)) (by assumption)) (fun _ h => (aw_bind aw_t (fun _ h => (aw_bind (aw_wrZ (hW.m (by decide)) (by assumption)) (fun _ h => (aw_bind aw_t (fun _ h => (aw_bind (aw_wrI (hW.m (by decide)) (by assumption)) (fun _ h => (aw_bind aw_t (fun _ h => (aw_bind (aw_wrI (hW.m (by decide)) (by assumption)) (fun _ h => (aw_bind aw_t (fun _ h => (aw_bind (aw_wrI (hW.m (by decide)) (by assumption)) (fun _ h => (aw_some (by first | assumption | trivial | exact True.intro))))))))))))))))))))))))))))))))))))))))))))))))))))))))))))))))))))))
def wM_insert_b67 : List Nat := [106, 107, 108, 109, 112, 114, 115, 116, 119, 122]
theorem fM_insert_b67 {W : List Nat} {t0 : moS} {t : moS} {p2 : Int32} {p3 : Int64} {p5 : Int64} {p7 : Int32} {a8 : Int32} (hW : sbs wM_insert_b67 W) (h : mfr W t0 t) : aw (M_insert_b67 t p2 p3 p5 p7 a8) (fun z => (mfr W t0) z.2) := by
  unfold M_insert_b67
  exact (aw_bind (aw_wrI (hW.m (by decide)) (by assumption)) (fun _ h => (aw_bind (aw_wrJ (hW.m (by decide)) (by assumption)) (fun _ h => (aw_bind (aw_wrJ (hW.m (by decide)) (by assumption)) (fun _ h => (aw_bind (aw_wrI (hW.m (by decide)) (by assumption)) (fun _ h => (aw_bind (aw_wrI (hW.m (by decide)) (by assumption)) (fun _ h => (aw_bind (aw_wrZ (hW.m (by decide)) (by assumption)) (fun _ h => (aw_bind (aw_wrJ (hW.m (by decide)) (by assumption)) (fun _ h => (aw_bind (aw_wrJ (hW.m (by decide)) (by assumption)) (fun _ h => (aw_bind (aw_wrI (hW.m (by decide)) (by assumption)) (fun _ h => (aw_bind (aw_wrI (hW.m (by decide)) (by assumption)) (fun _ h => (aw_some (by first | assumption | trivial | exact True.intro))))))))))))))))))))))
def wM_insert_s24 : List Nat := [106, 107, 108, 109, 110, 111, 112, 113, 114, 115, 116, 117, 118, 119, 120, 121, 122]
theorem fM_insert_s24 {W : List Nat} {t0 : moS} {t : moS} {p1 : Int32} {p2 : Int32} {p3 : Int64} {p5 : Int64} {p7 : Int32} {a8 : Int32} (hW : sbs wM_insert_s24 W) (h : mfr W t0 t) : aw (M_insert_s24 t p1 p2 p3 p5 p7 a8) (Sum.elim (fun z => (mfr W t0) z.2) (fun z => (mfr W t0) z.2)) := by
  unfold M_insert_s24
  exact (aw_if (aw_bind aw_t (fun _ h => (aw_if (aw_xo (fM_insert_b67 (hW.of (by decide)) (by assumption))) (aw_bind (fM_copyRoute (hW.of (by decide)) (by assumption)) (fun _ h => (aw_some (by first | assumption | trivial | exact True.intro))))))) (aw_xo (fM_insert_b67 (hW.of (by decide)) (by assumption))))
def wM_insert_b24 : List Nat := [106, 107, 108, 109, 110, 111, 112, 113, 114, 115, 116, 117, 118, 119, 120, 121, 122]
theorem fM_insert_b24 {W : List Nat} {t0 : moS} {t : moS} {p1 : Int32} {p2 : Int32} {p3 : Int64} {p5 : Int64} {p7 : Int32} {a8 : Int32} (hW : sbs wM_insert_b24 W) (h : mfr W t0 t) : aw (M_insert_b24 t p1 p2 p3 p5 p7 a8) (fun z => (mfr W t0) z.2) := by
  unfold M_insert_b24
  refine aw_lp (I := (fun z => (mfr W t0) z.2)) ?_ ?_
  · exact h
  · intro y hy
    exact (fM_insert_s24 (hW.of (by decide)) hy)
def wM_insert : List Nat := [105, 106, 107, 108, 109, 110, 111, 112, 113, 114, 115, 116, 117, 118, 119, 120, 121, 122]
theorem fM_insert {W : List Nat} {t0 : moS} {t : moS} {p1 : Int32} {p2 : Int32} {p3 : Int64} {p5 : Int64} {p7 : Int32} (hW : sbs wM_insert W) (h : mfr W t0 t) : aw (M_insert t p1 p2 p3 p5 p7) (fun z => (mfr W t0) z.2) := by
  unfold M_insert
  exact (aw_bind aw_t (fun _ h => (aw_bind aw_t (fun _ h => (aw_bind (aw_wrI (hW.m (by decide)) (by assumption)) (fun _ h => (fM_insert_b24 (hW.of (by decide)) (by assumption))))))))
def wM_come : List Nat := [44, 45, 105, 106, 107, 108, 109, 110, 111, 112, 113, 114, 115, 116, 117, 118, 119, 120, 121, 122, 153, 154, 155, 156]
theorem fM_come {W : List Nat} {t0 : moS} {t : moS} {p1 : Int32} {p2 : Int32} {p3 : Int64} {p5 : Int64} {p7 : Int32} (hW : sbs wM_come W) (h : mfr W t0 t) : aw (M_come t p1 p2 p3 p5 p7) (mfr W t0) := by
  unfold M_come
  exact (aw_bind aw_t (fun _ h => (aw_if (aw_bn2 (fM_isDue (hW.of (by decide)) (by assumption)) (fun _ _ h => (aw_if (aw_some (by first | assumption | trivial | exact True.intro)) (aw_bn2 (fM_insert (hW.of (by decide)) (by assumption)) (fun _ _ h => (aw_bind (aw_wrI (hW.m (by decide)) (by assumption)) (fun _ h => (aw_bind (aw_wrI (hW.m (by decide)) (by assumption)) (fun _ h => (aw_bind (aw_wrI (hW.m (by decide)) (by assumption)) (fun _ h => (aw_bind (aw_wrI (hW.m (by decide)) (by assumption)) (fun _ h => (aw_bind (fM_markChanged (hW.of (by decide)) (by assumption)) (fun _ h => (aw_some (by first | assumption | trivial | exact True.intro))))))))))))))))) (aw_some (by first | assumption | trivial | exact True.intro)))))
def wM_settle_b89 : List Nat := []
theorem fM_settle_b89 {W : List Nat} {t0 : moS} {t : moS} {p1 : Int32} {a2 : Int32} (hW : sbs wM_settle_b89 W) (h : mfr W t0 t) : aw (M_settle_b89 t p1 a2) (Sum.elim (fun z => (mfr W t0) z.2) (mfr W t0)) := by
  unfold M_settle_b89
  exact (aw_some (by first | assumption | trivial | exact True.intro))
def wM_settle_b172 : List Nat := []
theorem fM_settle_b172 {W : List Nat} {t0 : moS} {t : moS} {p1 : Int32} {a2 : Int32} (hW : sbs wM_settle_b172 W) (h : mfr W t0 t) : aw (M_settle_b172 t p1 a2) (Sum.elim (fun z => (mfr W t0) z.2) (mfr W t0)) := by
  unfold M_settle_b172
  exact (aw_some (by first | assumption | trivial | exact True.intro))
def wM_settle_s183 : List Nat := [44, 45, 105, 106, 107, 108, 109, 110, 111, 112, 113, 114, 115, 116, 117, 118, 119, 120, 121, 122, 153, 154, 155, 156]
theorem fM_settle_s183 {W : List Nat} {t0 : moS} {t : moS} {p1 : Int32} {a2 : Int32} (hW : sbs wM_settle_s183 W) (h : mfr W t0 t) : aw (M_settle_s183 t p1 a2) (Sum.elim (fun z => (mfr W t0) z.2) (mfr W t0)) := by
  unfold M_settle_s183
  exact (aw_bind aw_t (fun _ h => (aw_if (aw_bind aw_t (fun _ h => (aw_bind aw_t (fun _ h => (aw_bind aw_t (fun _ h => (aw_bind aw_t (fun _ h => (aw_bind (fM_come (hW.of (by decide)) (by assumption)) (fun _ h => (aw_some (by first | assumption | trivial | exact True.intro)))))))))))) (aw_xo (aw_some (by first | assumption | trivial | exact True.intro))))))
def wM_settle_b183 : List Nat := [44, 45, 105, 106, 107, 108, 109, 110, 111, 112, 113, 114, 115, 116, 117, 118, 119, 120, 121, 122, 153, 154, 155, 156]
theorem fM_settle_b183 {W : List Nat} {t0 : moS} {t : moS} {p1 : Int32} {a2 : Int32} (hW : sbs wM_settle_b183 W) (h : mfr W t0 t) : aw (M_settle_b183 t p1 a2) (mfr W t0) := by
  unfold M_settle_b183
  refine aw_lp (I := (fun z => (mfr W t0) z.2)) ?_ ?_
  · exact h
  · intro y hy
    exact (fM_settle_s183 (hW.of (by decide)) hy)
def wM_settle_s100 : List Nat := [44, 45, 105, 106, 107, 108, 109, 110, 111, 112, 113, 114, 115, 116, 117, 118, 119, 120, 121, 122, 153, 154, 155, 156]
theorem fM_settle_s100 {W : List Nat} {t0 : moS} {t : moS} {p1 : Int32} {a2 : Int32} (hW : sbs wM_settle_s100 W) (h : mfr W t0 t) : aw (M_settle_s100 t p1 a2) (Sum.elim (fun z => (mfr W t0) z.2) (mfr W t0)) := by
  unfold M_settle_s100
  exact (aw_bind aw_t (fun _ h => (aw_if (aw_bind aw_t (fun _ h => (aw_if (fM_settle_b172 (hW.of (by decide)) (by assumption)) (aw_bind aw_t (fun _ h => (aw_bind aw_t (fun _ h => (aw_bind aw_t (fun _ h => (aw_bind aw_t (fun _ h => (aw_bind aw_t (fun _ h => (aw_bind (fM_come (hW.of (by decide)) (by assumption)) (fun _ h => (fM_settle_b172 (hW.of (by decide)) (by assumption))))))))))))))))) (aw_xo (fM_settle_b183 (hW.of (by decide)) (by assumption))))))
def wM_settle_b100 : List Nat := [44, 45, 105, 106, 107, 108, 109, 110, 111, 112, 113, 114, 115, 116, 117, 118, 119, 120, 121, 122, 153, 154, 155, 156]
theorem fM_settle_b100 {W : List Nat} {t0 : moS} {t : moS} {p1 : Int32} {a2 : Int32} (hW : sbs wM_settle_b100 W) (h : mfr W t0 t) : aw (M_settle_b100 t p1 a2) (mfr W t0) := by
  unfold M_settle_b100
  refine aw_lp (I := (fun z => (mfr W t0) z.2)) ?_ ?_
  · exact h
  · intro y hy
    exact (fM_settle_s100 (hW.of (by decide)) hy)
def wM_settle_s16 : List Nat := [44, 45, 105, 106, 107, 108, 109, 110, 111, 112, 113, 114, 115, 116, 117, 118, 119, 120, 121, 122, 153, 154, 155, 156]
theorem fM_settle_s16 {W : List Nat} {t0 : moS} {t : moS} {p1 : Int32} {a2 : Int32} (hW : sbs wM_settle_s16 W) (h : mfr W t0 t) : aw (M_settle_s16 t p1 a2) (Sum.elim (fun z => (mfr W t0) z.2) (mfr W t0)) := by
  unfold M_settle_s16
  exact (aw_bind aw_t (fun _ h => (aw_if (aw_bind aw_t (fun _ h => (aw_bind aw_t (fun _ h => (aw_bind aw_t (fun _ h => (aw_bind aw_t (fun _ h => (aw_bn2 (fM_isDue (hW.of (by decide)) (by assumption)) (fun _ _ h => (aw_if (aw_bind aw_t (fun _ h => (aw_if (fM_settle_b89 (hW.of (by decide)) (by assumption)) (aw_bind (fM_forsake (hW.of (by decide)) (by assumption)) (fun _ h => (fM_settle_b89 (hW.of (by decide)) (by assumption))))))) (aw_bind (fM_become (hW.of (by decide)) (by assumption)) (fun _ h => (fM_settle_b89 (hW.of (by decide)) (by assumption))))))))))))))) (aw_xo (fM_settle_b100 (hW.of (by decide)) (by assumption))))))
def wM_settle_b16 : List Nat := [44, 45, 105, 106, 107, 108, 109, 110, 111, 112, 113, 114, 115, 116, 117, 118, 119, 120, 121, 122, 153, 154, 155, 156]
theorem fM_settle_b16 {W : List Nat} {t0 : moS} {t : moS} {p1 : Int32} {a2 : Int32} (hW : sbs wM_settle_b16 W) (h : mfr W t0 t) : aw (M_settle_b16 t p1 a2) (mfr W t0) := by
  unfold M_settle_b16
  refine aw_lp (I := (fun z => (mfr W t0) z.2)) ?_ ?_
  · exact h
  · intro y hy
    exact (fM_settle_s16 (hW.of (by decide)) hy)
def wM_settle : List Nat := [44, 45, 105, 106, 107, 108, 109, 110, 111, 112, 113, 114, 115, 116, 117, 118, 119, 120, 121, 122, 153, 154, 155, 156]
theorem fM_settle {W : List Nat} {t0 : moS} {t : moS} {p1 : Int32} (hW : sbs wM_settle W) (h : mfr W t0 t) : aw (M_settle t p1) (mfr W t0) := by
  unfold M_settle
  exact (aw_bind aw_t (fun _ h => (aw_if (aw_some (by first | assumption | trivial | exact True.intro)) (fM_settle_b16 (hW.of (by decide)) (by assumption)))))
def wM_put2 : List Nat := []
theorem fM_put2 {W : List Nat} {t0 : moS} {t : moS} {p1 : Nat} {p2 : Int32} {p3 : Int32} (hW : sbs wM_put2 W) (hp1 : p1 ∈ W) (h : mfr W t0 t) : aw (M_put2 t p1 p2 p3) (mfr W t0) := by
  unfold M_put2
  exact (aw_bind (aw_wrI hp1 (by assumption)) (fun _ h => (aw_bind (aw_wrI hp1 (by assumption)) (fun _ h => (aw_some (by first | assumption | trivial | exact True.intro))))))
def wM_put4 : List Nat := []
theorem fM_put4 {W : List Nat} {t0 : moS} {t : moS} {p1 : Nat} {p2 : Int32} {p3 : Int32} (hW : sbs wM_put4 W) (hp1 : p1 ∈ W) (h : mfr W t0 t) : aw (M_put4 t p1 p2 p3) (mfr W t0) := by
  unfold M_put4
  exact (aw_bind (fM_put2 (hW.of (by decide)) hp1 (by assumption)) (fun _ h => (aw_bind (fM_put2 (hW.of (by decide)) hp1 (by assumption)) (fun _ h => (aw_some (by first | assumption | trivial | exact True.intro))))))
def wM_pad_b66 : List Nat := [157]
theorem fM_pad_b66 {W : List Nat} {t0 : moS} {t : moS} {p1 : Int32} {p2 : Int32} {a3 : Int32} {a4 : Int32} {u0 : Int32} (hW : sbs wM_pad_b66 W) (h : mfr W t0 t) : aw (M_pad_b66 t p1 p2 a3 a4 u0) (Sum.elim (fun z => (mfr W t0) z.2) (fun z => (mfr W t0) z.2)) := by
  unfold M_pad_b66
  exact (aw_bind (aw_wrI (hW.m (by decide)) (by assumption)) (fun _ h => (aw_some (by first | assumption | trivial | exact True.intro))))
def wM_pad_s39 : List Nat := [157]
theorem fM_pad_s39 {W : List Nat} {t0 : moS} {t : moS} {p1 : Int32} {p2 : Int32} {a3 : Int32} {a4 : Int32} (hW : sbs wM_pad_s39 W) (h : mfr W t0 t) : aw (M_pad_s39 t p1 p2 a3 a4) (Sum.elim (fun z => (mfr W t0) z.2) (fun z => (mfr W t0) z.2)) := by
  unfold M_pad_s39
  exact (aw_if (aw_if (fM_pad_b66 (hW.of (by decide)) (by assumption)) (fM_pad_b66 (hW.of (by decide)) (by assumption))) (aw_xo (aw_some (by first | assumption | trivial | exact True.intro))))
def wM_pad_b39 : List Nat := [157]
theorem fM_pad_b39 {W : List Nat} {t0 : moS} {t : moS} {p1 : Int32} {p2 : Int32} {a3 : Int32} {a4 : Int32} (hW : sbs wM_pad_b39 W) (h : mfr W t0 t) : aw (M_pad_b39 t p1 p2 a3 a4) (fun z => (mfr W t0) z.2) := by
  unfold M_pad_b39
  refine aw_lp (I := (fun z => (mfr W t0) z.2)) ?_ ?_
  · exact h
  · intro y hy
    exact (fM_pad_s39 (hW.of (by decide)) hy)
def wM_pad_s14 : List Nat := [157]
theorem fM_pad_s14 {W : List Nat} {t0 : moS} {t : moS} {p1 : Int32} {p2 : Int32} {a3 : Int32} (hW : sbs wM_pad_s14 W) (h : mfr W t0 t) : aw (M_pad_s14 t p1 p2 a3) (Sum.elim (fun z => (mfr W t0) z.2) (fun z => (mfr W t0) z.2)) := by
  unfold M_pad_s14
  exact (aw_if (aw_xo (fM_pad_b39 (hW.of (by decide)) (by assumption))) (aw_bind (aw_wrI (hW.m (by decide)) (by assumption)) (fun _ h => (aw_some (by first | assumption | trivial | exact True.intro)))))
def wM_pad_b14 : List Nat := [157]
theorem fM_pad_b14 {W : List Nat} {t0 : moS} {t : moS} {p1 : Int32} {p2 : Int32} {a3 : Int32} (hW : sbs wM_pad_b14 W) (h : mfr W t0 t) : aw (M_pad_b14 t p1 p2 a3) (fun z => (mfr W t0) z.2) := by
  unfold M_pad_b14
  refine aw_lp (I := (fun z => (mfr W t0) z.2)) ?_ ?_
  · exact h
  · intro y hy
    exact (fM_pad_s14 (hW.of (by decide)) hy)
def wM_pad : List Nat := [157]
theorem fM_pad {W : List Nat} {t0 : moS} {t : moS} {p1 : Int32} {p2 : Int32} (hW : sbs wM_pad W) (h : mfr W t0 t) : aw (M_pad t p1 p2) (fun z => (mfr W t0) z.2) := by
  unfold M_pad
  exact (aw_bind (aw_wrI (hW.m (by decide)) (by assumption)) (fun _ h => (fM_pad_b14 (hW.of (by decide)) (by assumption))))
def wM_shaBlock_b293 : List Nat := []
theorem fM_shaBlock_b293 {W : List Nat} {t0 : moS} {t : moS} {a2 : Int32} {a3 : Int32} {a4 : Int32} {a5 : Int32} {a6 : Int32} {a7 : Int32} {a8 : Int32} {u0 : Int32} (hW : sbs wM_shaBlock_b293 W) (h : mfr W t0 t) : aw (M_shaBlock_b293 t a2 a3 a4 a5 a6 a7 a8 u0) (Sum.elim (fun z => (fun z => (fun z => (fun z => (fun z => (fun z => (mfr W t0) z.2) z.2) z.2) z.2) z.2) z.2) (mfr W t0)) := by
  unfold M_shaBlock_b293
  exact (aw_bind aw_t (fun _ h => (aw_some (by first | assumption | trivial | exact True.intro))))
def wM_shaBlock_b249 : List Nat := []
theorem fM_shaBlock_b249 {W : List Nat} {t0 : moS} {t : moS} {a2 : Int32} {a3 : Int32} {a4 : Int32} {a5 : Int32} {a6 : Int32} {a7 : Int32} {u0 : Int32} (hW : sbs wM_shaBlock_b249 W) (h : mfr W t0 t) : aw (M_shaBlock_b249 t a2 a3 a4 a5 a6 a7 u0) (Sum.elim (fun z => (fun z => (fun z => (fun z => (fun z => (fun z => (mfr W t0) z.2) z.2) z.2) z.2) z.2) z.2) (mfr W t0)) := by
  unfold M_shaBlock_b249
  exact (aw_if (fM_shaBlock_b293 (hW.of (by decide)) (by assumption)) (aw_if (fM_shaBlock_b293 (hW.of (by decide)) (by assumption)) (aw_if (fM_shaBlock_b293 (hW.of (by decide)) (by assumption)) (fM_shaBlock_b293 (hW.of (by decide)) (by assumption)))))
def wM_shaBlock_s172 : List Nat := [159]
theorem fM_shaBlock_s172 {W : List Nat} {t0 : moS} {t : moS} {a2 : Int32} {a3 : Int32} {a4 : Int32} {a5 : Int32} {a6 : Int32} {a7 : Int32} (hW : sbs wM_shaBlock_s172 W) (h : mfr W t0 t) : aw (M_shaBlock_s172 t a2 a3 a4 a5 a6 a7) (Sum.elim (fun z => (fun z => (fun z => (fun z => (fun z => (fun z => (mfr W t0) z.2) z.2) z.2) z.2) z.2) z.2) (mfr W t0)) := by
  unfold M_shaBlock_s172
  exact (aw_if (aw_if (fM_shaBlock_b249 (hW.of (by decide)) (by assumption)) (aw_if (fM_shaBlock_b249 (hW.of (by decide)) (by assumption)) (aw_if (fM_shaBlock_b249 (hW.of (by decide)) (by assumption)) (fM_shaBlock_b249 (hW.of (by decide)) (by assumption))))) (aw_xo (aw_bind aw_t (fun _ h => (aw_bind (aw_wrI (hW.m (by decide)) (by assumption)) (fun _ h => (aw_bind aw_t (fun _ h => (aw_bind (aw_wrI (hW.m (by decide)) (by assumption)) (fun _ h => (aw_bind aw_t (fun _ h => (aw_bind (aw_wrI (hW.m (by decide)) (by assumption)) (fun _ h => (aw_bind aw_t (fun _ h => (aw_bind (aw_wrI (hW.m (by decide)) (by assumption)) (fun _ h => (aw_bind aw_t (fun _ h => (aw_bind (aw_wrI (hW.m (by decide)) (by assumption)) (fun _ h => (aw_some (by first | assumption | trivial | exact True.intro))))))))))))))))))))))))
