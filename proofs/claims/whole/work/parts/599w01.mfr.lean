/-! What the model's functions leave as it was, by program. -/
def wM_shaBlock_b172 : List Nat := [159]
theorem fM_shaBlock_b172 {W : List Nat} {t0 : moS} {t : moS} {a2 : Int32} {a3 : Int32} {a4 : Int32} {a5 : Int32} {a6 : Int32} {a7 : Int32} (hW : sbs wM_shaBlock_b172 W) (h : mfr W t0 t) : aw (M_shaBlock_b172 t a2 a3 a4 a5 a6 a7) (mfr W t0) := by
  unfold M_shaBlock_b172
  refine aw_lp (I := (fun z => (fun z => (fun z => (fun z => (fun z => (fun z => (mfr W t0) z.2) z.2) z.2) z.2) z.2) z.2)) ?_ ?_
  · exact h
  · intro y hy
    exact (fM_shaBlock_s172 (hW.of (by decide)) hy)
def wM_shaBlock_s71 : List Nat := [158, 159]
theorem fM_shaBlock_s71 {W : List Nat} {t0 : moS} {t : moS} {a2 : Int32} (hW : sbs wM_shaBlock_s71 W) (h : mfr W t0 t) : aw (M_shaBlock_s71 t a2) (Sum.elim (fun z => (mfr W t0) z.2) (mfr W t0)) := by
  unfold M_shaBlock_s71
  exact (aw_if (aw_bind aw_t (fun _ h => (aw_bind aw_t (fun _ h => (aw_bind aw_t (fun _ h => (aw_bind aw_t (fun _ h => (aw_bind (aw_wrI (hW.m (by decide)) (by assumption)) (fun _ h => (aw_some (by first | assumption | trivial | exact True.intro)))))))))))) (aw_xo (aw_bind aw_t (fun _ h => (aw_bind aw_t (fun _ h => (aw_bind aw_t (fun _ h => (aw_bind aw_t (fun _ h => (aw_bind aw_t (fun _ h => (fM_shaBlock_b172 (hW.of (by decide)) (by assumption))))))))))))))
def wM_shaBlock_b71 : List Nat := [158, 159]
theorem fM_shaBlock_b71 {W : List Nat} {t0 : moS} {t : moS} {a2 : Int32} (hW : sbs wM_shaBlock_b71 W) (h : mfr W t0 t) : aw (M_shaBlock_b71 t a2) (mfr W t0) := by
  unfold M_shaBlock_b71
  refine aw_lp (I := (fun z => (mfr W t0) z.2)) ?_ ?_
  · exact h
  · intro y hy
    exact (fM_shaBlock_s71 (hW.of (by decide)) hy)
def wM_shaBlock_s2 : List Nat := [158, 159]
theorem fM_shaBlock_s2 {W : List Nat} {t0 : moS} {t : moS} {p1 : Int32} {a2 : Int32} (hW : sbs wM_shaBlock_s2 W) (h : mfr W t0 t) : aw (M_shaBlock_s2 t p1 a2) (Sum.elim (fun z => (mfr W t0) z.2) (mfr W t0)) := by
  unfold M_shaBlock_s2
  exact (aw_if (aw_bind aw_t (fun _ h => (aw_bind aw_t (fun _ h => (aw_bind aw_t (fun _ h => (aw_bind aw_t (fun _ h => (aw_bind (aw_wrI (hW.m (by decide)) (by assumption)) (fun _ h => (aw_some (by first | assumption | trivial | exact True.intro)))))))))))) (aw_xo (fM_shaBlock_b71 (hW.of (by decide)) (by assumption))))
def wM_shaBlock_b2 : List Nat := [158, 159]
theorem fM_shaBlock_b2 {W : List Nat} {t0 : moS} {t : moS} {p1 : Int32} {a2 : Int32} (hW : sbs wM_shaBlock_b2 W) (h : mfr W t0 t) : aw (M_shaBlock_b2 t p1 a2) (mfr W t0) := by
  unfold M_shaBlock_b2
  refine aw_lp (I := (fun z => (mfr W t0) z.2)) ?_ ?_
  · exact h
  · intro y hy
    exact (fM_shaBlock_s2 (hW.of (by decide)) hy)
def wM_shaBlock : List Nat := [158, 159]
theorem fM_shaBlock {W : List Nat} {t0 : moS} {t : moS} {p1 : Int32} (hW : sbs wM_shaBlock W) (h : mfr W t0 t) : aw (M_shaBlock t p1) (mfr W t0) := by
  unfold M_shaBlock
  exact (fM_shaBlock_b2 (hW.of (by decide)) (by assumption))
def wM_md5Block_b228 : List Nat := []
theorem fM_md5Block_b228 {W : List Nat} {t0 : moS} {t : moS} {a2 : Int32} {a3 : Int32} {a4 : Int32} {a5 : Int32} {a6 : Int32} {a7 : Int32} {u0 : Int32} (hW : sbs wM_md5Block_b228 W) (h : mfr W t0 t) : aw (M_md5Block_b228 t a2 a3 a4 a5 a6 a7 u0) (Sum.elim (fun z => (fun z => (fun z => (fun z => (fun z => (mfr W t0) z.2) z.2) z.2) z.2) z.2) (mfr W t0)) := by
  unfold M_md5Block_b228
  exact (aw_bind aw_t (fun _ h => (aw_some (by first | assumption | trivial | exact True.intro))))
def wM_md5Block_b177 : List Nat := []
theorem fM_md5Block_b177 {W : List Nat} {t0 : moS} {t : moS} {a2 : Int32} {a3 : Int32} {a4 : Int32} {a5 : Int32} {a6 : Int32} {u0 : Int32} (hW : sbs wM_md5Block_b177 W) (h : mfr W t0 t) : aw (M_md5Block_b177 t a2 a3 a4 a5 a6 u0) (Sum.elim (fun z => (fun z => (fun z => (fun z => (fun z => (mfr W t0) z.2) z.2) z.2) z.2) z.2) (mfr W t0)) := by
  unfold M_md5Block_b177
  exact (aw_if (fM_md5Block_b228 (hW.of (by decide)) (by assumption)) (aw_if (fM_md5Block_b228 (hW.of (by decide)) (by assumption)) (aw_if (fM_md5Block_b228 (hW.of (by decide)) (by assumption)) (fM_md5Block_b228 (hW.of (by decide)) (by assumption)))))
def wM_md5Block_s101 : List Nat := [159]
theorem fM_md5Block_s101 {W : List Nat} {t0 : moS} {t : moS} {a2 : Int32} {a3 : Int32} {a4 : Int32} {a5 : Int32} {a6 : Int32} (hW : sbs wM_md5Block_s101 W) (h : mfr W t0 t) : aw (M_md5Block_s101 t a2 a3 a4 a5 a6) (Sum.elim (fun z => (fun z => (fun z => (fun z => (fun z => (mfr W t0) z.2) z.2) z.2) z.2) z.2) (mfr W t0)) := by
  unfold M_md5Block_s101
  exact (aw_if (aw_if (fM_md5Block_b177 (hW.of (by decide)) (by assumption)) (aw_if (fM_md5Block_b177 (hW.of (by decide)) (by assumption)) (aw_if (fM_md5Block_b177 (hW.of (by decide)) (by assumption)) (fM_md5Block_b177 (hW.of (by decide)) (by assumption))))) (aw_xo (aw_bind aw_t (fun _ h => (aw_bind (aw_wrI (hW.m (by decide)) (by assumption)) (fun _ h => (aw_bind aw_t (fun _ h => (aw_bind (aw_wrI (hW.m (by decide)) (by assumption)) (fun _ h => (aw_bind aw_t (fun _ h => (aw_bind (aw_wrI (hW.m (by decide)) (by assumption)) (fun _ h => (aw_bind aw_t (fun _ h => (aw_bind (aw_wrI (hW.m (by decide)) (by assumption)) (fun _ h => (aw_some (by first | assumption | trivial | exact True.intro))))))))))))))))))))
def wM_md5Block_b101 : List Nat := [159]
theorem fM_md5Block_b101 {W : List Nat} {t0 : moS} {t : moS} {a2 : Int32} {a3 : Int32} {a4 : Int32} {a5 : Int32} {a6 : Int32} (hW : sbs wM_md5Block_b101 W) (h : mfr W t0 t) : aw (M_md5Block_b101 t a2 a3 a4 a5 a6) (mfr W t0) := by
  unfold M_md5Block_b101
  refine aw_lp (I := (fun z => (fun z => (fun z => (fun z => (fun z => (mfr W t0) z.2) z.2) z.2) z.2) z.2)) ?_ ?_
  · exact h
  · intro y hy
    exact (fM_md5Block_s101 (hW.of (by decide)) hy)
def wM_md5Block_s2 : List Nat := [158, 159]
theorem fM_md5Block_s2 {W : List Nat} {t0 : moS} {t : moS} {p1 : Int32} {a2 : Int32} (hW : sbs wM_md5Block_s2 W) (h : mfr W t0 t) : aw (M_md5Block_s2 t p1 a2) (Sum.elim (fun z => (mfr W t0) z.2) (mfr W t0)) := by
  unfold M_md5Block_s2
  exact (aw_if (aw_bind aw_t (fun _ h => (aw_bind aw_t (fun _ h => (aw_bind aw_t (fun _ h => (aw_bind aw_t (fun _ h => (aw_bind (aw_wrI (hW.m (by decide)) (by assumption)) (fun _ h => (aw_some (by first | assumption | trivial | exact True.intro)))))))))))) (aw_xo (aw_bind aw_t (fun _ h => (aw_bind aw_t (fun _ h => (aw_bind aw_t (fun _ h => (aw_bind aw_t (fun _ h => (fM_md5Block_b101 (hW.of (by decide)) (by assumption))))))))))))
def wM_md5Block_b2 : List Nat := [158, 159]
theorem fM_md5Block_b2 {W : List Nat} {t0 : moS} {t : moS} {p1 : Int32} {a2 : Int32} (hW : sbs wM_md5Block_b2 W) (h : mfr W t0 t) : aw (M_md5Block_b2 t p1 a2) (mfr W t0) := by
  unfold M_md5Block_b2
  refine aw_lp (I := (fun z => (mfr W t0) z.2)) ?_ ?_
  · exact h
  · intro y hy
    exact (fM_md5Block_s2 (hW.of (by decide)) hy)
def wM_md5Block : List Nat := [158, 159]
theorem fM_md5Block {W : List Nat} {t0 : moS} {t : moS} {p1 : Int32} (hW : sbs wM_md5Block W) (h : mfr W t0 t) : aw (M_md5Block t p1) (mfr W t0) := by
  unfold M_md5Block
  exact (fM_md5Block_b2 (hW.of (by decide)) (by assumption))
def wM_digest_b80 : List Nat := []
theorem fM_digest_b80 {W : List Nat} {t0 : moS} {t : moS} {p2 : Int32} {a3 : Int32} {a4 : Int32} (hW : sbs wM_digest_b80 W) (h : mfr W t0 t) : aw (M_digest_b80 t p2 a3 a4) (Sum.elim (fun z => (mfr W t0) z.2) (mfr W t0)) := by
  unfold M_digest_b80
  exact (aw_some (by first | assumption | trivial | exact True.intro))
def wM_digest_b163 : List Nat := [160]
theorem fM_digest_b163 {W : List Nat} {t0 : moS} {t : moS} {p2 : Int32} {a4 : Int32} {u1 : Int32} {u2 : Int32} (hW : sbs wM_digest_b163 W) (h : mfr W t0 t) : aw (M_digest_b163 t p2 a4 u1 u2) (Sum.elim (fun z => (mfr W t0) z.2) (mfr W t0)) := by
  unfold M_digest_b163
  exact (aw_bind (aw_wrI (hW.m (by decide)) (by assumption)) (fun _ h => (aw_some (by first | assumption | trivial | exact True.intro))))
def wM_digest_b102 : List Nat := [160]
theorem fM_digest_b102 {W : List Nat} {t0 : moS} {t : moS} {p2 : Int32} {a4 : Int32} {u0 : Int32} {u1 : Int32} (hW : sbs wM_digest_b102 W) (h : mfr W t0 t) : aw (M_digest_b102 t p2 a4 u0 u1) (Sum.elim (fun z => (mfr W t0) z.2) (mfr W t0)) := by
  unfold M_digest_b102
  exact (aw_if (aw_if (aw_bind aw_t (fun _ h => (fM_digest_b163 (hW.of (by decide)) (by assumption)))) (aw_bind aw_t (fun _ h => (fM_digest_b163 (hW.of (by decide)) (by assumption))))) (aw_xo (aw_some (by first | assumption | trivial | exact True.intro))))
def wM_digest_s89 : List Nat := [160]
theorem fM_digest_s89 {W : List Nat} {t0 : moS} {t : moS} {p2 : Int32} {a4 : Int32} (hW : sbs wM_digest_s89 W) (h : mfr W t0 t) : aw (M_digest_s89 t p2 a4) (Sum.elim (fun z => (mfr W t0) z.2) (mfr W t0)) := by
  unfold M_digest_s89
  exact (aw_if (fM_digest_b102 (hW.of (by decide)) (by assumption)) (fM_digest_b102 (hW.of (by decide)) (by assumption)))
def wM_digest_b89 : List Nat := [160]
theorem fM_digest_b89 {W : List Nat} {t0 : moS} {t : moS} {p2 : Int32} {a4 : Int32} (hW : sbs wM_digest_b89 W) (h : mfr W t0 t) : aw (M_digest_b89 t p2 a4) (mfr W t0) := by
  unfold M_digest_b89
  refine aw_lp (I := (fun z => (mfr W t0) z.2)) ?_ ?_
  · exact h
  · intro y hy
    exact (fM_digest_s89 (hW.of (by decide)) hy)
def wM_digest_s55 : List Nat := [158, 159, 160]
theorem fM_digest_s55 {W : List Nat} {t0 : moS} {t : moS} {p2 : Int32} {a3 : Int32} {a4 : Int32} (hW : sbs wM_digest_s55 W) (h : mfr W t0 t) : aw (M_digest_s55 t p2 a3 a4) (Sum.elim (fun z => (mfr W t0) z.2) (mfr W t0)) := by
  unfold M_digest_s55
  exact (aw_if (aw_if (aw_bind (fM_md5Block (hW.of (by decide)) (by assumption)) (fun _ h => (fM_digest_b80 (hW.of (by decide)) (by assumption)))) (aw_bind (fM_shaBlock (hW.of (by decide)) (by assumption)) (fun _ h => (fM_digest_b80 (hW.of (by decide)) (by assumption))))) (aw_xo (fM_digest_b89 (hW.of (by decide)) (by assumption))))
def wM_digest_b55 : List Nat := [158, 159, 160]
theorem fM_digest_b55 {W : List Nat} {t0 : moS} {t : moS} {p2 : Int32} {a3 : Int32} {a4 : Int32} (hW : sbs wM_digest_b55 W) (h : mfr W t0 t) : aw (M_digest_b55 t p2 a3 a4) (mfr W t0) := by
  unfold M_digest_b55
  refine aw_lp (I := (fun z => (mfr W t0) z.2)) ?_ ?_
  · exact h
  · intro y hy
    exact (fM_digest_s55 (hW.of (by decide)) hy)
def wM_digest : List Nat := [157, 158, 159, 160]
theorem fM_digest {W : List Nat} {t0 : moS} {t : moS} {p1 : Int32} {p2 : Int32} (hW : sbs wM_digest W) (h : mfr W t0 t) : aw (M_digest t p1 p2) (mfr W t0) := by
  unfold M_digest
  exact (aw_bind (aw_wrI (hW.m (by decide)) (by assumption)) (fun _ h => (aw_bind (aw_wrI (hW.m (by decide)) (by assumption)) (fun _ h => (aw_bind (aw_wrI (hW.m (by decide)) (by assumption)) (fun _ h => (aw_bind (aw_wrI (hW.m (by decide)) (by assumption)) (fun _ h => (aw_bind (aw_wrI (hW.m (by decide)) (by assumption)) (fun _ h => (aw_bn2 (fM_pad (hW.of (by decide)) (by assumption)) (fun _ _ h => (fM_digest_b55 (hW.of (by decide)) (by assumption))))))))))))))
def wM_sumOf_s38 : List Nat := [157, 158, 159, 160]
theorem fM_sumOf_s38 {W : List Nat} {t0 : moS} {t : moS} {p1 : Int32} {p3 : Int32} {a4 : Int32} (hW : sbs wM_sumOf_s38 W) (h : mfr W t0 t) : aw (M_sumOf_s38 t p1 p3 a4) (Sum.elim (fun z => (mfr W t0) z.2) (mfr W t0)) := by
  unfold M_sumOf_s38
  exact (aw_if (aw_bind aw_t (fun _ h => (aw_bind (aw_wrI (hW.m (by decide)) (by assumption)) (fun _ h => (aw_some (by first | assumption | trivial | exact True.intro)))))) (aw_xo (aw_bind (fM_digest (hW.of (by decide)) (by assumption)) (fun _ h => (aw_some (by first | assumption | trivial | exact True.intro))))))
def wM_sumOf_b38 : List Nat := [157, 158, 159, 160]
theorem fM_sumOf_b38 {W : List Nat} {t0 : moS} {t : moS} {p1 : Int32} {p3 : Int32} {a4 : Int32} (hW : sbs wM_sumOf_b38 W) (h : mfr W t0 t) : aw (M_sumOf_b38 t p1 p3 a4) (mfr W t0) := by
  unfold M_sumOf_b38
  refine aw_lp (I := (fun z => (mfr W t0) z.2)) ?_ ?_
  · exact h
  · intro y hy
    exact (fM_sumOf_s38 (hW.of (by decide)) hy)
def wM_sumOf_s12 : List Nat := [157, 158, 159, 160]
theorem fM_sumOf_s12 {W : List Nat} {t0 : moS} {t : moS} {p1 : Int32} {p2 : Nat} {p3 : Int32} {a4 : Int32} (hW : sbs wM_sumOf_s12 W) (h : mfr W t0 t) : aw (M_sumOf_s12 t p1 p2 p3 a4) (Sum.elim (fun z => (mfr W t0) z.2) (mfr W t0)) := by
  unfold M_sumOf_s12
  exact (aw_if (aw_bind aw_t (fun _ h => (aw_bind (aw_wrI (hW.m (by decide)) (by assumption)) (fun _ h => (aw_some (by first | assumption | trivial | exact True.intro)))))) (aw_xo (fM_sumOf_b38 (hW.of (by decide)) (by assumption))))
def wM_sumOf_b12 : List Nat := [157, 158, 159, 160]
theorem fM_sumOf_b12 {W : List Nat} {t0 : moS} {t : moS} {p1 : Int32} {p2 : Nat} {p3 : Int32} {a4 : Int32} (hW : sbs wM_sumOf_b12 W) (h : mfr W t0 t) : aw (M_sumOf_b12 t p1 p2 p3 a4) (mfr W t0) := by
  unfold M_sumOf_b12
  refine aw_lp (I := (fun z => (mfr W t0) z.2)) ?_ ?_
  · exact h
  · intro y hy
    exact (fM_sumOf_s12 (hW.of (by decide)) hy)
def wM_sumOf_s184 : List Nat := [157, 158, 159, 160]
theorem fM_sumOf_s184 {W : List Nat} {t0 : moS} {t : moS} {a4 : Int32} (hW : sbs wM_sumOf_s184 W) (h : mfr W t0 t) : aw (M_sumOf_s184 t a4) (Sum.elim (fun z => (mfr W t0) z.2) (mfr W t0)) := by
  unfold M_sumOf_s184
  exact (aw_if (aw_bind aw_t (fun _ h => (aw_bind (aw_wrI (hW.m (by decide)) (by assumption)) (fun _ h => (aw_some (by first | assumption | trivial | exact True.intro)))))) (aw_xo (aw_bind (fM_digest (hW.of (by decide)) (by assumption)) (fun _ h => (aw_some (by first | assumption | trivial | exact True.intro))))))
def wM_sumOf_b184 : List Nat := [157, 158, 159, 160]
theorem fM_sumOf_b184 {W : List Nat} {t0 : moS} {t : moS} {a4 : Int32} (hW : sbs wM_sumOf_b184 W) (h : mfr W t0 t) : aw (M_sumOf_b184 t a4) (mfr W t0) := by
  unfold M_sumOf_b184
  refine aw_lp (I := (fun z => (mfr W t0) z.2)) ?_ ?_
  · exact h
  · intro y hy
    exact (fM_sumOf_s184 (hW.of (by decide)) hy)
def wM_sumOf_s151 : List Nat := [157, 158, 159, 160]
theorem fM_sumOf_s151 {W : List Nat} {t0 : moS} {t : moS} {p1 : Int32} {a4 : Int32} (hW : sbs wM_sumOf_s151 W) (h : mfr W t0 t) : aw (M_sumOf_s151 t p1 a4) (Sum.elim (fun z => (mfr W t0) z.2) (mfr W t0)) := by
  unfold M_sumOf_s151
  exact (aw_if (aw_bind aw_t (fun _ h => (aw_bind (aw_wrI (hW.m (by decide)) (by assumption)) (fun _ h => (aw_some (by first | assumption | trivial | exact True.intro)))))) (aw_xo (fM_sumOf_b184 (hW.of (by decide)) (by assumption))))
def wM_sumOf_b151 : List Nat := [157, 158, 159, 160]
theorem fM_sumOf_b151 {W : List Nat} {t0 : moS} {t : moS} {p1 : Int32} {a4 : Int32} (hW : sbs wM_sumOf_b151 W) (h : mfr W t0 t) : aw (M_sumOf_b151 t p1 a4) (mfr W t0) := by
  unfold M_sumOf_b151
  refine aw_lp (I := (fun z => (mfr W t0) z.2)) ?_ ?_
  · exact h
  · intro y hy
    exact (fM_sumOf_s151 (hW.of (by decide)) hy)
def wM_sumOf_s113 : List Nat := [157, 158, 159, 160]
theorem fM_sumOf_s113 {W : List Nat} {t0 : moS} {t : moS} {p1 : Int32} {p2 : Nat} {p3 : Int32} {a4 : Int32} (hW : sbs wM_sumOf_s113 W) (h : mfr W t0 t) : aw (M_sumOf_s113 t p1 p2 p3 a4) (Sum.elim (fun z => (mfr W t0) z.2) (mfr W t0)) := by
  unfold M_sumOf_s113
  exact (aw_if (aw_bind aw_t (fun _ h => (aw_bind (aw_wrI (hW.m (by decide)) (by assumption)) (fun _ h => (aw_some (by first | assumption | trivial | exact True.intro)))))) (aw_xo (aw_bind (fM_digest (hW.of (by decide)) (by assumption)) (fun _ h => (fM_sumOf_b151 (hW.of (by decide)) (by assumption))))))
def wM_sumOf_b113 : List Nat := [157, 158, 159, 160]
theorem fM_sumOf_b113 {W : List Nat} {t0 : moS} {t : moS} {p1 : Int32} {p2 : Nat} {p3 : Int32} {a4 : Int32} (hW : sbs wM_sumOf_b113 W) (h : mfr W t0 t) : aw (M_sumOf_b113 t p1 p2 p3 a4) (mfr W t0) := by
  unfold M_sumOf_b113
  refine aw_lp (I := (fun z => (mfr W t0) z.2)) ?_ ?_
  · exact h
  · intro y hy
    exact (fM_sumOf_s113 (hW.of (by decide)) hy)
def wM_sumOf_s80 : List Nat := [157, 158, 159, 160]
theorem fM_sumOf_s80 {W : List Nat} {t0 : moS} {t : moS} {p1 : Int32} {p2 : Nat} {p3 : Int32} {a4 : Int32} (hW : sbs wM_sumOf_s80 W) (h : mfr W t0 t) : aw (M_sumOf_s80 t p1 p2 p3 a4) (Sum.elim (fun z => (mfr W t0) z.2) (mfr W t0)) := by
  unfold M_sumOf_s80
  exact (aw_if (aw_bind aw_t (fun _ h => (aw_bind (aw_wrI (hW.m (by decide)) (by assumption)) (fun _ h => (aw_some (by first | assumption | trivial | exact True.intro)))))) (aw_xo (fM_sumOf_b113 (hW.of (by decide)) (by assumption))))
def wM_sumOf_b80 : List Nat := [157, 158, 159, 160]
theorem fM_sumOf_b80 {W : List Nat} {t0 : moS} {t : moS} {p1 : Int32} {p2 : Nat} {p3 : Int32} {a4 : Int32} (hW : sbs wM_sumOf_b80 W) (h : mfr W t0 t) : aw (M_sumOf_b80 t p1 p2 p3 a4) (mfr W t0) := by
  unfold M_sumOf_b80
  refine aw_lp (I := (fun z => (mfr W t0) z.2)) ?_ ?_
  · exact h
  · intro y hy
    exact (fM_sumOf_s80 (hW.of (by decide)) hy)
def wM_sumOf : List Nat := [157, 158, 159, 160]
theorem fM_sumOf {W : List Nat} {t0 : moS} {t : moS} {p1 : Int32} {p2 : Nat} {p3 : Int32} (hW : sbs wM_sumOf W) (h : mfr W t0 t) : aw (M_sumOf t p1 p2 p3) (mfr W t0) := by
  unfold M_sumOf
  exact (aw_bind aw_t (fun _ h => (aw_if (fM_sumOf_b12 (hW.of (by decide)) (by assumption)) (fM_sumOf_b80 (hW.of (by decide)) (by assumption)))))
def wM_wrap_b438 : List Nat := [148]
theorem fM_wrap_b438 {W : List Nat} {t0 : moS} {t : moS} {u1 : Int32} {u2 : Int32} (hW : sbs wM_wrap_b438 W) (h : mfr W t0 t) : aw (M_wrap_b438 t u1 u2) (fun z => (mfr W t0) z.2) := by
  unfold M_wrap_b438
  exact (aw_let (mfr.tr (by assumption) (mfr.ss (hW.m (by decide)))) (fun _ h => (aw_some (by first | assumption | trivial | exact True.intro))))
def wM_wrap_s382 : List Nat := [147, 148]
theorem fM_wrap_s382 {W : List Nat} {t0 : moS} {t : moS} {a6 : Int32} {a7 : Int32} {a8 : Int32} (hW : sbs wM_wrap_s382 W) (h : mfr W t0 t) : aw (M_wrap_s382 t a6 a7 a8) (Sum.elim (fun z => (mfr W t0) z.2) (fun z => (mfr W t0) z.2)) := by
  unfold M_wrap_s382
  exact (aw_if (aw_bind aw_t (fun _ h => (aw_bind (aw_wrI (hW.m (by decide)) (by assumption)) (fun _ h => (aw_some (by first | assumption | trivial | exact True.intro)))))) (aw_xo (aw_bind aw_t (fun _ h => (aw_if (fM_wrap_b438 (hW.of (by decide)) (by assumption)) (fM_wrap_b438 (hW.of (by decide)) (by assumption)))))))
def wM_wrap_b382 : List Nat := [147, 148]
theorem fM_wrap_b382 {W : List Nat} {t0 : moS} {t : moS} {a6 : Int32} {a7 : Int32} {a8 : Int32} (hW : sbs wM_wrap_b382 W) (h : mfr W t0 t) : aw (M_wrap_b382 t a6 a7 a8) (fun z => (mfr W t0) z.2) := by
  unfold M_wrap_b382
  refine aw_lp (I := (fun z => (mfr W t0) z.2)) ?_ ?_
  · exact h
  · intro y hy
    exact (fM_wrap_s382 (hW.of (by decide)) hy)
def wM_wrap_b268 : List Nat := [89, 147, 148, 157, 158, 159, 160]
theorem fM_wrap_b268 {W : List Nat} {t0 : moS} {t : moS} {p1 : Int32} {a6 : Int32} {u0 : Int32} (hW : sbs wM_wrap_b268 W) (h : mfr W t0 t) : aw (M_wrap_b268 t p1 a6 u0) (fun z => (mfr W t0) z.2) := by
  unfold M_wrap_b268
  exact (aw_bind (fM_put2 (hW.of (by decide)) (hW.m (by decide)) (by assumption)) (fun _ h => (aw_bind aw_t (fun _ h => (aw_bind (aw_wrI (hW.m (by decide)) (by assumption)) (fun _ h => (aw_bind (aw_wrI (hW.m (by decide)) (by assumption)) (fun _ h => (aw_bind aw_t (fun _ h => (aw_bind (fM_put4 (hW.of (by decide)) (hW.m (by decide)) (by assumption)) (fun _ h => (aw_bind aw_t (fun _ h => (aw_bind (aw_wrI (hW.m (by decide)) (by assumption)) (fun _ h => (aw_bind (fM_put2 (hW.of (by decide)) (hW.m (by decide)) (by assumption)) (fun _ h => (aw_bind (fM_put2 (hW.of (by decide)) (hW.m (by decide)) (by assumption)) (fun _ h => (aw_bind (fM_sumOf (hW.of (by decide)) (by assumption)) (fun _ h => (fM_wrap_b382 (hW.of (by decide)) (by assumption))))))))))))))))))))))))
def wM_wrap_s194 : List Nat := [89, 147, 148, 157, 158, 159, 160]
theorem fM_wrap_s194 {W : List Nat} {t0 : moS} {t : moS} {p1 : Int32} {p4 : Int32} {a5 : Int32} {a6 : Int32} {a7 : Int32} (hW : sbs wM_wrap_s194 W) (h : mfr W t0 t) : aw (M_wrap_s194 t p1 p4 a5 a6 a7) (Sum.elim (fun z => (mfr W t0) z.2) (fun z => (mfr W t0) z.2)) := by
  unfold M_wrap_s194
  exact (aw_if (aw_bind aw_t (fun _ h => (aw_bind (aw_wrI (hW.m (by decide)) (by assumption)) (fun _ h => (aw_some (by first | assumption | trivial | exact True.intro)))))) (aw_xo (aw_let (mfr.tr (by assumption) (mfr.ss (hW.m (by decide)))) (fun _ h => (aw_if (aw_some (by first | assumption | trivial | exact True.intro)) (aw_bind aw_t (fun _ h => (aw_if (fM_wrap_b268 (hW.of (by decide)) (by assumption)) (fM_wrap_b268 (hW.of (by decide)) (by assumption))))))))))
def wM_wrap_b194 : List Nat := [89, 147, 148, 157, 158, 159, 160]
theorem fM_wrap_b194 {W : List Nat} {t0 : moS} {t : moS} {p1 : Int32} {p4 : Int32} {a5 : Int32} {a6 : Int32} {a7 : Int32} (hW : sbs wM_wrap_b194 W) (h : mfr W t0 t) : aw (M_wrap_b194 t p1 p4 a5 a6 a7) (fun z => (mfr W t0) z.2) := by
  unfold M_wrap_b194
  refine aw_lp (I := (fun z => (mfr W t0) z.2)) ?_ ?_
  · exact h
  · intro y hy
    exact (fM_wrap_s194 (hW.of (by decide)) hy)
def wM_wrap_b191 : List Nat := [89, 147, 148, 157, 158, 159, 160]
theorem fM_wrap_b191 {W : List Nat} {t0 : moS} {t : moS} {p1 : Int32} {p4 : Int32} {a5 : Int32} {a6 : Int32} (hW : sbs wM_wrap_b191 W) (h : mfr W t0 t) : aw (M_wrap_b191 t p1 p4 a5 a6) (fun z => (mfr W t0) z.2) := by
  unfold M_wrap_b191
  exact (fM_wrap_b194 (hW.of (by decide)) (by assumption))
def wM_wrap_s152 : List Nat := [89, 147, 148, 157, 158, 159, 160]
theorem fM_wrap_s152 {W : List Nat} {t0 : moS} {t : moS} {p1 : Int32} {p4 : Int32} {a5 : Int32} {a6 : Int32} {a7 : Int32} (hW : sbs wM_wrap_s152 W) (h : mfr W t0 t) : aw (M_wrap_s152 t p1 p4 a5 a6 a7) (Sum.elim (fun z => (mfr W t0) z.2) (fun z => (mfr W t0) z.2)) := by
  unfold M_wrap_s152
  exact (aw_bind aw_t (fun _ h => (aw_if (aw_bind aw_t (fun _ h => (aw_bind (aw_wrI (hW.m (by decide)) (by assumption)) (fun _ h => (aw_some (by first | assumption | trivial | exact True.intro)))))) (aw_xo (fM_wrap_b191 (hW.of (by decide)) (by assumption))))))
def wM_wrap_b152 : List Nat := [89, 147, 148, 157, 158, 159, 160]
theorem fM_wrap_b152 {W : List Nat} {t0 : moS} {t : moS} {p1 : Int32} {p4 : Int32} {a5 : Int32} {a6 : Int32} {a7 : Int32} (hW : sbs wM_wrap_b152 W) (h : mfr W t0 t) : aw (M_wrap_b152 t p1 p4 a5 a6 a7) (fun z => (mfr W t0) z.2) := by
  unfold M_wrap_b152
  refine aw_lp (I := (fun z => (mfr W t0) z.2)) ?_ ?_
  · exact h
  · intro y hy
    exact (fM_wrap_s152 (hW.of (by decide)) hy)
def wM_wrap_b143 : List Nat := [89, 147, 148, 157, 158, 159, 160]
theorem fM_wrap_b143 {W : List Nat} {t0 : moS} {t : moS} {p1 : Int32} {p4 : Int32} {a5 : Int32} {a6 : Int32} (hW : sbs wM_wrap_b143 W) (h : mfr W t0 t) : aw (M_wrap_b143 t p1 p4 a5 a6) (fun z => (mfr W t0) z.2) := by
  unfold M_wrap_b143
  exact (aw_if (fM_wrap_b152 (hW.of (by decide)) (by assumption)) (fM_wrap_b191 (hW.of (by decide)) (by assumption)))
def wM_wrap_b134 : List Nat := [89, 147, 148, 157, 158, 159, 160]
theorem fM_wrap_b134 {W : List Nat} {t0 : moS} {t : moS} {p1 : Int32} {p4 : Int32} {a5 : Int32} {a6 : Int32} {u2 : Int32} {u3 : Int32} (hW : sbs wM_wrap_b134 W) (h : mfr W t0 t) : aw (M_wrap_b134 t p1 p4 a5 a6 u2 u3) (fun z => (mfr W t0) z.2) := by
  unfold M_wrap_b134
  exact (aw_bind (fM_put2 (hW.of (by decide)) (hW.m (by decide)) (by assumption)) (fun _ h => (aw_let (mfr.tr (by assumption) (mfr.ss (hW.m (by decide)))) (fun _ h => (fM_wrap_b143 (hW.of (by decide)) (by assumption))))))
def wM_wrap_b99 : List Nat := [89, 147, 148, 157, 158, 159, 160]
theorem fM_wrap_b99 {W : List Nat} {t0 : moS} {t : moS} {p1 : Int32} {p4 : Int32} {a5 : Int32} {a6 : Int32} (hW : sbs wM_wrap_b99 W) (h : mfr W t0 t) : aw (M_wrap_b99 t p1 p4 a5 a6) (fun z => (mfr W t0) z.2) := by
  unfold M_wrap_b99
  exact (aw_if (aw_bind (fM_put2 (hW.of (by decide)) (hW.m (by decide)) (by assumption)) (fun _ h => (aw_if (fM_wrap_b134 (hW.of (by decide)) (by assumption)) (fM_wrap_b134 (hW.of (by decide)) (by assumption))))) (fM_wrap_b143 (hW.of (by decide)) (by assumption)))
def wM_wrap_b83 : List Nat := [89, 147, 148, 157, 158, 159, 160]
theorem fM_wrap_b83 {W : List Nat} {t0 : moS} {t : moS} {p1 : Int32} {p4 : Int32} {a5 : Int32} {u0 : Int32} (hW : sbs wM_wrap_b83 W) (h : mfr W t0 t) : aw (M_wrap_b83 t p1 p4 a5 u0) (fun z => (mfr W t0) z.2) := by
  unfold M_wrap_b83
  exact (aw_if (aw_if (aw_some (by first | assumption | trivial | exact True.intro)) (fM_wrap_b99 (hW.of (by decide)) (by assumption))) (fM_wrap_b99 (hW.of (by decide)) (by assumption)))
def wM_wrap_b66 : List Nat := [89, 147, 148, 157, 158, 159, 160]
theorem fM_wrap_b66 {W : List Nat} {t0 : moS} {t : moS} {p1 : Int32} {p4 : Int32} {u0 : Int32} (hW : sbs wM_wrap_b66 W) (h : mfr W t0 t) : aw (M_wrap_b66 t p1 p4 u0) (fun z => (mfr W t0) z.2) := by
  unfold M_wrap_b66
  exact (aw_if (aw_bind aw_t (fun _ h => (fM_wrap_b83 (hW.of (by decide)) (by assumption)))) (fM_wrap_b83 (hW.of (by decide)) (by assumption)))
def wM_wrap_b46 : List Nat := [89, 147, 148, 157, 158, 159, 160]
theorem fM_wrap_b46 {W : List Nat} {t0 : moS} {t : moS} {p1 : Int32} {p2 : Int32} {p4 : Int32} {u1 : Int32} {u2 : Int32} (hW : sbs wM_wrap_b46 W) (h : mfr W t0 t) : aw (M_wrap_b46 t p1 p2 p4 u1 u2) (fun z => (mfr W t0) z.2) := by
  unfold M_wrap_b46
  exact (aw_bind (aw_wrI (hW.m (by decide)) (by assumption)) (fun _ h => (aw_let (mfr.tr (by assumption) (mfr.ss (hW.m (by decide)))) (fun _ h => (aw_if (aw_bind aw_t (fun _ h => (fM_wrap_b66 (hW.of (by decide)) (by assumption)))) (fM_wrap_b66 (hW.of (by decide)) (by assumption)))))))
def wM_wrap_s3 : List Nat := [89, 147, 148, 157, 158, 159, 160]
theorem fM_wrap_s3 {W : List Nat} {t0 : moS} {t : moS} {p1 : Int32} {p2 : Int32} {p3 : Int32} {p4 : Int32} {a5 : Int32} (hW : sbs wM_wrap_s3 W) (h : mfr W t0 t) : aw (M_wrap_s3 t p1 p2 p3 p4 a5) (Sum.elim (fun z => (mfr W t0) z.2) (fun z => (mfr W t0) z.2)) := by
  unfold M_wrap_s3
  exact (aw_if (aw_bind (aw_wrI (hW.m (by decide)) (by assumption)) (fun _ h => (aw_some (by first | assumption | trivial | exact True.intro)))) (aw_xo (aw_bind (aw_wrI (hW.m (by decide)) (by assumption)) (fun _ h => (aw_if (fM_wrap_b46 (hW.of (by decide)) (by assumption)) (fM_wrap_b46 (hW.of (by decide)) (by assumption)))))))
def wM_wrap_b3 : List Nat := [89, 147, 148, 157, 158, 159, 160]
theorem fM_wrap_b3 {W : List Nat} {t0 : moS} {t : moS} {p1 : Int32} {p2 : Int32} {p3 : Int32} {p4 : Int32} {a5 : Int32} (hW : sbs wM_wrap_b3 W) (h : mfr W t0 t) : aw (M_wrap_b3 t p1 p2 p3 p4 a5) (fun z => (mfr W t0) z.2) := by
  unfold M_wrap_b3
  refine aw_lp (I := (fun z => (mfr W t0) z.2)) ?_ ?_
  · exact h
  · intro y hy
    exact (fM_wrap_s3 (hW.of (by decide)) hy)
def wM_wrap : List Nat := [89, 147, 148, 157, 158, 159, 160]
theorem fM_wrap {W : List Nat} {t0 : moS} {t : moS} {p1 : Int32} {p2 : Int32} {p3 : Int32} {p4 : Int32} (hW : sbs wM_wrap W) (h : mfr W t0 t) : aw (M_wrap t p1 p2 p3 p4) (fun z => (mfr W t0) z.2) := by
  unfold M_wrap
  exact (fM_wrap_b3 (hW.of (by decide)) (by assumption))
def wM_go_s288 : List Nat := [138]
theorem fM_go_s288 {W : List Nat} {t0 : moS} {t : moS} {a17 : Int32} {a18 : Int32} (hW : sbs wM_go_s288 W) (h : mfr W t0 t) : aw (M_go_s288 t a17 a18) (Sum.elim (fun z => (mfr W t0) z.2) (mfr W t0)) := by
  unfold M_go_s288
  exact (aw_if (aw_bind aw_t (fun _ h => (aw_bind (aw_wrI (hW.m (by decide)) (by assumption)) (fun _ h => (aw_some (by first | assumption | trivial | exact True.intro)))))) (aw_xo (aw_some (by first | assumption | trivial | exact True.intro))))
def wM_go_b288 : List Nat := [138]
theorem fM_go_b288 {W : List Nat} {t0 : moS} {t : moS} {a17 : Int32} {a18 : Int32} (hW : sbs wM_go_b288 W) (h : mfr W t0 t) : aw (M_go_b288 t a17 a18) (mfr W t0) := by
  unfold M_go_b288
  refine aw_lp (I := (fun z => (mfr W t0) z.2)) ?_ ?_
  · exact h
  · intro y hy
    exact (fM_go_s288 (hW.of (by decide)) hy)
def wM_go_s105 : List Nat := [123, 124, 125, 126, 127, 128, 129, 130, 131, 132, 133, 134, 135, 136, 137, 138]
theorem fM_go_s105 {W : List Nat} {t0 : moS} {t : moS} {p1 : Int32} {p2 : Int32} {p3 : Int32} {p4 : Int64} {p6 : Int64} {p8 : Int32} {p9 : Int64} {p11 : Int64} {p13 : Int32} {p14 : Int32} {a16 : Int32} {a17 : Int32} (hW : sbs wM_go_s105 W) (h : mfr W t0 t) : aw (M_go_s105 t p1 p2 p3 p4 p6 p8 p9 p11 p13 p14 a16 a17) (Sum.elim (fun z => (mfr W t0) z.2) (mfr W t0)) := by
  unfold M_go_s105
  exact (aw_bind aw_t (fun _ h => (aw_if (aw_xo (aw_bind (aw_wrZ (hW.m (by decide)) (by assumption)) (fun _ h => (aw_bind (aw_wrI (hW.m (by decide)) (by assumption)) (fun _ h => (aw_let (mfr.tr (by assumption) (mfr.ss (hW.m (by decide)))) (fun _ h => (aw_bind (aw_wrI (hW.m (by decide)) (by assumption)) (fun _ h => (aw_bind (aw_wrI (hW.m (by decide)) (by assumption)) (fun _ h => (aw_bind (aw_wrZ (hW.m (by decide)) (by assumption)) (fun _ h => (aw_bind (aw_wrJ (hW.m (by decide)) (by assumption)) (fun _ h => (aw_bind (aw_wrJ (hW.m (by decide)) (by assumption)) (fun _ h => (aw_bind (aw_wrI (hW.m (by decide)) (by assumption)) (fun _ h => (aw_bind (aw_wrJ (hW.m (by decide)) (by assumption)) (fun _ h => (aw_bind (aw_wrJ (hW.m (by decide)) (by assumption)) (fun _ h => (aw_bind (aw_wrI (hW.m (by decide)) (by assumption)) (fun _ h => (aw_bind (aw_wrI (hW.m (by decide)) (by assumption)) (fun _ h => (aw_bind aw_t (fun _ h => (aw_bind aw_t (fun _ h => (aw_nzL (aw_bind (aw_wrI (hW.m (by decide)) (by assumption)) (fun _ h => (aw_bind (aw_wrI (hW.m (by decide)) (by assumption)) (fun _ h => (fM_go_b288 (hW.of (by decide)) (by assumption)))))))))))))))))))))))))))))))))))))) (aw_some (by first | assumption | trivial | exact True.intro)))))
def wM_go_b105 : List Nat := [123, 124, 125, 126, 127, 128, 129, 130, 131, 132, 133, 134, 135, 136, 137, 138]
theorem fM_go_b105 {W : List Nat} {t0 : moS} {t : moS} {p1 : Int32} {p2 : Int32} {p3 : Int32} {p4 : Int64} {p6 : Int64} {p8 : Int32} {p9 : Int64} {p11 : Int64} {p13 : Int32} {p14 : Int32} {a16 : Int32} {a17 : Int32} (hW : sbs wM_go_b105 W) (h : mfr W t0 t) : aw (M_go_b105 t p1 p2 p3 p4 p6 p8 p9 p11 p13 p14 a16 a17) (mfr W t0) := by
  unfold M_go_b105
  refine aw_lp (I := (fun z => (mfr W t0) z.2)) ?_ ?_
  · exact h
  · intro y hy
    exact (fM_go_s105 (hW.of (by decide)) hy)
def wM_go_b102 : List Nat := [123, 124, 125, 126, 127, 128, 129, 130, 131, 132, 133, 134, 135, 136, 137, 138]
theorem fM_go_b102 {W : List Nat} {t0 : moS} {t : moS} {p1 : Int32} {p2 : Int32} {p3 : Int32} {p4 : Int64} {p6 : Int64} {p8 : Int32} {p9 : Int64} {p11 : Int64} {p13 : Int32} {p14 : Int32} {a16 : Int32} (hW : sbs wM_go_b102 W) (h : mfr W t0 t) : aw (M_go_b102 t p1 p2 p3 p4 p6 p8 p9 p11 p13 p14 a16) (mfr W t0) := by
  unfold M_go_b102
  exact (fM_go_b105 (hW.of (by decide)) (by assumption))
def wM_go_s31 : List Nat := [24, 26, 123, 124, 125, 126, 127, 128, 129, 130, 131, 132, 133, 134, 135, 136, 137, 138]
theorem fM_go_s31 {W : List Nat} {t0 : moS} {t : moS} {p1 : Int32} {p2 : Int32} {p3 : Int32} {p4 : Int64} {p6 : Int64} {p8 : Int32} {p9 : Int64} {p11 : Int64} {p13 : Int32} {p14 : Int32} {p15 : Int32} {a16 : Int32} {a17 : Int32} (hW : sbs wM_go_s31 W) (h : mfr W t0 t) : aw (M_go_s31 t p1 p2 p3 p4 p6 p8 p9 p11 p13 p14 p15 a16 a17) (Sum.elim (fun z => (mfr W t0) z.2) (mfr W t0)) := by
  unfold M_go_s31
  exact (aw_if (aw_bind aw_t (fun _ h => (aw_bind (aw_wrI (hW.m (by decide)) (by assumption)) (fun _ h => (aw_some (by first | assumption | trivial | exact True.intro)))))) (aw_xo (aw_if (aw_some (by first | assumption | trivial | exact True.intro)) (aw_if (fM_go_b102 (hW.of (by decide)) (by assumption)) (aw_bind aw_t (fun _ h => (aw_if (aw_bind aw_t (fun _ h => (aw_bind (aw_wrI (hW.m (by decide)) (by assumption)) (fun _ h => (aw_some (by first | assumption | trivial | exact True.intro)))))) (fM_go_b102 (hW.of (by decide)) (by assumption)))))))))
def wM_go_b31 : List Nat := [24, 26, 123, 124, 125, 126, 127, 128, 129, 130, 131, 132, 133, 134, 135, 136, 137, 138]
theorem fM_go_b31 {W : List Nat} {t0 : moS} {t : moS} {p1 : Int32} {p2 : Int32} {p3 : Int32} {p4 : Int64} {p6 : Int64} {p8 : Int32} {p9 : Int64} {p11 : Int64} {p13 : Int32} {p14 : Int32} {p15 : Int32} {a16 : Int32} {a17 : Int32} (hW : sbs wM_go_b31 W) (h : mfr W t0 t) : aw (M_go_b31 t p1 p2 p3 p4 p6 p8 p9 p11 p13 p14 p15 a16 a17) (mfr W t0) := by
  unfold M_go_b31
  refine aw_lp (I := (fun z => (mfr W t0) z.2)) ?_ ?_
  · exact h
  · intro y hy
    exact (fM_go_s31 (hW.of (by decide)) hy)
def wM_go : List Nat := [23, 24, 25, 26, 123, 124, 125, 126, 127, 128, 129, 130, 131, 132, 133, 134, 135, 136, 137, 138]
theorem fM_go {W : List Nat} {t0 : moS} {t : moS} {p1 : Int32} {p2 : Int32} {p3 : Int32} {p4 : Int64} {p6 : Int64} {p8 : Int32} {p9 : Int64} {p11 : Int64} {p13 : Int32} {p14 : Int32} {p15 : Int32} (hW : sbs wM_go W) (h : mfr W t0 t) : aw (M_go t p1 p2 p3 p4 p6 p8 p9 p11 p13 p14 p15) (mfr W t0) := by
  unfold M_go
  exact (aw_bind aw_t (fun _ h => (aw_bind aw_t (fun _ h => (aw_bind (aw_wrI (hW.m (by decide)) (by assumption)) (fun _ h => (aw_bind (aw_wrI (hW.m (by decide)) (by assumption)) (fun _ h => (fM_go_b31 (hW.of (by decide)) (by assumption))))))))))
def wM_send_b93 : List Nat := [23, 24, 25, 26, 123, 124, 125, 126, 127, 128, 129, 130, 131, 132, 133, 134, 135, 136, 137, 138]
theorem fM_send_b93 {W : List Nat} {t0 : moS} {t : moS} {u1 : Int32} {u2 : Int32} {u3 : Int32} {u4 : Int64} {u5 : Int64} {u6 : Int32} {u7 : Int64} {u8 : Int64} {u9 : Int32} (hW : sbs wM_send_b93 W) (h : mfr W t0 t) : aw (M_send_b93 t u1 u2 u3 u4 u5 u6 u7 u8 u9) (mfr W t0) := by
  unfold M_send_b93
  exact (aw_bind (fM_go (hW.of (by decide)) (by assumption)) (fun _ h => (aw_some (by first | assumption | trivial | exact True.intro))))
def wM_send : List Nat := [23, 24, 25, 26, 45, 89, 123, 124, 125, 126, 127, 128, 129, 130, 131, 132, 133, 134, 135, 136, 137, 138, 147, 148, 157, 158, 159, 160]
theorem fM_send {W : List Nat} {t0 : moS} {t : moS} {p1 : Int32} {p2 : Int32} {p3 : Int32} {p4 : Int32} {p5 : Int32} {p6 : Int64} {p8 : Int64} (hW : sbs wM_send W) (h : mfr W t0 t) : aw (M_send t p1 p2 p3 p4 p5 p6 p8) (mfr W t0) := by
  unfold M_send
  exact (aw_bind aw_t (fun _ h => (aw_bind aw_t (fun _ h => (aw_if (aw_some (by first | assumption | trivial | exact True.intro)) (aw_bn2 (fM_wrap (hW.of (by decide)) (by assumption)) (fun _ _ h => (aw_if (aw_some (by first | assumption | trivial | exact True.intro)) (aw_bind aw_t (fun _ h => (aw_bind (aw_wrI (hW.m (by decide)) (by assumption)) (fun _ h => (aw_bind aw_t (fun _ h => (aw_bind aw_t (fun _ h => (aw_bind aw_t (fun _ h => (aw_if (fM_send_b93 (hW.of (by decide)) (by assumption)) (fM_send_b93 (hW.of (by decide)) (by assumption)))))))))))))))))))))
def wM_request_s2 : List Nat := [23, 24, 25, 26, 45, 89, 123, 124, 125, 126, 127, 128, 129, 130, 131, 132, 133, 134, 135, 136, 137, 138, 146, 147, 148, 157, 158, 159, 160]
theorem fM_request_s2 {W : List Nat} {t0 : moS} {t : moS} {p1 : Int32} {p2 : Int32} {a3 : Int32} (hW : sbs wM_request_s2 W) (h : mfr W t0 t) : aw (M_request_s2 t p1 p2 a3) (Sum.elim (fun z => (mfr W t0) z.2) (mfr W t0)) := by
  unfold M_request_s2
  exact (aw_if (aw_bind (aw_wrI (hW.m (by decide)) (by assumption)) (fun _ h => (aw_some (by first | assumption | trivial | exact True.intro)))) (aw_xo (aw_bind (aw_wrI (hW.m (by decide)) (by assumption)) (fun _ h => (aw_bind (fM_send (hW.of (by decide)) (by assumption)) (fun _ h => (aw_some (by first | assumption | trivial | exact True.intro))))))))
def wM_request_b2 : List Nat := [23, 24, 25, 26, 45, 89, 123, 124, 125, 126, 127, 128, 129, 130, 131, 132, 133, 134, 135, 136, 137, 138, 146, 147, 148, 157, 158, 159, 160]
theorem fM_request_b2 {W : List Nat} {t0 : moS} {t : moS} {p1 : Int32} {p2 : Int32} {a3 : Int32} (hW : sbs wM_request_b2 W) (h : mfr W t0 t) : aw (M_request_b2 t p1 p2 a3) (mfr W t0) := by
  unfold M_request_b2
  refine aw_lp (I := (fun z => (mfr W t0) z.2)) ?_ ?_
  · exact h
  · intro y hy
    exact (fM_request_s2 (hW.of (by decide)) hy)
def wM_request : List Nat := [23, 24, 25, 26, 45, 89, 123, 124, 125, 126, 127, 128, 129, 130, 131, 132, 133, 134, 135, 136, 137, 138, 146, 147, 148, 157, 158, 159, 160]
theorem fM_request {W : List Nat} {t0 : moS} {t : moS} {p1 : Int32} {p2 : Int32} (hW : sbs wM_request W) (h : mfr W t0 t) : aw (M_request t p1 p2) (mfr W t0) := by
  unfold M_request
  exact (fM_request_b2 (hW.of (by decide)) (by assumption))
def wM_lineJoin_b490 : List Nat := []
theorem fM_lineJoin_b490 {W : List Nat} {t0 : moS} {t : moS} {a3 : Int32} {a4 : Int32} {a5 : Int32} {a6 : Int32} {a7 : Int32} {a8 : Int32} {a10 : Int32} {a11 : Int32} (hW : sbs wM_lineJoin_b490 W) (h : mfr W t0 t) : aw (M_lineJoin_b490 t a3 a4 a5 a6 a7 a8 a10 a11) (Sum.elim (fun z => (mfr W t0) z.2) (fun z => (mfr W t0) z.2)) := by
  unfold M_lineJoin_b490
  exact (aw_some (by first | assumption | trivial | exact True.intro))
def wM_lineJoin_b479 : List Nat := [79, 82, 83, 84, 85, 86, 87, 88]
theorem fM_lineJoin_b479 {W : List Nat} {t0 : moS} {t : moS} {a3 : Int32} {a4 : Int32} {a5 : Int32} {a6 : Int32} {a7 : Int32} {a8 : Int32} {a10 : Int32} {a11 : Int32} {u1 : Int32} {u2 : Int32} {u3 : Int32} (hW : sbs wM_lineJoin_b479 W) (h : mfr W t0 t) : aw (M_lineJoin_b479 t a3 a4 a5 a6 a7 a8 a10 a11 u1 u2 u3) (Sum.elim (fun z => (mfr W t0) z.2) (fun z => (mfr W t0) z.2)) := by
  unfold M_lineJoin_b479
  exact (aw_bind (fM_takeKey (hW.of (by decide)) (by assumption)) (fun _ h => (fM_lineJoin_b490 (hW.of (by decide)) (by assumption))))
def wM_lineJoin_b458 : List Nat := [79, 82, 83, 84, 85, 86, 87, 88]
theorem fM_lineJoin_b458 {W : List Nat} {t0 : moS} {t : moS} {a3 : Int32} {a4 : Int32} {a5 : Int32} {a6 : Int32} {a7 : Int32} {a8 : Int32} {a10 : Int32} {a11 : Int32} (hW : sbs wM_lineJoin_b458 W) (h : mfr W t0 t) : aw (M_lineJoin_b458 t a3 a4 a5 a6 a7 a8 a10 a11) (Sum.elim (fun z => (mfr W t0) z.2) (fun z => (mfr W t0) z.2)) := by
  unfold M_lineJoin_b458
  exact (aw_bind aw_t (fun _ h => (aw_if (fM_lineJoin_b479 (hW.of (by decide)) (by assumption)) (fM_lineJoin_b479 (hW.of (by decide)) (by assumption)))))
def wM_lineJoin_b444 : List Nat := [79, 82, 83, 84, 85, 86, 87, 88]
theorem fM_lineJoin_b444 {W : List Nat} {t0 : moS} {t : moS} {a3 : Int32} {a4 : Int32} {a5 : Int32} {a6 : Int32} {a7 : Int32} {a8 : Int32} {a10 : Int32} {a11 : Int32} (hW : sbs wM_lineJoin_b444 W) (h : mfr W t0 t) : aw (M_lineJoin_b444 t a3 a4 a5 a6 a7 a8 a10 a11) (Sum.elim (fun z => (mfr W t0) z.2) (fun z => (mfr W t0) z.2)) := by
  unfold M_lineJoin_b444
  exact (aw_if (fM_lineJoin_b458 (hW.of (by decide)) (by assumption)) (aw_if (fM_lineJoin_b458 (hW.of (by decide)) (by assumption)) (fM_lineJoin_b490 (hW.of (by decide)) (by assumption))))
def wM_lineJoin_s421 : List Nat := [23, 24, 25, 26, 44, 45, 79, 80, 81, 82, 83, 84, 85, 86, 87, 88, 89, 105, 106, 107, 108, 109, 110, 111, 112, 113, 114, 115, 116, 117, 118, 119, 120, 121, 122, 123, 124, 125, 126, 127, 128, 129, 130, 131, 132, 133, 134, 135, 136, 137, 138, 146, 147, 148, 153, 154, 155, 156, 157, 158, 159, 160]
theorem fM_lineJoin_s421 {W : List Nat} {t0 : moS} {t : moS} {a3 : Int32} {a4 : Int32} {a5 : Int32} {a6 : Int32} {a7 : Int32} {a8 : Int32} {a10 : Int32} {a11 : Int32} (hW : sbs wM_lineJoin_s421 W) (h : mfr W t0 t) : aw (M_lineJoin_s421 t a3 a4 a5 a6 a7 a8 a10 a11) (Sum.elim (fun z => (mfr W t0) z.2) (fun z => (mfr W t0) z.2)) := by
  unfold M_lineJoin_s421
  exact (aw_if (aw_if (aw_bind (fM_takePassword (hW.of (by decide)) (by assumption)) (fun _ h => (fM_lineJoin_b444 (hW.of (by decide)) (by assumption)))) (fM_lineJoin_b444 (hW.of (by decide)) (by assumption))) (aw_xo (aw_bind (fM_settle (hW.of (by decide)) (by assumption)) (fun _ h => (aw_bind aw_t (fun _ h => (aw_if (aw_some (by first | assumption | trivial | exact True.intro)) (aw_bind aw_t (fun _ h => (aw_if (aw_some (by first | assumption | trivial | exact True.intro)) (aw_bind (fM_request (hW.of (by decide)) (by assumption)) (fun _ h => (aw_some (by first | assumption | trivial | exact True.intro))))))))))))))
def wM_lineJoin_b421 : List Nat := [23, 24, 25, 26, 44, 45, 79, 80, 81, 82, 83, 84, 85, 86, 87, 88, 89, 105, 106, 107, 108, 109, 110, 111, 112, 113, 114, 115, 116, 117, 118, 119, 120, 121, 122, 123, 124, 125, 126, 127, 128, 129, 130, 131, 132, 133, 134, 135, 136, 137, 138, 146, 147, 148, 153, 154, 155, 156, 157, 158, 159, 160]
theorem fM_lineJoin_b421 {W : List Nat} {t0 : moS} {t : moS} {a3 : Int32} {a4 : Int32} {a5 : Int32} {a6 : Int32} {a7 : Int32} {a8 : Int32} {a10 : Int32} {a11 : Int32} (hW : sbs wM_lineJoin_b421 W) (h : mfr W t0 t) : aw (M_lineJoin_b421 t a3 a4 a5 a6 a7 a8 a10 a11) (fun z => (mfr W t0) z.2) := by
  unfold M_lineJoin_b421
  refine aw_lp (I := (fun z => (mfr W t0) z.2)) ?_ ?_
  · exact h
  · intro y hy
    exact (fM_lineJoin_s421 (hW.of (by decide)) hy)
def wM_lineJoin_b418 : List Nat := [23, 24, 25, 26, 44, 45, 79, 80, 81, 82, 83, 84, 85, 86, 87, 88, 89, 105, 106, 107, 108, 109, 110, 111, 112, 113, 114, 115, 116, 117, 118, 119, 120, 121, 122, 123, 124, 125, 126, 127, 128, 129, 130, 131, 132, 133, 134, 135, 136, 137, 138, 146, 147, 148, 153, 154, 155, 156, 157, 158, 159, 160]
theorem fM_lineJoin_b418 {W : List Nat} {t0 : moS} {t : moS} {a3 : Int32} {a4 : Int32} {a5 : Int32} {a6 : Int32} {a7 : Int32} {a8 : Int32} {a10 : Int32} (hW : sbs wM_lineJoin_b418 W) (h : mfr W t0 t) : aw (M_lineJoin_b418 t a3 a4 a5 a6 a7 a8 a10) (fun z => (mfr W t0) z.2) := by
  unfold M_lineJoin_b418
  exact (fM_lineJoin_b421 (hW.of (by decide)) (by assumption))
def wM_lineJoin_b399 : List Nat := [23, 24, 25, 26, 44, 45, 74, 79, 80, 81, 82, 83, 84, 85, 86, 87, 88, 89, 105, 106, 107, 108, 109, 110, 111, 112, 113, 114, 115, 116, 117, 118, 119, 120, 121, 122, 123, 124, 125, 126, 127, 128, 129, 130, 131, 132, 133, 134, 135, 136, 137, 138, 146, 147, 148, 153, 154, 155, 156, 157, 158, 159, 160]
theorem fM_lineJoin_b399 {W : List Nat} {t0 : moS} {t : moS} {a3 : Int32} {a4 : Int32} {a5 : Int32} {a6 : Int32} {a7 : Int32} {a8 : Int32} {a10 : Int32} (hW : sbs wM_lineJoin_b399 W) (h : mfr W t0 t) : aw (M_lineJoin_b399 t a3 a4 a5 a6 a7 a8 a10) (fun z => (mfr W t0) z.2) := by
  unfold M_lineJoin_b399
  exact (aw_bind aw_t (fun _ h => (aw_if (aw_bind (aw_wrZ (hW.m (by decide)) (by assumption)) (fun _ h => (fM_lineJoin_b418 (hW.of (by decide)) (by assumption)))) (fM_lineJoin_b418 (hW.of (by decide)) (by assumption)))))
def wM_lineJoin_b383 : List Nat := [23, 24, 25, 26, 44, 45, 73, 74, 79, 80, 81, 82, 83, 84, 85, 86, 87, 88, 89, 105, 106, 107, 108, 109, 110, 111, 112, 113, 114, 115, 116, 117, 118, 119, 120, 121, 122, 123, 124, 125, 126, 127, 128, 129, 130, 131, 132, 133, 134, 135, 136, 137, 138, 146, 147, 148, 153, 154, 155, 156, 157, 158, 159, 160]
theorem fM_lineJoin_b383 {W : List Nat} {t0 : moS} {t : moS} {a2 : Int32} {a3 : Int32} {a4 : Int32} {a5 : Int32} {a6 : Int32} {a7 : Int32} {a8 : Int32} {a10 : Int32} (hW : sbs wM_lineJoin_b383 W) (h : mfr W t0 t) : aw (M_lineJoin_b383 t a2 a3 a4 a5 a6 a7 a8 a10) (fun z => (mfr W t0) z.2) := by
  unfold M_lineJoin_b383
  exact (aw_if (aw_bind aw_t (fun _ h => (aw_bind (aw_wrJ (hW.m (by decide)) (by assumption)) (fun _ h => (fM_lineJoin_b399 (hW.of (by decide)) (by assumption)))))) (fM_lineJoin_b399 (hW.of (by decide)) (by assumption)))
def wM_lineJoin_b315 : List Nat := [23, 24, 25, 26, 44, 45, 72, 73, 74, 75, 76, 77, 78, 79, 80, 81, 82, 83, 84, 85, 86, 87, 88, 89, 105, 106, 107, 108, 109, 110, 111, 112, 113, 114, 115, 116, 117, 118, 119, 120, 121, 122, 123, 124, 125, 126, 127, 128, 129, 130, 131, 132, 133, 134, 135, 136, 137, 138, 146, 147, 148, 153, 154, 155, 156, 157, 158, 159, 160]
theorem fM_lineJoin_b315 {W : List Nat} {t0 : moS} {t : moS} {a1 : Int32} {a2 : Int32} {a3 : Int32} {a4 : Int32} {a5 : Int32} {a6 : Int32} {a7 : Int32} {a8 : Int32} (hW : sbs wM_lineJoin_b315 W) (h : mfr W t0 t) : aw (M_lineJoin_b315 t a1 a2 a3 a4 a5 a6 a7 a8) (fun z => (mfr W t0) z.2) := by
  unfold M_lineJoin_b315
  exact (aw_bind (aw_wrZ (hW.m (by decide)) (by assumption)) (fun _ h => (aw_bind (aw_wrJ (hW.m (by decide)) (by assumption)) (fun _ h => (aw_bind (aw_wrJ (hW.m (by decide)) (by assumption)) (fun _ h => (aw_bind (aw_wrI (hW.m (by decide)) (by assumption)) (fun _ h => (aw_if (aw_bind aw_t (fun _ h => (aw_bind (aw_wrI (hW.m (by decide)) (by assumption)) (fun _ h => (fM_lineJoin_b383 (hW.of (by decide)) (by assumption)))))) (fM_lineJoin_b383 (hW.of (by decide)) (by assumption)))))))))))
def wM_lineJoin_b282 : List Nat := [23, 24, 25, 26, 44, 45, 70, 71, 72, 73, 74, 75, 76, 77, 78, 79, 80, 81, 82, 83, 84, 85, 86, 87, 88, 89, 105, 106, 107, 108, 109, 110, 111, 112, 113, 114, 115, 116, 117, 118, 119, 120, 121, 122, 123, 124, 125, 126, 127, 128, 129, 130, 131, 132, 133, 134, 135, 136, 137, 138, 146, 147, 148, 153, 154, 155, 156, 157, 158, 159, 160]
theorem fM_lineJoin_b282 {W : List Nat} {t0 : moS} {t : moS} {a1 : Int32} {a2 : Int32} {a3 : Int32} {a4 : Int32} {a5 : Int32} {a6 : Int32} {a7 : Int32} {a8 : Int32} (hW : sbs wM_lineJoin_b282 W) (h : mfr W t0 t) : aw (M_lineJoin_b282 t a1 a2 a3 a4 a5 a6 a7 a8) (fun z => (mfr W t0) z.2) := by
  unfold M_lineJoin_b282
  exact (aw_bind aw_t (fun _ h => (aw_if (aw_some (by first | assumption | trivial | exact True.intro)) (aw_if (aw_bn2 (fM_newInterface (hW.of (by decide)) (by assumption)) (fun _ _ h => (fM_lineJoin_b315 (hW.of (by decide)) (by assumption)))) (fM_lineJoin_b315 (hW.of (by decide)) (by assumption))))))
def wM_lineJoin_b256 : List Nat := [23, 24, 25, 26, 44, 45, 70, 71, 72, 73, 74, 75, 76, 77, 78, 79, 80, 81, 82, 83, 84, 85, 86, 87, 88, 89, 105, 106, 107, 108, 109, 110, 111, 112, 113, 114, 115, 116, 117, 118, 119, 120, 121, 122, 123, 124, 125, 126, 127, 128, 129, 130, 131, 132, 133, 134, 135, 136, 137, 138, 146, 147, 148, 153, 154, 155, 156, 157, 158, 159, 160]
theorem fM_lineJoin_b256 {W : List Nat} {t0 : moS} {t : moS} {a1 : Int32} {a2 : Int32} {a3 : Int32} {a4 : Int32} {a5 : Int32} {a6 : Int32} {a7 : Int32} {a8 : Int32} {u0 : Int32} (hW : sbs wM_lineJoin_b256 W) (h : mfr W t0 t) : aw (M_lineJoin_b256 t a1 a2 a3 a4 a5 a6 a7 a8 u0) (fun z => (mfr W t0) z.2) := by
  unfold M_lineJoin_b256
  exact (aw_if (aw_some (by first | assumption | trivial | exact True.intro)) (aw_if (aw_bind aw_t (fun _ h => (aw_if (aw_some (by first | assumption | trivial | exact True.intro)) (fM_lineJoin_b282 (hW.of (by decide)) (by assumption))))) (fM_lineJoin_b282 (hW.of (by decide)) (by assumption))))
def wM_lineJoin_b255 : List Nat := [23, 24, 25, 26, 44, 45, 70, 71, 72, 73, 74, 75, 76, 77, 78, 79, 80, 81, 82, 83, 84, 85, 86, 87, 88, 89, 105, 106, 107, 108, 109, 110, 111, 112, 113, 114, 115, 116, 117, 118, 119, 120, 121, 122, 123, 124, 125, 126, 127, 128, 129, 130, 131, 132, 133, 134, 135, 136, 137, 138, 146, 147, 148, 153, 154, 155, 156, 157, 158, 159, 160]
theorem fM_lineJoin_b255 {W : List Nat} {t0 : moS} {t : moS} {a1 : Int32} {a2 : Int32} {a3 : Int32} {a4 : Int32} {a5 : Int32} {a6 : Int32} {a7 : Int32} {a8 : Int32} (hW : sbs wM_lineJoin_b255 W) (h : mfr W t0 t) : aw (M_lineJoin_b255 t a1 a2 a3 a4 a5 a6 a7 a8) (fun z => (mfr W t0) z.2) := by
  unfold M_lineJoin_b255
  exact (fM_lineJoin_b256 (hW.of (by decide)) (by assumption))
def wM_lineJoin_b233 : List Nat := [23, 24, 25, 26, 44, 45, 70, 71, 72, 73, 74, 75, 76, 77, 78, 79, 80, 81, 82, 83, 84, 85, 86, 87, 88, 89, 105, 106, 107, 108, 109, 110, 111, 112, 113, 114, 115, 116, 117, 118, 119, 120, 121, 122, 123, 124, 125, 126, 127, 128, 129, 130, 131, 132, 133, 134, 135, 136, 137, 138, 146, 147, 148, 153, 154, 155, 156, 157, 158, 159, 160]
theorem fM_lineJoin_b233 {W : List Nat} {t0 : moS} {t : moS} {a1 : Int32} {a2 : Int32} {a3 : Int32} {a4 : Int32} {a5 : Int32} {a6 : Int32} {a7 : Int32} {a8 : Int32} (hW : sbs wM_lineJoin_b233 W) (h : mfr W t0 t) : aw (M_lineJoin_b233 t a1 a2 a3 a4 a5 a6 a7 a8) (fun z => (mfr W t0) z.2) := by
  unfold M_lineJoin_b233
  exact (aw_bind aw_t (fun _ h => (aw_if (fM_lineJoin_b255 (hW.of (by decide)) (by assumption)) (aw_bind aw_t (fun _ h => (aw_if (fM_lineJoin_b255 (hW.of (by decide)) (by assumption)) (fM_lineJoin_b256 (hW.of (by decide)) (by assumption))))))))
def wM_lineJoin_b221 : List Nat := [23, 24, 25, 26, 44, 45, 70, 71, 72, 73, 74, 75, 76, 77, 78, 79, 80, 81, 82, 83, 84, 85, 86, 87, 88, 89, 105, 106, 107, 108, 109, 110, 111, 112, 113, 114, 115, 116, 117, 118, 119, 120, 121, 122, 123, 124, 125, 126, 127, 128, 129, 130, 131, 132, 133, 134, 135, 136, 137, 138, 146, 147, 148, 153, 154, 155, 156, 157, 158, 159, 160]
theorem fM_lineJoin_b221 {W : List Nat} {t0 : moS} {t : moS} {a1 : Int32} {a2 : Int32} {a3 : Int32} {a4 : Int32} {a5 : Int32} {a6 : Int32} {a7 : Int32} {a8 : Int32} (hW : sbs wM_lineJoin_b221 W) (h : mfr W t0 t) : aw (M_lineJoin_b221 t a1 a2 a3 a4 a5 a6 a7 a8) (fun z => (mfr W t0) z.2) := by
  unfold M_lineJoin_b221
  exact (aw_if (fM_lineJoin_b233 (hW.of (by decide)) (by assumption)) (aw_bind aw_t (fun _ h => (aw_if (fM_lineJoin_b255 (hW.of (by decide)) (by assumption)) (fM_lineJoin_b233 (hW.of (by decide)) (by assumption))))))
def wM_lineJoin_b206 : List Nat := [23, 24, 25, 26, 44, 45, 70, 71, 72, 73, 74, 75, 76, 77, 78, 79, 80, 81, 82, 83, 84, 85, 86, 87, 88, 89, 105, 106, 107, 108, 109, 110, 111, 112, 113, 114, 115, 116, 117, 118, 119, 120, 121, 122, 123, 124, 125, 126, 127, 128, 129, 130, 131, 132, 133, 134, 135, 136, 137, 138, 146, 147, 148, 153, 154, 155, 156, 157, 158, 159, 160]
theorem fM_lineJoin_b206 {W : List Nat} {t0 : moS} {t : moS} {a1 : Int32} {a2 : Int32} {a3 : Int32} {a4 : Int32} {a5 : Int32} {a6 : Int32} {a7 : Int32} {a8 : Int32} (hW : sbs wM_lineJoin_b206 W) (h : mfr W t0 t) : aw (M_lineJoin_b206 t a1 a2 a3 a4 a5 a6 a7 a8) (fun z => (mfr W t0) z.2) := by
  unfold M_lineJoin_b206
  exact (aw_if (fM_lineJoin_b221 (hW.of (by decide)) (by assumption)) (aw_bind aw_t (fun _ h => (aw_if (fM_lineJoin_b255 (hW.of (by decide)) (by assumption)) (fM_lineJoin_b221 (hW.of (by decide)) (by assumption))))))
def wM_lineJoin_b125 : List Nat := [12, 13, 14, 15, 16, 23, 24, 25, 26, 44, 45, 70, 71, 72, 73, 74, 75, 76, 77, 78, 79, 80, 81, 82, 83, 84, 85, 86, 87, 88, 89, 105, 106, 107, 108, 109, 110, 111, 112, 113, 114, 115, 116, 117, 118, 119, 120, 121, 122, 123, 124, 125, 126, 127, 128, 129, 130, 131, 132, 133, 134, 135, 136, 137, 138, 146, 147, 148, 153, 154, 155, 156, 157, 158, 159, 160]
theorem fM_lineJoin_b125 {W : List Nat} {t0 : moS} {t : moS} {a1 : Int32} {a2 : Int32} {a3 : Int32} {a4 : Int32} {a5 : Int32} (hW : sbs wM_lineJoin_b125 W) (h : mfr W t0 t) : aw (M_lineJoin_b125 t a1 a2 a3 a4 a5) (fun z => (mfr W t0) z.2) := by
  unfold M_lineJoin_b125
  exact (aw_bind aw_t (fun _ h => (aw_bind aw_t (fun _ h => (aw_bind aw_t (fun _ h => (aw_bind aw_t (fun _ h => (aw_if (aw_some (by first | assumption | trivial | exact True.intro)) (aw_if (aw_some (by first | assumption | trivial | exact True.intro)) (aw_bn2 (fM_isAddressWithLength (hW.of (by decide)) (by assumption)) (fun _ _ h => (aw_if (aw_some (by first | assumption | trivial | exact True.intro)) (aw_bind aw_t (fun _ h => (aw_if (fM_lineJoin_b206 (hW.of (by decide)) (by assumption)) (aw_bind aw_t (fun _ h => (aw_if (fM_lineJoin_b206 (hW.of (by decide)) (by assumption)) (aw_some (by first | assumption | trivial | exact True.intro)))))))))))))))))))))
def wM_lineJoin : List Nat := [12, 13, 14, 15, 16, 23, 24, 25, 26, 44, 45, 70, 71, 72, 73, 74, 75, 76, 77, 78, 79, 80, 81, 82, 83, 84, 85, 86, 87, 88, 89, 105, 106, 107, 108, 109, 110, 111, 112, 113, 114, 115, 116, 117, 118, 119, 120, 121, 122, 123, 124, 125, 126, 127, 128, 129, 130, 131, 132, 133, 134, 135, 136, 137, 138, 146, 147, 148, 153, 154, 155, 156, 157, 158, 159, 160]
theorem fM_lineJoin {W : List Nat} {t0 : moS} {t : moS} (hW : sbs wM_lineJoin W) (h : mfr W t0 t) : aw (M_lineJoin t) (fun z => (mfr W t0) z.2) := by
  unfold M_lineJoin
  exact (aw_if (aw_some (by first | assumption | trivial | exact True.intro)) (aw_bind aw_t (fun _ h => (aw_if (aw_some (by first | assumption | trivial | exact True.intro)) (aw_bind aw_t (fun _ h => (aw_bind aw_t (fun _ h => (aw_bind aw_t (fun _ h => (aw_bind aw_t (fun _ h => (aw_bind aw_t (fun _ h => (aw_if (aw_bind aw_t (fun _ h => (aw_if (fM_lineJoin_b125 (hW.of (by decide)) (by assumption)) (aw_bind aw_t (fun _ h => (aw_if (fM_lineJoin_b125 (hW.of (by decide)) (by assumption)) (aw_bind aw_t (fun _ h => (aw_if (fM_lineJoin_b125 (hW.of (by decide)) (by assumption)) (aw_some (by first | assumption | trivial | exact True.intro))))))))))) (fM_lineJoin_b125 (hW.of (by decide)) (by assumption)))))))))))))))))
def wM_lineKey_b171 : List Nat := [79, 82, 83, 84, 85, 86, 87, 88]
theorem fM_lineKey_b171 {W : List Nat} {t0 : moS} {t : moS} {u1 : Int32} {u2 : Int32} {u3 : Int32} (hW : sbs wM_lineKey_b171 W) (h : mfr W t0 t) : aw (M_lineKey_b171 t u1 u2 u3) (fun z => (mfr W t0) z.2) := by
  unfold M_lineKey_b171
  exact (aw_bind aw_t (fun _ h => (aw_bind aw_t (fun _ h => (aw_bind (fM_takeKey (hW.of (by decide)) (by assumption)) (fun _ h => (aw_some (by first | assumption | trivial | exact True.intro))))))))
def wM_lineKey_b147 : List Nat := [79, 82, 83, 84, 85, 86, 87, 88]
theorem fM_lineKey_b147 {W : List Nat} {t0 : moS} {t : moS} {a1 : Int32} (hW : sbs wM_lineKey_b147 W) (h : mfr W t0 t) : aw (M_lineKey_b147 t a1) (fun z => (mfr W t0) z.2) := by
  unfold M_lineKey_b147
  exact (aw_bind aw_t (fun _ h => (aw_bind aw_t (fun _ h => (aw_if (fM_lineKey_b171 (hW.of (by decide)) (by assumption)) (fM_lineKey_b171 (hW.of (by decide)) (by assumption)))))))
def wM_lineKey_b35 : List Nat := [79, 82, 83, 84, 85, 86, 87, 88]
theorem fM_lineKey_b35 {W : List Nat} {t0 : moS} {t : moS} (hW : sbs wM_lineKey_b35 W) (h : mfr W t0 t) : aw (M_lineKey_b35 t) (fun z => (mfr W t0) z.2) := by
  unfold M_lineKey_b35
  exact (aw_bind aw_t (fun _ h => (aw_if (aw_some (by first | assumption | trivial | exact True.intro)) (aw_bind aw_t (fun _ h => (aw_if (aw_some (by first | assumption | trivial | exact True.intro)) (aw_bind aw_t (fun _ h => (aw_if (aw_some (by first | assumption | trivial | exact True.intro)) (aw_bind aw_t (fun _ h => (aw_if (aw_some (by first | assumption | trivial | exact True.intro)) (aw_bind aw_t (fun _ h => (aw_if (aw_some (by first | assumption | trivial | exact True.intro)) (aw_bind aw_t (fun _ h => (aw_bind aw_t (fun _ h => (aw_if (aw_some (by first | assumption | trivial | exact True.intro)) (aw_bind aw_t (fun _ h => (aw_if (aw_bind aw_t (fun _ h => (aw_if (aw_bind aw_t (fun _ h => (aw_bind aw_t (fun _ h => (aw_if (aw_some (by first | assumption | trivial | exact True.intro)) (fM_lineKey_b147 (hW.of (by decide)) (by assumption))))))) (fM_lineKey_b147 (hW.of (by decide)) (by assumption))))) (fM_lineKey_b147 (hW.of (by decide)) (by assumption)))))))))))))))))))))))))
def wM_lineKey : List Nat := [79, 82, 83, 84, 85, 86, 87, 88]
theorem fM_lineKey {W : List Nat} {t0 : moS} {t : moS} (hW : sbs wM_lineKey W) (h : mfr W t0 t) : aw (M_lineKey t) (fun z => (mfr W t0) z.2) := by
  unfold M_lineKey
  exact (aw_if (aw_bind aw_t (fun _ h => (aw_if (fM_lineKey_b35 (hW.of (by decide)) (by assumption)) (aw_bind aw_t (fun _ h => (aw_if (fM_lineKey_b35 (hW.of (by decide)) (by assumption)) (aw_some (by first | assumption | trivial | exact True.intro)))))))) (aw_some (by first | assumption | trivial | exact True.intro)))
def wM_lineNokey : List Nat := [79, 82]
theorem fM_lineNokey {W : List Nat} {t0 : moS} {t : moS} (hW : sbs wM_lineNokey W) (h : mfr W t0 t) : aw (M_lineNokey t) (fun z => (mfr W t0) z.2) := by
  unfold M_lineNokey
  exact (aw_if (aw_bind aw_t (fun _ h => (aw_if (aw_some (by first | assumption | trivial | exact True.intro)) (aw_bind (aw_wrI (hW.m (by decide)) (by assumption)) (fun _ h => (aw_bind (aw_wrI (hW.m (by decide)) (by assumption)) (fun _ h => (aw_some (by first | assumption | trivial | exact True.intro))))))))) (aw_some (by first | assumption | trivial | exact True.intro)))
def wM_lineStatic_b228 : List Nat := [44, 45, 52, 105, 106, 107, 108, 109, 110, 111, 112, 113, 114, 115, 116, 117, 118, 119, 120, 121, 122, 153, 154, 155, 156]
theorem fM_lineStatic_b228 {W : List Nat} {t0 : moS} {t : moS} {a1 : Int32} {u1 : Int32} {u2 : Int32} (hW : sbs wM_lineStatic_b228 W) (h : mfr W t0 t) : aw (M_lineStatic_b228 t a1 u1 u2) (fun z => (mfr W t0) z.2) := by
  unfold M_lineStatic_b228
  exact (aw_bind (aw_wrI (hW.m (by decide)) (by assumption)) (fun _ h => (aw_bind (fM_settle (hW.of (by decide)) (by assumption)) (fun _ h => (aw_some (by first | assumption | trivial | exact True.intro))))))
def wM_lineStatic_b199 : List Nat := [44, 45, 51, 52, 105, 106, 107, 108, 109, 110, 111, 112, 113, 114, 115, 116, 117, 118, 119, 120, 121, 122, 153, 154, 155, 156]
theorem fM_lineStatic_b199 {W : List Nat} {t0 : moS} {t : moS} {a1 : Int32} {a2 : Int32} {a3 : Int32} (hW : sbs wM_lineStatic_b199 W) (h : mfr W t0 t) : aw (M_lineStatic_b199 t a1 a2 a3) (fun z => (mfr W t0) z.2) := by
  unfold M_lineStatic_b199
  exact (aw_bind aw_t (fun _ h => (aw_bind (aw_wrI (hW.m (by decide)) (by assumption)) (fun _ h => (aw_if (aw_bind aw_t (fun _ h => (fM_lineStatic_b228 (hW.of (by decide)) (by assumption)))) (fM_lineStatic_b228 (hW.of (by decide)) (by assumption)))))))
def wM_lineStatic_b132 : List Nat := [44, 45, 46, 47, 48, 49, 50, 51, 52, 105, 106, 107, 108, 109, 110, 111, 112, 113, 114, 115, 116, 117, 118, 119, 120, 121, 122, 153, 154, 155, 156]
theorem fM_lineStatic_b132 {W : List Nat} {t0 : moS} {t : moS} {a1 : Int32} {a2 : Int32} {a3 : Int32} (hW : sbs wM_lineStatic_b132 W) (h : mfr W t0 t) : aw (M_lineStatic_b132 t a1 a2 a3) (fun z => (mfr W t0) z.2) := by
  unfold M_lineStatic_b132
  exact (aw_if (aw_bind aw_t (fun _ h => (aw_bind aw_t (fun _ h => (aw_bind (aw_wrI (hW.m (by decide)) (by assumption)) (fun _ h => (aw_bind (aw_wrI (hW.m (by decide)) (by assumption)) (fun _ h => (aw_bind (aw_wrJ (hW.m (by decide)) (by assumption)) (fun _ h => (aw_bind (aw_wrJ (hW.m (by decide)) (by assumption)) (fun _ h => (aw_bind (aw_wrI (hW.m (by decide)) (by assumption)) (fun _ h => (fM_lineStatic_b199 (hW.of (by decide)) (by assumption)))))))))))))))) (fM_lineStatic_b199 (hW.of (by decide)) (by assumption)))
def wM_lineStatic_b91 : List Nat := [44, 45, 46, 47, 48, 49, 50, 51, 52, 105, 106, 107, 108, 109, 110, 111, 112, 113, 114, 115, 116, 117, 118, 119, 120, 121, 122, 153, 154, 155, 156]
theorem fM_lineStatic_b91 {W : List Nat} {t0 : moS} {t : moS} {a1 : Int32} {a2 : Int32} (hW : sbs wM_lineStatic_b91 W) (h : mfr W t0 t) : aw (M_lineStatic_b91 t a1 a2) (fun z => (mfr W t0) z.2) := by
  unfold M_lineStatic_b91
  exact (aw_bind aw_t (fun _ h => (aw_if (aw_bind aw_t (fun _ h => (aw_if (aw_some (by first | assumption | trivial | exact True.intro)) (fM_lineStatic_b132 (hW.of (by decide)) (by assumption))))) (fM_lineStatic_b132 (hW.of (by decide)) (by assumption)))))
def wM_lineStatic : List Nat := [12, 13, 14, 15, 16, 44, 45, 46, 47, 48, 49, 50, 51, 52, 105, 106, 107, 108, 109, 110, 111, 112, 113, 114, 115, 116, 117, 118, 119, 120, 121, 122, 153, 154, 155, 156]
theorem fM_lineStatic {W : List Nat} {t0 : moS} {t : moS} (hW : sbs wM_lineStatic W) (h : mfr W t0 t) : aw (M_lineStatic t) (fun z => (mfr W t0) z.2) := by
  unfold M_lineStatic
  exact (aw_if (aw_some (by first | assumption | trivial | exact True.intro)) (aw_bind aw_t (fun _ h => (aw_if (aw_some (by first | assumption | trivial | exact True.intro)) (aw_bind aw_t (fun _ h => (aw_bind aw_t (fun _ h => (aw_if (aw_some (by first | assumption | trivial | exact True.intro)) (aw_bn2 (fM_isPrefixWord (hW.of (by decide)) (by assumption)) (fun _ _ h => (aw_if (aw_some (by first | assumption | trivial | exact True.intro)) (aw_bind aw_t (fun _ h => (aw_bind aw_t (fun _ h => (aw_if (aw_some (by first | assumption | trivial | exact True.intro)) (aw_if (aw_bind aw_t (fun _ h => (aw_if (aw_some (by first | assumption | trivial | exact True.intro)) (fM_lineStatic_b91 (hW.of (by decide)) (by assumption))))) (fM_lineStatic_b91 (hW.of (by decide)) (by assumption))))))))))))))))))))
def wM_lineNostatic_s68 : List Nat := [44, 45, 46, 47, 48, 49, 50, 51, 52, 105, 106, 107, 108, 109, 110, 111, 112, 113, 114, 115, 116, 117, 118, 119, 120, 121, 122, 153, 154, 155, 156]
theorem fM_lineNostatic_s68 {W : List Nat} {t0 : moS} {t : moS} {a1 : Int32} {a3 : Int32} (hW : sbs wM_lineNostatic_s68 W) (h : mfr W t0 t) : aw (M_lineNostatic_s68 t a1 a3) (Sum.elim (fun z => (mfr W t0) z.2) (fun z => (mfr W t0) z.2)) := by
  unfold M_lineNostatic_s68
  exact (aw_bind aw_t (fun _ h => (aw_if (aw_bind aw_t (fun _ h => (aw_bind (aw_wrI (hW.m (by decide)) (by assumption)) (fun _ h => (aw_bind aw_t (fun _ h => (aw_bind (aw_wrJ (hW.m (by decide)) (by assumption)) (fun _ h => (aw_bind aw_t (fun _ h => (aw_bind (aw_wrJ (hW.m (by decide)) (by assumption)) (fun _ h => (aw_bind aw_t (fun _ h => (aw_bind (aw_wrI (hW.m (by decide)) (by assumption)) (fun _ h => (aw_bind aw_t (fun _ h => (aw_bind (aw_wrI (hW.m (by decide)) (by assumption)) (fun _ h => (aw_bind aw_t (fun _ h => (aw_bind (aw_wrI (hW.m (by decide)) (by assumption)) (fun _ h => (aw_some (by first | assumption | trivial | exact True.intro)))))))))))))))))))))))))) (aw_xo (aw_bind aw_t (fun _ h => (aw_bind (aw_wrI (hW.m (by decide)) (by assumption)) (fun _ h => (aw_bind (fM_settle (hW.of (by decide)) (by assumption)) (fun _ h => (aw_some (by first | assumption | trivial | exact True.intro))))))))))))
