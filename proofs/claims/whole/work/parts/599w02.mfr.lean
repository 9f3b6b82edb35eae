/-! What the model's functions leave as it was, by program. -/
def wM_lineNostatic_b68 : List Nat := [44, 45, 46, 47, 48, 49, 50, 51, 52, 105, 106, 107, 108, 109, 110, 111, 112, 113, 114, 115, 116, 117, 118, 119, 120, 121, 122, 153, 154, 155, 156]
theorem fM_lineNostatic_b68 {W : List Nat} {t0 : moS} {t : moS} {a1 : Int32} {a3 : Int32} (hW : sbs wM_lineNostatic_b68 W) (h : mfr W t0 t) : aw (M_lineNostatic_b68 t a1 a3) (fun z => (mfr W t0) z.2) := by
  unfold M_lineNostatic_b68
  refine aw_lp (I := (fun z => (mfr W t0) z.2)) ?_ ?_
  · exact h
  · intro y hy
    exact (fM_lineNostatic_s68 (hW.of (by decide)) hy)
def wM_lineNostatic : List Nat := [12, 13, 14, 15, 16, 44, 45, 46, 47, 48, 49, 50, 51, 52, 105, 106, 107, 108, 109, 110, 111, 112, 113, 114, 115, 116, 117, 118, 119, 120, 121, 122, 153, 154, 155, 156]
theorem fM_lineNostatic {W : List Nat} {t0 : moS} {t : moS} (hW : sbs wM_lineNostatic W) (h : mfr W t0 t) : aw (M_lineNostatic t) (fun z => (mfr W t0) z.2) := by
  unfold M_lineNostatic
  exact (aw_if (aw_bind aw_t (fun _ h => (aw_bind aw_t (fun _ h => (aw_if (aw_some (by first | assumption | trivial | exact True.intro)) (aw_bn2 (fM_isPrefixWord (hW.of (by decide)) (by assumption)) (fun _ _ h => (aw_if (aw_some (by first | assumption | trivial | exact True.intro)) (aw_bind aw_t (fun _ h => (aw_if (aw_some (by first | assumption | trivial | exact True.intro)) (fM_lineNostatic_b68 (hW.of (by decide)) (by assumption))))))))))))) (aw_some (by first | assumption | trivial | exact True.intro)))
def wM_lineFilter_b186 : List Nat := [58]
theorem fM_lineFilter_b186 {W : List Nat} {t0 : moS} {t : moS} {u1 : Int32} {u2 : Int32} (hW : sbs wM_lineFilter_b186 W) (h : mfr W t0 t) : aw (M_lineFilter_b186 t u1 u2) (fun z => (mfr W t0) z.2) := by
  unfold M_lineFilter_b186
  exact (aw_bind (aw_wrZ (hW.m (by decide)) (by assumption)) (fun _ h => (aw_some (by first | assumption | trivial | exact True.intro))))
def wM_lineFilter_b70 : List Nat := [53, 54, 55, 56, 57, 58]
theorem fM_lineFilter_b70 {W : List Nat} {t0 : moS} {t : moS} {a1 : Int32} {u0 : Int32} (hW : sbs wM_lineFilter_b70 W) (h : mfr W t0 t) : aw (M_lineFilter_b70 t a1 u0) (fun z => (mfr W t0) z.2) := by
  unfold M_lineFilter_b70
  exact (aw_bind aw_t (fun _ h => (aw_if (aw_some (by first | assumption | trivial | exact True.intro)) (aw_bind aw_t (fun _ h => (aw_bind aw_t (fun _ h => (aw_bind (aw_wrI (hW.m (by decide)) (by assumption)) (fun _ h => (aw_bind (aw_wrI (hW.m (by decide)) (by assumption)) (fun _ h => (aw_bind (aw_wrJ (hW.m (by decide)) (by assumption)) (fun _ h => (aw_bind (aw_wrJ (hW.m (by decide)) (by assumption)) (fun _ h => (aw_bind (aw_wrI (hW.m (by decide)) (by assumption)) (fun _ h => (aw_bind aw_t (fun _ h => (aw_if (fM_lineFilter_b186 (hW.of (by decide)) (by assumption)) (fM_lineFilter_b186 (hW.of (by decide)) (by assumption))))))))))))))))))))))
def wM_lineFilter : List Nat := [12, 13, 14, 15, 16, 53, 54, 55, 56, 57, 58]
theorem fM_lineFilter {W : List Nat} {t0 : moS} {t : moS} (hW : sbs wM_lineFilter W) (h : mfr W t0 t) : aw (M_lineFilter t) (fun z => (mfr W t0) z.2) := by
  unfold M_lineFilter
  exact (aw_if (aw_bind aw_t (fun _ h => (aw_if (aw_some (by first | assumption | trivial | exact True.intro)) (aw_bind aw_t (fun _ h => (aw_if (aw_some (by first | assumption | trivial | exact True.intro)) (aw_bind aw_t (fun _ h => (aw_bind aw_t (fun _ h => (aw_if (aw_some (by first | assumption | trivial | exact True.intro)) (aw_bn2 (fM_isPrefixWord (hW.of (by decide)) (by assumption)) (fun _ _ h => (aw_if (aw_some (by first | assumption | trivial | exact True.intro)) (aw_bind aw_t (fun _ h => (aw_if (fM_lineFilter_b70 (hW.of (by decide)) (by assumption)) (fM_lineFilter_b70 (hW.of (by decide)) (by assumption))))))))))))))))))) (aw_some (by first | assumption | trivial | exact True.intro)))
def wM_lineList_b358 : List Nat := [36]
theorem fM_lineList_b358 {W : List Nat} {t0 : moS} {t : moS} {u1 : Int32} {u2 : Int32} (hW : sbs wM_lineList_b358 W) (h : mfr W t0 t) : aw (M_lineList_b358 t u1 u2) (fun z => (mfr W t0) z.2) := by
  unfold M_lineList_b358
  exact (aw_bind (aw_wrI (hW.m (by decide)) (by assumption)) (fun _ h => (aw_some (by first | assumption | trivial | exact True.intro))))
def wM_lineList_b336 : List Nat := [35, 36]
theorem fM_lineList_b336 {W : List Nat} {t0 : moS} {t : moS} {a4 : Int32} {a7 : Int32} {u1 : Int32} {u2 : Int32} (hW : sbs wM_lineList_b336 W) (h : mfr W t0 t) : aw (M_lineList_b336 t a4 a7 u1 u2) (fun z => (mfr W t0) z.2) := by
  unfold M_lineList_b336
  exact (aw_bind (aw_wrI (hW.m (by decide)) (by assumption)) (fun _ h => (aw_if (aw_bind aw_t (fun _ h => (fM_lineList_b358 (hW.of (by decide)) (by assumption)))) (fM_lineList_b358 (hW.of (by decide)) (by assumption)))))
def wM_lineList_b272 : List Nat := [30, 31, 32, 33, 34, 35, 36]
theorem fM_lineList_b272 {W : List Nat} {t0 : moS} {t : moS} {a3 : Int32} {a4 : Int32} {a7 : Int32} {u1 : Int32} {u2 : Int32} (hW : sbs wM_lineList_b272 W) (h : mfr W t0 t) : aw (M_lineList_b272 t a3 a4 a7 u1 u2) (fun z => (mfr W t0) z.2) := by
  unfold M_lineList_b272
  exact (aw_bind (aw_wrZ (hW.m (by decide)) (by assumption)) (fun _ h => (aw_bind (aw_wrI (hW.m (by decide)) (by assumption)) (fun _ h => (aw_bind (aw_wrJ (hW.m (by decide)) (by assumption)) (fun _ h => (aw_bind (aw_wrJ (hW.m (by decide)) (by assumption)) (fun _ h => (aw_bind (aw_wrI (hW.m (by decide)) (by assumption)) (fun _ h => (aw_if (aw_bind aw_t (fun _ h => (fM_lineList_b336 (hW.of (by decide)) (by assumption)))) (fM_lineList_b336 (hW.of (by decide)) (by assumption)))))))))))))
def wM_lineList_b223 : List Nat := [29, 30, 31, 32, 33, 34, 35, 36]
theorem fM_lineList_b223 {W : List Nat} {t0 : moS} {t : moS} {a3 : Int32} {a4 : Int32} {a6 : Int32} (hW : sbs wM_lineList_b223 W) (h : mfr W t0 t) : aw (M_lineList_b223 t a3 a4 a6) (fun z => (mfr W t0) z.2) := by
  unfold M_lineList_b223
  exact (aw_bind aw_t (fun _ h => (aw_bind aw_t (fun _ h => (aw_bind (aw_wrI (hW.m (by decide)) (by assumption)) (fun _ h => (aw_bind aw_t (fun _ h => (aw_if (fM_lineList_b272 (hW.of (by decide)) (by assumption)) (fM_lineList_b272 (hW.of (by decide)) (by assumption)))))))))))
def wM_lineList_b193 : List Nat := [27, 28, 29, 30, 31, 32, 33, 34, 35, 36]
theorem fM_lineList_b193 {W : List Nat} {t0 : moS} {t : moS} {a1 : Int64} {a3 : Int32} {a4 : Int32} {a6 : Int32} (hW : sbs wM_lineList_b193 W) (h : mfr W t0 t) : aw (M_lineList_b193 t a1 a3 a4 a6) (fun z => (mfr W t0) z.2) := by
  unfold M_lineList_b193
  exact (aw_if (aw_bind (aw_wrJ (hW.m (by decide)) (by assumption)) (fun _ h => (aw_let (mfr.tr (by assumption) (mfr.ss (hW.m (by decide)))) (fun _ h => (fM_lineList_b223 (hW.of (by decide)) (by assumption)))))) (fM_lineList_b223 (hW.of (by decide)) (by assumption)))
def wM_lineList_b153 : List Nat := [27, 28, 29, 30, 31, 32, 33, 34, 35, 36]
theorem fM_lineList_b153 {W : List Nat} {t0 : moS} {t : moS} {a1 : Int64} {a3 : Int32} {a4 : Int32} (hW : sbs wM_lineList_b153 W) (h : mfr W t0 t) : aw (M_lineList_b153 t a1 a3 a4) (fun z => (mfr W t0) z.2) := by
  unfold M_lineList_b153
  exact (aw_bind aw_t (fun _ h => (aw_if (aw_if (aw_some (by first | assumption | trivial | exact True.intro)) (fM_lineList_b193 (hW.of (by decide)) (by assumption))) (aw_bind aw_t (fun _ h => (aw_if (aw_some (by first | assumption | trivial | exact True.intro)) (fM_lineList_b193 (hW.of (by decide)) (by assumption))))))))
def wM_lineList_b128 : List Nat := [27, 28, 29, 30, 31, 32, 33, 34, 35, 36]
theorem fM_lineList_b128 {W : List Nat} {t0 : moS} {t : moS} {a1 : Int64} {a3 : Int32} {a4 : Int32} (hW : sbs wM_lineList_b128 W) (h : mfr W t0 t) : aw (M_lineList_b128 t a1 a3 a4) (fun z => (mfr W t0) z.2) := by
  unfold M_lineList_b128
  exact (aw_if (aw_if (aw_bind aw_t (fun _ h => (aw_bind aw_t (fun _ h => (aw_if (aw_some (by first | assumption | trivial | exact True.intro)) (fM_lineList_b153 (hW.of (by decide)) (by assumption))))))) (fM_lineList_b153 (hW.of (by decide)) (by assumption))) (fM_lineList_b153 (hW.of (by decide)) (by assumption)))
def wM_lineList_b106 : List Nat := [27, 28, 29, 30, 31, 32, 33, 34, 35, 36]
theorem fM_lineList_b106 {W : List Nat} {t0 : moS} {t : moS} {a1 : Int64} {a3 : Int32} {a4 : Int32} {a5 : Int32} (hW : sbs wM_lineList_b106 W) (h : mfr W t0 t) : aw (M_lineList_b106 t a1 a3 a4 a5) (fun z => (mfr W t0) z.2) := by
  unfold M_lineList_b106
  exact (aw_if (aw_bind aw_t (fun _ h => (aw_if (aw_some (by first | assumption | trivial | exact True.intro)) (fM_lineList_b128 (hW.of (by decide)) (by assumption))))) (fM_lineList_b128 (hW.of (by decide)) (by assumption)))
def wM_lineList : List Nat := [12, 13, 14, 15, 16, 27, 28, 29, 30, 31, 32, 33, 34, 35, 36]
theorem fM_lineList {W : List Nat} {t0 : moS} {t : moS} (hW : sbs wM_lineList W) (h : mfr W t0 t) : aw (M_lineList t) (fun z => (mfr W t0) z.2) := by
  unfold M_lineList
  exact (aw_if (aw_some (by first | assumption | trivial | exact True.intro)) (aw_bind aw_t (fun _ h => (aw_if (aw_some (by first | assumption | trivial | exact True.intro)) (aw_bind aw_t (fun _ h => (aw_if (aw_some (by first | assumption | trivial | exact True.intro)) (aw_bind aw_t (fun _ h => (aw_if (aw_some (by first | assumption | trivial | exact True.intro)) (aw_bn2 (fM_isPrefixWord (hW.of (by decide)) (by assumption)) (fun _ _ h => (aw_if (aw_some (by first | assumption | trivial | exact True.intro)) (aw_bind aw_t (fun _ h => (aw_bind aw_t (fun _ h => (aw_if (aw_bind aw_t (fun _ h => (aw_if (aw_some (by first | assumption | trivial | exact True.intro)) (fM_lineList_b106 (hW.of (by decide)) (by assumption))))) (fM_lineList_b106 (hW.of (by decide)) (by assumption))))))))))))))))))))
def wM_lineDistribute_b122 : List Nat := [60, 61, 62]
theorem fM_lineDistribute_b122 {W : List Nat} {t0 : moS} {t : moS} {a2 : Int32} {a3 : Int32} {a4 : Int32} {u1 : Int32} {u2 : Int32} (hW : sbs wM_lineDistribute_b122 W) (h : mfr W t0 t) : aw (M_lineDistribute_b122 t a2 a3 a4 u1 u2) (fun z => (mfr W t0) z.2) := by
  unfold M_lineDistribute_b122
  exact (aw_bind (aw_wrI (hW.m (by decide)) (by assumption)) (fun _ h => (aw_bind (aw_wrI (hW.m (by decide)) (by assumption)) (fun _ h => (aw_bind (aw_wrI (hW.m (by decide)) (by assumption)) (fun _ h => (aw_some (by first | assumption | trivial | exact True.intro))))))))
def wM_lineDistribute : List Nat := [59, 60, 61, 62]
theorem fM_lineDistribute {W : List Nat} {t0 : moS} {t : moS} (hW : sbs wM_lineDistribute W) (h : mfr W t0 t) : aw (M_lineDistribute t) (fun z => (mfr W t0) z.2) := by
  unfold M_lineDistribute
  exact (aw_if (aw_bind aw_t (fun _ h => (aw_if (aw_some (by first | assumption | trivial | exact True.intro)) (aw_bind aw_t (fun _ h => (aw_bind aw_t (fun _ h => (aw_bind aw_t (fun _ h => (aw_bind aw_t (fun _ h => (aw_bind aw_t (fun _ h => (aw_if (aw_some (by first | assumption | trivial | exact True.intro)) (aw_if (aw_some (by first | assumption | trivial | exact True.intro)) (aw_if (aw_some (by first | assumption | trivial | exact True.intro)) (aw_bind aw_t (fun _ h => (aw_if (aw_some (by first | assumption | trivial | exact True.intro)) (aw_bind aw_t (fun _ h => (aw_bind aw_t (fun _ h => (aw_bind (aw_wrI (hW.m (by decide)) (by assumption)) (fun _ h => (aw_bind aw_t (fun _ h => (aw_if (fM_lineDistribute_b122 (hW.of (by decide)) (by assumption)) (fM_lineDistribute_b122 (hW.of (by decide)) (by assumption)))))))))))))))))))))))))))))) (aw_some (by first | assumption | trivial | exact True.intro)))
def wM_lineOffset_b136 : List Nat := [64, 65, 66, 67]
theorem fM_lineOffset_b136 {W : List Nat} {t0 : moS} {t : moS} {a2 : Int32} {a3 : Int32} {a4 : Int32} {u1 : Int32} {u2 : Int32} (hW : sbs wM_lineOffset_b136 W) (h : mfr W t0 t) : aw (M_lineOffset_b136 t a2 a3 a4 u1 u2) (fun z => (mfr W t0) z.2) := by
  unfold M_lineOffset_b136
  exact (aw_bind (aw_wrI (hW.m (by decide)) (by assumption)) (fun _ h => (aw_bind (aw_wrI (hW.m (by decide)) (by assumption)) (fun _ h => (aw_bind (aw_wrI (hW.m (by decide)) (by assumption)) (fun _ h => (aw_bind aw_t (fun _ h => (aw_bind (aw_wrI (hW.m (by decide)) (by assumption)) (fun _ h => (aw_some (by first | assumption | trivial | exact True.intro))))))))))))
def wM_lineOffset : List Nat := [63, 64, 65, 66, 67]
theorem fM_lineOffset {W : List Nat} {t0 : moS} {t : moS} (hW : sbs wM_lineOffset W) (h : mfr W t0 t) : aw (M_lineOffset t) (fun z => (mfr W t0) z.2) := by
  unfold M_lineOffset
  exact (aw_if (aw_bind aw_t (fun _ h => (aw_if (aw_some (by first | assumption | trivial | exact True.intro)) (aw_bind aw_t (fun _ h => (aw_bind aw_t (fun _ h => (aw_bind aw_t (fun _ h => (aw_bind aw_t (fun _ h => (aw_bind aw_t (fun _ h => (aw_if (aw_some (by first | assumption | trivial | exact True.intro)) (aw_if (aw_some (by first | assumption | trivial | exact True.intro)) (aw_if (aw_some (by first | assumption | trivial | exact True.intro)) (aw_bind aw_t (fun _ h => (aw_if (aw_some (by first | assumption | trivial | exact True.intro)) (aw_bind aw_t (fun _ h => (aw_if (aw_some (by first | assumption | trivial | exact True.intro)) (aw_bind aw_t (fun _ h => (aw_bind aw_t (fun _ h => (aw_bind (aw_wrI (hW.m (by decide)) (by assumption)) (fun _ h => (aw_bind aw_t (fun _ h => (aw_if (fM_lineOffset_b136 (hW.of (by decide)) (by assumption)) (fM_lineOffset_b136 (hW.of (by decide)) (by assumption))))))))))))))))))))))))))))))))) (aw_some (by first | assumption | trivial | exact True.intro)))
def wM_lineSummary : List Nat := [12, 13, 14, 15, 16, 90, 91, 92, 93, 94]
theorem fM_lineSummary {W : List Nat} {t0 : moS} {t : moS} (hW : sbs wM_lineSummary W) (h : mfr W t0 t) : aw (M_lineSummary t) (fun z => (mfr W t0) z.2) := by
  unfold M_lineSummary
  exact (aw_if (aw_bind aw_t (fun _ h => (aw_if (aw_some (by first | assumption | trivial | exact True.intro)) (aw_bn2 (fM_isPrefixWord (hW.of (by decide)) (by assumption)) (fun _ _ h => (aw_if (aw_some (by first | assumption | trivial | exact True.intro)) (aw_bind aw_t (fun _ h => (aw_if (aw_some (by first | assumption | trivial | exact True.intro)) (aw_bind aw_t (fun _ h => (aw_bind aw_t (fun _ h => (aw_bind (aw_wrI (hW.m (by decide)) (by assumption)) (fun _ h => (aw_bind (aw_wrI (hW.m (by decide)) (by assumption)) (fun _ h => (aw_bind (aw_wrJ (hW.m (by decide)) (by assumption)) (fun _ h => (aw_bind (aw_wrJ (hW.m (by decide)) (by assumption)) (fun _ h => (aw_bind (aw_wrI (hW.m (by decide)) (by assumption)) (fun _ h => (aw_some (by first | assumption | trivial | exact True.intro))))))))))))))))))))))))) (aw_some (by first | assumption | trivial | exact True.intro)))
def wM_lineNeighbor : List Nat := [12, 13, 14, 16, 95, 96, 97, 98]
theorem fM_lineNeighbor {W : List Nat} {t0 : moS} {t : moS} (hW : sbs wM_lineNeighbor W) (h : mfr W t0 t) : aw (M_lineNeighbor t) (fun z => (mfr W t0) z.2) := by
  unfold M_lineNeighbor
  exact (aw_if (aw_bind aw_t (fun _ h => (aw_if (aw_some (by first | assumption | trivial | exact True.intro)) (aw_bn2 (fM_isAddress (hW.of (by decide)) (by assumption)) (fun _ _ h => (aw_if (aw_some (by first | assumption | trivial | exact True.intro)) (aw_bind aw_t (fun _ h => (aw_if (aw_some (by first | assumption | trivial | exact True.intro)) (aw_bind aw_t (fun _ h => (aw_bind aw_t (fun _ h => (aw_bind (aw_wrI (hW.m (by decide)) (by assumption)) (fun _ h => (aw_bind (aw_wrI (hW.m (by decide)) (by assumption)) (fun _ h => (aw_bind (aw_wrJ (hW.m (by decide)) (by assumption)) (fun _ h => (aw_bind (aw_wrJ (hW.m (by decide)) (by assumption)) (fun _ h => (aw_some (by first | assumption | trivial | exact True.intro))))))))))))))))))))))) (aw_some (by first | assumption | trivial | exact True.intro)))
def wM_lineRedistribute_b225 : List Nat := [69]
theorem fM_lineRedistribute_b225 {W : List Nat} {t0 : moS} {t : moS} {u1 : Int32} {u2 : Int32} (hW : sbs wM_lineRedistribute_b225 W) (h : mfr W t0 t) : aw (M_lineRedistribute_b225 t u1 u2) (fun z => (mfr W t0) z.2) := by
  unfold M_lineRedistribute_b225
  exact (aw_bind (aw_wrI (hW.m (by decide)) (by assumption)) (fun _ h => (aw_some (by first | assumption | trivial | exact True.intro))))
def wM_lineRedistribute_b205 : List Nat := [68, 69]
theorem fM_lineRedistribute_b205 {W : List Nat} {t0 : moS} {t : moS} {a2 : Int32} {a4 : Int32} {u1 : Int32} {u2 : Int32} (hW : sbs wM_lineRedistribute_b205 W) (h : mfr W t0 t) : aw (M_lineRedistribute_b205 t a2 a4 u1 u2) (fun z => (mfr W t0) z.2) := by
  unfold M_lineRedistribute_b205
  exact (aw_bind (aw_wrI (hW.m (by decide)) (by assumption)) (fun _ h => (aw_if (aw_bind aw_t (fun _ h => (fM_lineRedistribute_b225 (hW.of (by decide)) (by assumption)))) (fM_lineRedistribute_b225 (hW.of (by decide)) (by assumption)))))
def wM_lineRedistribute_b159 : List Nat := [68, 69]
theorem fM_lineRedistribute_b159 {W : List Nat} {t0 : moS} {t : moS} {a2 : Int32} {u0 : Int32} {u1 : Int32} (hW : sbs wM_lineRedistribute_b159 W) (h : mfr W t0 t) : aw (M_lineRedistribute_b159 t a2 u0 u1) (fun z => (mfr W t0) z.2) := by
  unfold M_lineRedistribute_b159
  exact (aw_bind aw_t (fun _ h => (aw_if (fM_lineRedistribute_b205 (hW.of (by decide)) (by assumption)) (aw_bind aw_t (fun _ h => (aw_if (fM_lineRedistribute_b205 (hW.of (by decide)) (by assumption)) (aw_bind aw_t (fun _ h => (fM_lineRedistribute_b205 (hW.of (by decide)) (by assumption))))))))))
def wM_lineRedistribute_b139 : List Nat := [68, 69]
theorem fM_lineRedistribute_b139 {W : List Nat} {t0 : moS} {t : moS} {a1 : Int32} {a2 : Int32} (hW : sbs wM_lineRedistribute_b139 W) (h : mfr W t0 t) : aw (M_lineRedistribute_b139 t a1 a2) (fun z => (mfr W t0) z.2) := by
  unfold M_lineRedistribute_b139
  exact (aw_bind aw_t (fun _ h => (aw_if (fM_lineRedistribute_b159 (hW.of (by decide)) (by assumption)) (fM_lineRedistribute_b159 (hW.of (by decide)) (by assumption)))))
def wM_lineRedistribute_b121 : List Nat := [68, 69]
theorem fM_lineRedistribute_b121 {W : List Nat} {t0 : moS} {t : moS} {a1 : Int32} {a2 : Int32} (hW : sbs wM_lineRedistribute_b121 W) (h : mfr W t0 t) : aw (M_lineRedistribute_b121 t a1 a2) (fun z => (mfr W t0) z.2) := by
  unfold M_lineRedistribute_b121
  exact (aw_if (aw_bind aw_t (fun _ h => (aw_if (aw_some (by first | assumption | trivial | exact True.intro)) (fM_lineRedistribute_b139 (hW.of (by decide)) (by assumption))))) (fM_lineRedistribute_b139 (hW.of (by decide)) (by assumption)))
def wM_lineRedistribute_b105 : List Nat := [68, 69]
theorem fM_lineRedistribute_b105 {W : List Nat} {t0 : moS} {t : moS} {a1 : Int32} {a2 : Int32} {u0 : Int32} (hW : sbs wM_lineRedistribute_b105 W) (h : mfr W t0 t) : aw (M_lineRedistribute_b105 t a1 a2 u0) (fun z => (mfr W t0) z.2) := by
  unfold M_lineRedistribute_b105
  exact (aw_if (aw_bind aw_t (fun _ h => (aw_if (aw_some (by first | assumption | trivial | exact True.intro)) (fM_lineRedistribute_b121 (hW.of (by decide)) (by assumption))))) (fM_lineRedistribute_b121 (hW.of (by decide)) (by assumption)))
def wM_lineRedistribute_b100 : List Nat := [68, 69]
theorem fM_lineRedistribute_b100 {W : List Nat} {t0 : moS} {t : moS} {a1 : Int32} {a2 : Int32} (hW : sbs wM_lineRedistribute_b100 W) (h : mfr W t0 t) : aw (M_lineRedistribute_b100 t a1 a2) (fun z => (mfr W t0) z.2) := by
  unfold M_lineRedistribute_b100
  exact (fM_lineRedistribute_b105 (hW.of (by decide)) (by assumption))
def wM_lineRedistribute_b32 : List Nat := [68, 69]
theorem fM_lineRedistribute_b32 {W : List Nat} {t0 : moS} {t : moS} (hW : sbs wM_lineRedistribute_b32 W) (h : mfr W t0 t) : aw (M_lineRedistribute_b32 t) (fun z => (mfr W t0) z.2) := by
  unfold M_lineRedistribute_b32
  exact (aw_bind aw_t (fun _ h => (aw_if (aw_some (by first | assumption | trivial | exact True.intro)) (aw_bind aw_t (fun _ h => (aw_bind aw_t (fun _ h => (aw_if (aw_some (by first | assumption | trivial | exact True.intro)) (aw_bind aw_t (fun _ h => (aw_bind aw_t (fun _ h => (aw_if (fM_lineRedistribute_b100 (hW.of (by decide)) (by assumption)) (aw_bind aw_t (fun _ h => (aw_if (fM_lineRedistribute_b100 (hW.of (by decide)) (by assumption)) (fM_lineRedistribute_b105 (hW.of (by decide)) (by assumption))))))))))))))))))
def wM_lineRedistribute : List Nat := [68, 69]
theorem fM_lineRedistribute {W : List Nat} {t0 : moS} {t : moS} (hW : sbs wM_lineRedistribute W) (h : mfr W t0 t) : aw (M_lineRedistribute t) (fun z => (mfr W t0) z.2) := by
  unfold M_lineRedistribute
  exact (aw_if (aw_some (by first | assumption | trivial | exact True.intro)) (aw_bind aw_t (fun _ h => (aw_if (fM_lineRedistribute_b32 (hW.of (by decide)) (by assumption)) (aw_bind aw_t (fun _ h => (aw_if (fM_lineRedistribute_b32 (hW.of (by decide)) (by assumption)) (aw_some (by first | assumption | trivial | exact True.intro)))))))))
def wM_lineDefault_b132 : List Nat := [100]
theorem fM_lineDefault_b132 {W : List Nat} {t0 : moS} {t : moS} {u1 : Int32} {u2 : Int32} (hW : sbs wM_lineDefault_b132 W) (h : mfr W t0 t) : aw (M_lineDefault_b132 t u1 u2) (fun z => (mfr W t0) z.2) := by
  unfold M_lineDefault_b132
  exact (aw_bind (aw_wrZ (hW.m (by decide)) (by assumption)) (fun _ h => (aw_some (by first | assumption | trivial | exact True.intro))))
def wM_lineDefault_b113 : List Nat := [99, 100]
theorem fM_lineDefault_b113 {W : List Nat} {t0 : moS} {t : moS} {a1 : Int32} {u1 : Int32} {u2 : Int32} (hW : sbs wM_lineDefault_b113 W) (h : mfr W t0 t) : aw (M_lineDefault_b113 t a1 u1 u2) (fun z => (mfr W t0) z.2) := by
  unfold M_lineDefault_b113
  exact (aw_bind (aw_wrI (hW.m (by decide)) (by assumption)) (fun _ h => (aw_if (fM_lineDefault_b132 (hW.of (by decide)) (by assumption)) (fM_lineDefault_b132 (hW.of (by decide)) (by assumption)))))
def wM_lineDefault_b87 : List Nat := [99, 100]
theorem fM_lineDefault_b87 {W : List Nat} {t0 : moS} {t : moS} {a1 : Int32} (hW : sbs wM_lineDefault_b87 W) (h : mfr W t0 t) : aw (M_lineDefault_b87 t a1) (fun z => (mfr W t0) z.2) := by
  unfold M_lineDefault_b87
  exact (aw_bind aw_t (fun _ h => (aw_if (fM_lineDefault_b113 (hW.of (by decide)) (by assumption)) (aw_bind aw_t (fun _ h => (fM_lineDefault_b113 (hW.of (by decide)) (by assumption)))))))
def wM_lineDefault_b50 : List Nat := [99, 100]
theorem fM_lineDefault_b50 {W : List Nat} {t0 : moS} {t : moS} (hW : sbs wM_lineDefault_b50 W) (h : mfr W t0 t) : aw (M_lineDefault_b50 t) (fun z => (mfr W t0) z.2) := by
  unfold M_lineDefault_b50
  exact (aw_bind aw_t (fun _ h => (aw_if (aw_some (by first | assumption | trivial | exact True.intro)) (aw_bind aw_t (fun _ h => (aw_if (fM_lineDefault_b87 (hW.of (by decide)) (by assumption)) (aw_bind aw_t (fun _ h => (aw_if (aw_some (by first | assumption | trivial | exact True.intro)) (fM_lineDefault_b87 (hW.of (by decide)) (by assumption)))))))))))
def wM_lineDefault : List Nat := [99, 100]
theorem fM_lineDefault {W : List Nat} {t0 : moS} {t : moS} (hW : sbs wM_lineDefault W) (h : mfr W t0 t) : aw (M_lineDefault t) (fun z => (mfr W t0) z.2) := by
  unfold M_lineDefault
  exact (aw_if (aw_some (by first | assumption | trivial | exact True.intro)) (aw_if (aw_some (by first | assumption | trivial | exact True.intro)) (aw_if (aw_bind aw_t (fun _ h => (aw_if (aw_bind aw_t (fun _ h => (aw_if (aw_some (by first | assumption | trivial | exact True.intro)) (fM_lineDefault_b50 (hW.of (by decide)) (by assumption))))) (aw_some (by first | assumption | trivial | exact True.intro))))) (fM_lineDefault_b50 (hW.of (by decide)) (by assumption)))))
def wM_lineTimers_s29 : List Nat := [40, 41, 42]
theorem fM_lineTimers_s29 {W : List Nat} {t0 : moS} {t : moS} {a1 : Int32} {a2 : Int32} (hW : sbs wM_lineTimers_s29 W) (h : mfr W t0 t) : aw (M_lineTimers_s29 t a1 a2) (Sum.elim (fun z => (mfr W t0) z.2) (fun z => (mfr W t0) z.2)) := by
  unfold M_lineTimers_s29
  exact (aw_if (aw_bind aw_t (fun _ h => (aw_if (aw_xo (aw_some (by first | assumption | trivial | exact True.intro))) (aw_some (by first | assumption | trivial | exact True.intro))))) (aw_xo (aw_bind aw_t (fun _ h => (aw_bind (aw_wrI (hW.m (by decide)) (by assumption)) (fun _ h => (aw_bind aw_t (fun _ h => (aw_bind (aw_wrI (hW.m (by decide)) (by assumption)) (fun _ h => (aw_bind aw_t (fun _ h => (aw_bind (aw_wrI (hW.m (by decide)) (by assumption)) (fun _ h => (aw_some (by first | assumption | trivial | exact True.intro))))))))))))))))
def wM_lineTimers_b29 : List Nat := [40, 41, 42]
theorem fM_lineTimers_b29 {W : List Nat} {t0 : moS} {t : moS} {a1 : Int32} {a2 : Int32} (hW : sbs wM_lineTimers_b29 W) (h : mfr W t0 t) : aw (M_lineTimers_b29 t a1 a2) (fun z => (mfr W t0) z.2) := by
  unfold M_lineTimers_b29
  refine aw_lp (I := (fun z => (mfr W t0) z.2)) ?_ ?_
  · exact h
  · intro y hy
    exact (fM_lineTimers_s29 (hW.of (by decide)) hy)
def wM_lineTimers : List Nat := [40, 41, 42]
theorem fM_lineTimers {W : List Nat} {t0 : moS} {t : moS} (hW : sbs wM_lineTimers W) (h : mfr W t0 t) : aw (M_lineTimers t) (fun z => (mfr W t0) z.2) := by
  unfold M_lineTimers
  exact (aw_if (aw_bind aw_t (fun _ h => (aw_bind aw_t (fun _ h => (aw_if (aw_some (by first | assumption | trivial | exact True.intro)) (fM_lineTimers_b29 (hW.of (by decide)) (by assumption))))))) (aw_some (by first | assumption | trivial | exact True.intro)))
def wM_line : List Nat := [12, 13, 14, 15, 16, 17, 18, 19, 20, 21, 22, 23, 24, 25, 26, 27, 28, 29, 30, 31, 32, 33, 34, 35, 36, 37, 38, 39, 40, 41, 42, 43, 44, 45, 46, 47, 48, 49, 50, 51, 52, 53, 54, 55, 56, 57, 58, 59, 60, 61, 62, 63, 64, 65, 66, 67, 68, 69, 70, 71, 72, 73, 74, 75, 76, 77, 78, 79, 80, 81, 82, 83, 84, 85, 86, 87, 88, 89, 90, 91, 92, 93, 94, 95, 96, 97, 98, 99, 100, 105, 106, 107, 108, 109, 110, 111, 112, 113, 114, 115, 116, 117, 118, 119, 120, 121, 122, 123, 124, 125, 126, 127, 128, 129, 130, 131, 132, 133, 134, 135, 136, 137, 138, 146, 147, 148, 153, 154, 155, 156, 157, 158, 159, 160]
theorem fM_line {W : List Nat} {t0 : moS} {t : moS} (hW : sbs wM_line W) (h : mfr W t0 t) : aw (M_line t) (fun z => (mfr W t0) z.2) := by
  unfold M_line
  exact (aw_bind aw_t (fun _ h => (aw_if (aw_bn2 (fM_lineLink (hW.of (by decide)) (by assumption)) (fun _ _ h => (aw_some (by first | assumption | trivial | exact True.intro)))) (aw_if (aw_bn2 (fM_lineRouter (hW.of (by decide)) (by assumption)) (fun _ _ h => (aw_some (by first | assumption | trivial | exact True.intro)))) (aw_if (aw_bn2 (fM_lineJoin (hW.of (by decide)) (by assumption)) (fun _ _ h => (aw_some (by first | assumption | trivial | exact True.intro)))) (aw_if (aw_bn2 (fM_lineKey (hW.of (by decide)) (by assumption)) (fun _ _ h => (aw_some (by first | assumption | trivial | exact True.intro)))) (aw_if (aw_bn2 (fM_lineNokey (hW.of (by decide)) (by assumption)) (fun _ _ h => (aw_some (by first | assumption | trivial | exact True.intro)))) (aw_if (aw_bn2 (fM_lineStatic (hW.of (by decide)) (by assumption)) (fun _ _ h => (aw_some (by first | assumption | trivial | exact True.intro)))) (aw_if (aw_bn2 (fM_lineNostatic (hW.of (by decide)) (by assumption)) (fun _ _ h => (aw_some (by first | assumption | trivial | exact True.intro)))) (aw_if (aw_bn2 (fM_lineFilter (hW.of (by decide)) (by assumption)) (fun _ _ h => (aw_some (by first | assumption | trivial | exact True.intro)))) (aw_if (aw_bn2 (fM_lineList (hW.of (by decide)) (by assumption)) (fun _ _ h => (aw_some (by first | assumption | trivial | exact True.intro)))) (aw_if (aw_bn2 (fM_lineDistribute (hW.of (by decide)) (by assumption)) (fun _ _ h => (aw_some (by first | assumption | trivial | exact True.intro)))) (aw_if (aw_bn2 (fM_lineOffset (hW.of (by decide)) (by assumption)) (fun _ _ h => (aw_some (by first | assumption | trivial | exact True.intro)))) (aw_if (aw_bn2 (fM_lineSummary (hW.of (by decide)) (by assumption)) (fun _ _ h => (aw_some (by first | assumption | trivial | exact True.intro)))) (aw_if (aw_bn2 (fM_lineNeighbor (hW.of (by decide)) (by assumption)) (fun _ _ h => (aw_some (by first | assumption | trivial | exact True.intro)))) (aw_if (aw_bn2 (fM_lineRedistribute (hW.of (by decide)) (by assumption)) (fun _ _ h => (aw_some (by first | assumption | trivial | exact True.intro)))) (aw_if (aw_bn2 (fM_lineDefault (hW.of (by decide)) (by assumption)) (fun _ _ h => (aw_some (by first | assumption | trivial | exact True.intro)))) (aw_if (aw_bn2 (fM_lineTimers (hW.of (by decide)) (by assumption)) (fun _ _ h => (aw_some (by first | assumption | trivial | exact True.intro)))) (aw_some (by first | assumption | trivial | exact True.intro))))))))))))))))))))
def wM_read_b96 : List Nat := []
theorem fM_read_b96 {W : List Nat} {t0 : moS} {t : moS} {a1 : Int32} {a3 : Int32} (hW : sbs wM_read_b96 W) (h : mfr W t0 t) : aw (M_read_b96 t a1 a3) (Sum.elim (fun z => (fun z => (mfr W t0) z.2) z.2) (fun z => (mfr W t0) z.2)) := by
  unfold M_read_b96
  exact (aw_some (by first | assumption | trivial | exact True.intro))
def wM_read_b56 : List Nat := [4, 9, 10, 11, 12, 13, 14, 15, 16, 17, 18, 19, 20, 21, 22, 23, 24, 25, 26, 27, 28, 29, 30, 31, 32, 33, 34, 35, 36, 37, 38, 39, 40, 41, 42, 43, 44, 45, 46, 47, 48, 49, 50, 51, 52, 53, 54, 55, 56, 57, 58, 59, 60, 61, 62, 63, 64, 65, 66, 67, 68, 69, 70, 71, 72, 73, 74, 75, 76, 77, 78, 79, 80, 81, 82, 83, 84, 85, 86, 87, 88, 89, 90, 91, 92, 93, 94, 95, 96, 97, 98, 99, 100, 105, 106, 107, 108, 109, 110, 111, 112, 113, 114, 115, 116, 117, 118, 119, 120, 121, 122, 123, 124, 125, 126, 127, 128, 129, 130, 131, 132, 133, 134, 135, 136, 137, 138, 146, 147, 148, 153, 154, 155, 156, 157, 158, 159, 160]
theorem fM_read_b56 {W : List Nat} {t0 : moS} {t : moS} {a1 : Int32} {a2 : Int32} {a3 : Int32} (hW : sbs wM_read_b56 W) (h : mfr W t0 t) : aw (M_read_b56 t a1 a2 a3) (Sum.elim (fun z => (fun z => (mfr W t0) z.2) z.2) (fun z => (mfr W t0) z.2)) := by
  unfold M_read_b56
  exact (aw_bind (fM_part (hW.of (by decide)) (by assumption)) (fun _ h => (aw_if (aw_bind aw_t (fun _ h => (aw_bind aw_t (fun _ h => (aw_if (fM_read_b96 (hW.of (by decide)) (by assumption)) (aw_bn2 (fM_line (hW.of (by decide)) (by assumption)) (fun _ _ h => (aw_let (mfr.tr (by assumption) (mfr.ss (hW.m (by decide)))) (fun _ h => (fM_read_b96 (hW.of (by decide)) (by assumption))))))))))) (fM_read_b96 (hW.of (by decide)) (by assumption)))))
def wM_read_s31 : List Nat := [4, 9, 10, 11, 12, 13, 14, 15, 16, 17, 18, 19, 20, 21, 22, 23, 24, 25, 26, 27, 28, 29, 30, 31, 32, 33, 34, 35, 36, 37, 38, 39, 40, 41, 42, 43, 44, 45, 46, 47, 48, 49, 50, 51, 52, 53, 54, 55, 56, 57, 58, 59, 60, 61, 62, 63, 64, 65, 66, 67, 68, 69, 70, 71, 72, 73, 74, 75, 76, 77, 78, 79, 80, 81, 82, 83, 84, 85, 86, 87, 88, 89, 90, 91, 92, 93, 94, 95, 96, 97, 98, 99, 100, 105, 106, 107, 108, 109, 110, 111, 112, 113, 114, 115, 116, 117, 118, 119, 120, 121, 122, 123, 124, 125, 126, 127, 128, 129, 130, 131, 132, 133, 134, 135, 136, 137, 138, 146, 147, 148, 153, 154, 155, 156, 157, 158, 159, 160]
theorem fM_read_s31 {W : List Nat} {t0 : moS} {t : moS} {a1 : Int32} {a2 : Int32} {a3 : Int32} (hW : sbs wM_read_s31 W) (h : mfr W t0 t) : aw (M_read_s31 t a1 a2 a3) (Sum.elim (fun z => (mfr W t0) z.2) (Sum.elim (fun z => (fun z => (mfr W t0) z.2) z.2) (fun z => (mfr W t0) z.2))) := by
  unfold M_read_s31
  exact (aw_if (aw_bind aw_t (fun _ h => (aw_if (aw_xo (fM_read_b56 (hW.of (by decide)) (by assumption))) (aw_some (by first | assumption | trivial | exact True.intro))))) (aw_xo (fM_read_b56 (hW.of (by decide)) (by assumption))))
def wM_read_b31 : List Nat := [4, 9, 10, 11, 12, 13, 14, 15, 16, 17, 18, 19, 20, 21, 22, 23, 24, 25, 26, 27, 28, 29, 30, 31, 32, 33, 34, 35, 36, 37, 38, 39, 40, 41, 42, 43, 44, 45, 46, 47, 48, 49, 50, 51, 52, 53, 54, 55, 56, 57, 58, 59, 60, 61, 62, 63, 64, 65, 66, 67, 68, 69, 70, 71, 72, 73, 74, 75, 76, 77, 78, 79, 80, 81, 82, 83, 84, 85, 86, 87, 88, 89, 90, 91, 92, 93, 94, 95, 96, 97, 98, 99, 100, 105, 106, 107, 108, 109, 110, 111, 112, 113, 114, 115, 116, 117, 118, 119, 120, 121, 122, 123, 124, 125, 126, 127, 128, 129, 130, 131, 132, 133, 134, 135, 136, 137, 138, 146, 147, 148, 153, 154, 155, 156, 157, 158, 159, 160]
theorem fM_read_b31 {W : List Nat} {t0 : moS} {t : moS} {a1 : Int32} {a2 : Int32} {a3 : Int32} (hW : sbs wM_read_b31 W) (h : mfr W t0 t) : aw (M_read_b31 t a1 a2 a3) (Sum.elim (fun z => (fun z => (mfr W t0) z.2) z.2) (fun z => (mfr W t0) z.2)) := by
  unfold M_read_b31
  refine aw_lp (I := (fun z => (mfr W t0) z.2)) ?_ ?_
  · exact h
  · intro y hy
    exact (fM_read_s31 (hW.of (by decide)) hy)
def wM_read_b103 : List Nat := [3]
theorem fM_read_b103 {W : List Nat} {t0 : moS} {t : moS} {a1 : Int32} (hW : sbs wM_read_b103 W) (h : mfr W t0 t) : aw (M_read_b103 t a1) (fun z => (mfr W t0) z.2) := by
  unfold M_read_b103
  exact (aw_let (mfr.tr (by assumption) (mfr.ss (hW.m (by decide)))) (fun _ h => (aw_if (aw_some (by first | assumption | trivial | exact True.intro)) (aw_some (by first | assumption | trivial | exact True.intro)))))
def wM_read_s14 : List Nat := [3, 4, 9, 10, 11, 12, 13, 14, 15, 16, 17, 18, 19, 20, 21, 22, 23, 24, 25, 26, 27, 28, 29, 30, 31, 32, 33, 34, 35, 36, 37, 38, 39, 40, 41, 42, 43, 44, 45, 46, 47, 48, 49, 50, 51, 52, 53, 54, 55, 56, 57, 58, 59, 60, 61, 62, 63, 64, 65, 66, 67, 68, 69, 70, 71, 72, 73, 74, 75, 76, 77, 78, 79, 80, 81, 82, 83, 84, 85, 86, 87, 88, 89, 90, 91, 92, 93, 94, 95, 96, 97, 98, 99, 100, 105, 106, 107, 108, 109, 110, 111, 112, 113, 114, 115, 116, 117, 118, 119, 120, 121, 122, 123, 124, 125, 126, 127, 128, 129, 130, 131, 132, 133, 134, 135, 136, 137, 138, 146, 147, 148, 153, 154, 155, 156, 157, 158, 159, 160]
theorem fM_read_s14 {W : List Nat} {t0 : moS} {t : moS} {a1 : Int32} {a2 : Int32} (hW : sbs wM_read_s14 W) (h : mfr W t0 t) : aw (M_read_s14 t a1 a2) (Sum.elim (fun z => (fun z => (mfr W t0) z.2) z.2) (fun z => (mfr W t0) z.2)) := by
  unfold M_read_s14
  exact (aw_if (aw_if (fM_read_b31 (hW.of (by decide)) (by assumption)) (aw_xo (fM_read_b103 (hW.of (by decide)) (by assumption)))) (aw_xo (fM_read_b103 (hW.of (by decide)) (by assumption))))
def wM_read_b14 : List Nat := [3, 4, 9, 10, 11, 12, 13, 14, 15, 16, 17, 18, 19, 20, 21, 22, 23, 24, 25, 26, 27, 28, 29, 30, 31, 32, 33, 34, 35, 36, 37, 38, 39, 40, 41, 42, 43, 44, 45, 46, 47, 48, 49, 50, 51, 52, 53, 54, 55, 56, 57, 58, 59, 60, 61, 62, 63, 64, 65, 66, 67, 68, 69, 70, 71, 72, 73, 74, 75, 76, 77, 78, 79, 80, 81, 82, 83, 84, 85, 86, 87, 88, 89, 90, 91, 92, 93, 94, 95, 96, 97, 98, 99, 100, 105, 106, 107, 108, 109, 110, 111, 112, 113, 114, 115, 116, 117, 118, 119, 120, 121, 122, 123, 124, 125, 126, 127, 128, 129, 130, 131, 132, 133, 134, 135, 136, 137, 138, 146, 147, 148, 153, 154, 155, 156, 157, 158, 159, 160]
theorem fM_read_b14 {W : List Nat} {t0 : moS} {t : moS} {a1 : Int32} {a2 : Int32} (hW : sbs wM_read_b14 W) (h : mfr W t0 t) : aw (M_read_b14 t a1 a2) (fun z => (mfr W t0) z.2) := by
  unfold M_read_b14
  refine aw_lp (I := (fun z => (fun z => (mfr W t0) z.2) z.2)) ?_ ?_
  · exact h
  · intro y hy
    exact (fM_read_s14 (hW.of (by decide)) hy)
def wM_read : List Nat := [0, 3, 4, 9, 10, 11, 12, 13, 14, 15, 16, 17, 18, 19, 20, 21, 22, 23, 24, 25, 26, 27, 28, 29, 30, 31, 32, 33, 34, 35, 36, 37, 38, 39, 40, 41, 42, 43, 44, 45, 46, 47, 48, 49, 50, 51, 52, 53, 54, 55, 56, 57, 58, 59, 60, 61, 62, 63, 64, 65, 66, 67, 68, 69, 70, 71, 72, 73, 74, 75, 76, 77, 78, 79, 80, 81, 82, 83, 84, 85, 86, 87, 88, 89, 90, 91, 92, 93, 94, 95, 96, 97, 98, 99, 100, 105, 106, 107, 108, 109, 110, 111, 112, 113, 114, 115, 116, 117, 118, 119, 120, 121, 122, 123, 124, 125, 126, 127, 128, 129, 130, 131, 132, 133, 134, 135, 136, 137, 138, 146, 147, 148, 153, 154, 155, 156, 157, 158, 159, 160]
theorem fM_read {W : List Nat} {t0 : moS} {t : moS} (hW : sbs wM_read W) (h : mfr W t0 t) : aw (M_read t) (fun z => (mfr W t0) z.2) := by
  unfold M_read
  exact (aw_let (mfr.tr (by assumption) (mfr.ss (hW.m (by decide)))) (fun _ h => (aw_let (mfr.tr (by assumption) (mfr.ss (hW.m (by decide)))) (fun _ h => (fM_read_b14 (hW.of (by decide)) (by assumption))))))
def wM_remove_s2 : List Nat := [105, 106, 107, 108, 109, 110, 111, 112, 113, 114, 115, 116, 117, 118, 119, 120, 121, 122]
theorem fM_remove_s2 {W : List Nat} {t0 : moS} {t : moS} {p1 : Int32} {a3 : Int32} (hW : sbs wM_remove_s2 W) (h : mfr W t0 t) : aw (M_remove_s2 t p1 a3) (Sum.elim (fun z => (mfr W t0) z.2) (mfr W t0)) := by
  unfold M_remove_s2
  exact (aw_bind aw_t (fun _ h => (aw_if (aw_bind (fM_copyRoute (hW.of (by decide)) (by assumption)) (fun _ h => (aw_some (by first | assumption | trivial | exact True.intro)))) (aw_xo (aw_bind aw_t (fun _ h => (aw_bind (aw_wrI (hW.m (by decide)) (by assumption)) (fun _ h => (aw_some (by first | assumption | trivial | exact True.intro))))))))))
def wM_remove_b2 : List Nat := [105, 106, 107, 108, 109, 110, 111, 112, 113, 114, 115, 116, 117, 118, 119, 120, 121, 122]
theorem fM_remove_b2 {W : List Nat} {t0 : moS} {t : moS} {p1 : Int32} {a3 : Int32} (hW : sbs wM_remove_b2 W) (h : mfr W t0 t) : aw (M_remove_b2 t p1 a3) (mfr W t0) := by
  unfold M_remove_b2
  refine aw_lp (I := (fun z => (mfr W t0) z.2)) ?_ ?_
  · exact h
  · intro y hy
    exact (fM_remove_s2 (hW.of (by decide)) hy)
def wM_remove : List Nat := [105, 106, 107, 108, 109, 110, 111, 112, 113, 114, 115, 116, 117, 118, 119, 120, 121, 122]
theorem fM_remove {W : List Nat} {t0 : moS} {t : moS} {p1 : Int32} {p2 : Int32} (hW : sbs wM_remove W) (h : mfr W t0 t) : aw (M_remove t p1 p2) (mfr W t0) := by
  unfold M_remove
  exact (fM_remove_b2 (hW.of (by decide)) (by assumption))
def wM_putAddress_b37 : List Nat := []
theorem fM_putAddress_b37 {W : List Nat} {t0 : moS} {t : moS} {p1 : Nat} {p2 : Int32} {p3 : Int32} {p4 : Int64} {p6 : Int64} {a8 : Int32} {u1 : Int32} {u2 : Int64} (hW : sbs wM_putAddress_b37 W) (hp1 : p1 ∈ W) (h : mfr W t0 t) : aw (M_putAddress_b37 t p1 p2 p3 p4 p6 a8 u1 u2) (Sum.elim (fun z => (mfr W t0) z.2) (mfr W t0)) := by
  unfold M_putAddress_b37
  exact (aw_bind (aw_wrI hp1 (by assumption)) (fun _ h => (aw_some (by first | assumption | trivial | exact True.intro))))
def wM_putAddress_b15 : List Nat := []
theorem fM_putAddress_b15 {W : List Nat} {t0 : moS} {t : moS} {p1 : Nat} {p2 : Int32} {p3 : Int32} {p4 : Int64} {p6 : Int64} {a8 : Int32} {u0 : Int32} {u1 : Int32} (hW : sbs wM_putAddress_b15 W) (hp1 : p1 ∈ W) (h : mfr W t0 t) : aw (M_putAddress_b15 t p1 p2 p3 p4 p6 a8 u0 u1) (Sum.elim (fun z => (mfr W t0) z.2) (mfr W t0)) := by
  unfold M_putAddress_b15
  exact (aw_if (aw_if (fM_putAddress_b37 (hW.of (by decide)) hp1 (by assumption)) (fM_putAddress_b37 (hW.of (by decide)) hp1 (by assumption))) (aw_xo (aw_some (by first | assumption | trivial | exact True.intro))))
def wM_putAddress_s3 : List Nat := []
theorem fM_putAddress_s3 {W : List Nat} {t0 : moS} {t : moS} {p1 : Nat} {p2 : Int32} {p3 : Int32} {p4 : Int64} {p6 : Int64} {a8 : Int32} (hW : sbs wM_putAddress_s3 W) (hp1 : p1 ∈ W) (h : mfr W t0 t) : aw (M_putAddress_s3 t p1 p2 p3 p4 p6 a8) (Sum.elim (fun z => (mfr W t0) z.2) (mfr W t0)) := by
  unfold M_putAddress_s3
  exact (aw_if (fM_putAddress_b15 (hW.of (by decide)) hp1 (by assumption)) (fM_putAddress_b15 (hW.of (by decide)) hp1 (by assumption)))
def wM_putAddress_b3 : List Nat := []
theorem fM_putAddress_b3 {W : List Nat} {t0 : moS} {t : moS} {p1 : Nat} {p2 : Int32} {p3 : Int32} {p4 : Int64} {p6 : Int64} {a8 : Int32} (hW : sbs wM_putAddress_b3 W) (hp1 : p1 ∈ W) (h : mfr W t0 t) : aw (M_putAddress_b3 t p1 p2 p3 p4 p6 a8) (mfr W t0) := by
  unfold M_putAddress_b3
  refine aw_lp (I := (fun z => (mfr W t0) z.2)) ?_ ?_
  · exact h
  · intro y hy
    exact (fM_putAddress_s3 (hW.of (by decide)) hp1 hy)
def wM_putAddress : List Nat := []
theorem fM_putAddress {W : List Nat} {t0 : moS} {t : moS} {p1 : Nat} {p2 : Int32} {p3 : Int32} {p4 : Int64} {p6 : Int64} (hW : sbs wM_putAddress W) (hp1 : p1 ∈ W) (h : mfr W t0 t) : aw (M_putAddress t p1 p2 p3 p4 p6) (mfr W t0) := by
  unfold M_putAddress
  exact (fM_putAddress_b3 (hW.of (by decide)) hp1 (by assumption))
def wM_requests_b26 : List Nat := []
theorem fM_requests_b26 {W : List Nat} {t0 : moS} {t : moS} {p1 : Int32} {a2 : Int32} (hW : sbs wM_requests_b26 W) (h : mfr W t0 t) : aw (M_requests_b26 t p1 a2) (Sum.elim (fun z => (mfr W t0) z.2) (mfr W t0)) := by
  unfold M_requests_b26
  exact (aw_some (by first | assumption | trivial | exact True.intro))
def wM_requests_s2 : List Nat := [23, 24, 25, 26, 45, 89, 123, 124, 125, 126, 127, 128, 129, 130, 131, 132, 133, 134, 135, 136, 137, 138, 146, 147, 148, 157, 158, 159, 160]
theorem fM_requests_s2 {W : List Nat} {t0 : moS} {t : moS} {p1 : Int32} {a2 : Int32} (hW : sbs wM_requests_s2 W) (h : mfr W t0 t) : aw (M_requests_s2 t p1 a2) (Sum.elim (fun z => (mfr W t0) z.2) (mfr W t0)) := by
  unfold M_requests_s2
  exact (aw_if (aw_bind aw_t (fun _ h => (aw_if (fM_requests_b26 (hW.of (by decide)) (by assumption)) (aw_bind (fM_request (hW.of (by decide)) (by assumption)) (fun _ h => (fM_requests_b26 (hW.of (by decide)) (by assumption))))))) (aw_xo (aw_some (by first | assumption | trivial | exact True.intro))))
def wM_requests_b2 : List Nat := [23, 24, 25, 26, 45, 89, 123, 124, 125, 126, 127, 128, 129, 130, 131, 132, 133, 134, 135, 136, 137, 138, 146, 147, 148, 157, 158, 159, 160]
theorem fM_requests_b2 {W : List Nat} {t0 : moS} {t : moS} {p1 : Int32} {a2 : Int32} (hW : sbs wM_requests_b2 W) (h : mfr W t0 t) : aw (M_requests_b2 t p1 a2) (mfr W t0) := by
  unfold M_requests_b2
  refine aw_lp (I := (fun z => (mfr W t0) z.2)) ?_ ?_
  · exact h
  · intro y hy
    exact (fM_requests_s2 (hW.of (by decide)) hy)
def wM_requests : List Nat := [23, 24, 25, 26, 45, 89, 123, 124, 125, 126, 127, 128, 129, 130, 131, 132, 133, 134, 135, 136, 137, 138, 146, 147, 148, 157, 158, 159, 160]
theorem fM_requests {W : List Nat} {t0 : moS} {t : moS} {p1 : Int32} (hW : sbs wM_requests W) (h : mfr W t0 t) : aw (M_requests t p1) (mfr W t0) := by
  unfold M_requests
  exact (fM_requests_b2 (hW.of (by decide)) (by assumption))
def wM_toldMetric_b236 : List Nat := []
theorem fM_toldMetric_b236 {W : List Nat} {t0 : moS} {t : moS} {p1 : Int32} {p2 : Int32} {a4 : Int32} {a5 : Int32} {a6 : Int64} {a8 : Int64} {a10 : Int32} (hW : sbs wM_toldMetric_b236 W) (h : mfr W t0 t) : aw (M_toldMetric_b236 t p1 p2 a4 a5 a6 a8 a10) (fun z => (mfr W t0) z.2) := by
  unfold M_toldMetric_b236
  exact (aw_bind aw_t (fun _ h => (aw_bind aw_t (fun _ h => (aw_if (aw_some (by first | assumption | trivial | exact True.intro)) (aw_some (by first | assumption | trivial | exact True.intro)))))))
def wM_toldMetric_b234 : List Nat := []
theorem fM_toldMetric_b234 {W : List Nat} {t0 : moS} {t : moS} {p1 : Int32} {p2 : Int32} {a5 : Int32} {a6 : Int64} {a8 : Int64} {a10 : Int32} {u0 : Int32} (hW : sbs wM_toldMetric_b234 W) (h : mfr W t0 t) : aw (M_toldMetric_b234 t p1 p2 a5 a6 a8 a10 u0) (fun z => (mfr W t0) z.2) := by
  unfold M_toldMetric_b234
  exact (fM_toldMetric_b236 (hW.of (by decide)) (by assumption))
def wM_toldMetric_b105 : List Nat := []
theorem fM_toldMetric_b105 {W : List Nat} {t0 : moS} {t : moS} {p1 : Int32} {p2 : Int32} {p3 : Int32} {a4 : Int32} (hW : sbs wM_toldMetric_b105 W) (h : mfr W t0 t) : aw (M_toldMetric_b105 t p1 p2 p3 a4) (fun z => (mfr W t0) z.2) := by
  unfold M_toldMetric_b105
  exact (aw_bind aw_t (fun _ h => (aw_bind aw_t (fun _ h => (aw_bind aw_t (fun _ h => (aw_bind aw_t (fun _ h => (aw_bind aw_t (fun _ h => (aw_if (aw_some (by first | assumption | trivial | exact True.intro)) (aw_bind aw_t (fun _ h => (aw_bind aw_t (fun _ h => (aw_if (aw_some (by first | assumption | trivial | exact True.intro)) (aw_bind aw_t (fun _ h => (aw_if (aw_bind aw_t (fun _ h => (aw_if (aw_bind aw_t (fun _ h => (aw_if (aw_some (by first | assumption | trivial | exact True.intro)) (aw_bind aw_t (fun _ h => (aw_if (fM_toldMetric_b234 (hW.of (by decide)) (by assumption)) (fM_toldMetric_b234 (hW.of (by decide)) (by assumption)))))))) (aw_some (by first | assumption | trivial | exact True.intro))))) (fM_toldMetric_b236 (hW.of (by decide)) (by assumption)))))))))))))))))))))
def wM_toldMetric_b102 : List Nat := [145]
theorem fM_toldMetric_b102 {W : List Nat} {t0 : moS} {t : moS} {p1 : Int32} {p2 : Int32} {p3 : Int32} {a4 : Int32} {u1 : Int32} (hW : sbs wM_toldMetric_b102 W) (h : mfr W t0 t) : aw (M_toldMetric_b102 t p1 p2 p3 a4 u1) (fun z => (mfr W t0) z.2) := by
  unfold M_toldMetric_b102
  exact (aw_let (mfr.tr (by assumption) (mfr.ss (hW.m (by decide)))) (fun _ h => (fM_toldMetric_b105 (hW.of (by decide)) (by assumption))))
def wM_toldMetric_b45 : List Nat := [145]
theorem fM_toldMetric_b45 {W : List Nat} {t0 : moS} {t : moS} {p1 : Int32} {p2 : Int32} {p3 : Int32} {a4 : Int32} {u0 : Int32} {u1 : Int32} (hW : sbs wM_toldMetric_b45 W) (h : mfr W t0 t) : aw (M_toldMetric_b45 t p1 p2 p3 a4 u0 u1) (fun z => (mfr W t0) z.2) := by
  unfold M_toldMetric_b45
  exact (aw_bind aw_t (fun _ h => (aw_if (aw_some (by first | assumption | trivial | exact True.intro)) (aw_bind aw_t (fun _ h => (aw_if (aw_bind aw_t (fun _ h => (aw_bind aw_t (fun _ h => (aw_if (fM_toldMetric_b102 (hW.of (by decide)) (by assumption)) (aw_bind aw_t (fun _ h => (fM_toldMetric_b102 (hW.of (by decide)) (by assumption))))))))) (fM_toldMetric_b105 (hW.of (by decide)) (by assumption))))))))
def wM_toldMetric : List Nat := [145]
theorem fM_toldMetric {W : List Nat} {t0 : moS} {t : moS} {p1 : Int32} {p2 : Int32} {p3 : Int32} (hW : sbs wM_toldMetric W) (h : mfr W t0 t) : aw (M_toldMetric t p1 p2 p3) (fun z => (mfr W t0) z.2) := by
  unfold M_toldMetric
  exact (aw_bind aw_t (fun _ h => (aw_bind aw_t (fun _ h => (aw_let (mfr.tr (by assumption) (mfr.ss (hW.m (by decide)))) (fun _ h => (aw_bind aw_t (fun _ h => (aw_if (fM_toldMetric_b105 (hW.of (by decide)) (by assumption)) (aw_bind aw_t (fun _ h => (aw_if (fM_toldMetric_b45 (hW.of (by decide)) (by assumption)) (fM_toldMetric_b45 (hW.of (by decide)) (by assumption))))))))))))))
def wM_enter_b144 : List Nat := [140, 141, 142, 143, 144]
theorem fM_enter_b144 {W : List Nat} {t0 : moS} {t : moS} {p1 : Int64} {p3 : Int64} {p5 : Int32} {p6 : Int32} {p7 : Int32} {a8 : Int32} (hW : sbs wM_enter_b144 W) (h : mfr W t0 t) : aw (M_enter_b144 t p1 p3 p5 p6 p7 a8) (mfr W t0) := by
  unfold M_enter_b144
  exact (aw_bind (aw_wrJ (hW.m (by decide)) (by assumption)) (fun _ h => (aw_bind (aw_wrJ (hW.m (by decide)) (by assumption)) (fun _ h => (aw_bind (aw_wrI (hW.m (by decide)) (by assumption)) (fun _ h => (aw_bind (aw_wrI (hW.m (by decide)) (by assumption)) (fun _ h => (aw_bind (aw_wrI (hW.m (by decide)) (by assumption)) (fun _ h => (aw_some (by first | assumption | trivial | exact True.intro))))))))))))
def wM_enter_s16 : List Nat := [140, 141, 142, 143, 144]
theorem fM_enter_s16 {W : List Nat} {t0 : moS} {t : moS} {p1 : Int64} {p3 : Int64} {p5 : Int32} {p6 : Int32} {p7 : Int32} {a8 : Int32} (hW : sbs wM_enter_s16 W) (h : mfr W t0 t) : aw (M_enter_s16 t p1 p3 p5 p6 p7 a8) (Sum.elim (fun z => (mfr W t0) z.2) (mfr W t0)) := by
  unfold M_enter_s16
  exact (aw_if (aw_bind aw_t (fun _ h => (aw_bind aw_t (fun _ h => (aw_bind aw_t (fun _ h => (aw_bind aw_t (fun _ h => (aw_if (aw_xo (fM_enter_b144 (hW.of (by decide)) (by assumption))) (aw_bind aw_t (fun _ h => (aw_bind (aw_wrJ (hW.m (by decide)) (by assumption)) (fun _ h => (aw_bind aw_t (fun _ h => (aw_bind (aw_wrJ (hW.m (by decide)) (by assumption)) (fun _ h => (aw_bind aw_t (fun _ h => (aw_bind (aw_wrI (hW.m (by decide)) (by assumption)) (fun _ h => (aw_bind aw_t (fun _ h => (aw_bind (aw_wrI (hW.m (by decide)) (by assumption)) (fun _ h => (aw_bind aw_t (fun _ h => (aw_bind (aw_wrI (hW.m (by decide)) (by assumption)) (fun _ h => (aw_some (by first | assumption | trivial | exact True.intro))))))))))))))))))))))))))))))) (aw_xo (fM_enter_b144 (hW.of (by decide)) (by assumption))))
def wM_enter_b16 : List Nat := [140, 141, 142, 143, 144]
theorem fM_enter_b16 {W : List Nat} {t0 : moS} {t : moS} {p1 : Int64} {p3 : Int64} {p5 : Int32} {p6 : Int32} {p7 : Int32} {a8 : Int32} (hW : sbs wM_enter_b16 W) (h : mfr W t0 t) : aw (M_enter_b16 t p1 p3 p5 p6 p7 a8) (mfr W t0) := by
  unfold M_enter_b16
  refine aw_lp (I := (fun z => (mfr W t0) z.2)) ?_ ?_
  · exact h
  · intro y hy
    exact (fM_enter_s16 (hW.of (by decide)) hy)
def wM_enter : List Nat := [139, 140, 141, 142, 143, 144]
theorem fM_enter {W : List Nat} {t0 : moS} {t : moS} {p1 : Int64} {p3 : Int64} {p5 : Int32} {p6 : Int32} {p7 : Int32} (hW : sbs wM_enter W) (h : mfr W t0 t) : aw (M_enter t p1 p3 p5 p6 p7) (mfr W t0) := by
  unfold M_enter
  exact (aw_let (mfr.tr (by assumption) (mfr.ss (hW.m (by decide)))) (fun _ h => (fM_enter_b16 (hW.of (by decide)) (by assumption))))
def wM_gather_b305 : List Nat := []
theorem fM_gather_b305 {W : List Nat} {t0 : moS} {t : moS} {p1 : Int32} {p2 : Int32} {p3 : Int32} {a4 : Int32} {a5 : Int32} (hW : sbs wM_gather_b305 W) (h : mfr W t0 t) : aw (M_gather_b305 t p1 p2 p3 a4 a5) (Sum.elim (fun z => (mfr W t0) z.2) (mfr W t0)) := by
  unfold M_gather_b305
  exact (aw_some (by first | assumption | trivial | exact True.intro))
def wM_gather_b250 : List Nat := [152]
theorem fM_gather_b250 {W : List Nat} {t0 : moS} {t : moS} {p1 : Int32} {p2 : Int32} {p3 : Int32} {a4 : Int32} {a5 : Int32} {u1 : Int32} {u2 : Int32} (hW : sbs wM_gather_b250 W) (h : mfr W t0 t) : aw (M_gather_b250 t p1 p2 p3 a4 a5 u1 u2) (Sum.elim (fun z => (mfr W t0) z.2) (mfr W t0)) := by
  unfold M_gather_b250
  exact (aw_bind (aw_wrZ (hW.m (by decide)) (by assumption)) (fun _ h => (fM_gather_b305 (hW.of (by decide)) (by assumption))))
def wM_gather_b245 : List Nat := [152]
theorem fM_gather_b245 {W : List Nat} {t0 : moS} {t : moS} {p1 : Int32} {p2 : Int32} {p3 : Int32} {a4 : Int32} {a5 : Int32} {u1 : Int32} (hW : sbs wM_gather_b245 W) (h : mfr W t0 t) : aw (M_gather_b245 t p1 p2 p3 a4 a5 u1) (Sum.elim (fun z => (mfr W t0) z.2) (mfr W t0)) := by
  unfold M_gather_b245
  exact (fM_gather_b250 (hW.of (by decide)) (by assumption))
def wM_gather_b223 : List Nat := [151, 152]
theorem fM_gather_b223 {W : List Nat} {t0 : moS} {t : moS} {p1 : Int32} {p2 : Int32} {p3 : Int32} {a4 : Int32} {a5 : Int32} {a7 : Int32} {a8 : Int32} {u1 : Int32} {u2 : Int32} (hW : sbs wM_gather_b223 W) (h : mfr W t0 t) : aw (M_gather_b223 t p1 p2 p3 a4 a5 a7 a8 u1 u2) (Sum.elim (fun z => (mfr W t0) z.2) (mfr W t0)) := by
  unfold M_gather_b223
  exact (aw_bind (aw_wrI (hW.m (by decide)) (by assumption)) (fun _ h => (aw_bind aw_t (fun _ h => (aw_if (aw_if (fM_gather_b250 (hW.of (by decide)) (by assumption)) (fM_gather_b245 (hW.of (by decide)) (by assumption))) (fM_gather_b245 (hW.of (by decide)) (by assumption)))))))
def wM_gather_b176 : List Nat := [139, 140, 141, 142, 143, 144, 151, 152]
theorem fM_gather_b176 {W : List Nat} {t0 : moS} {t : moS} {p1 : Int32} {p2 : Int32} {p3 : Int32} {a4 : Int32} {a5 : Int32} {a6 : Int32} {u0 : Int32} (hW : sbs wM_gather_b176 W) (h : mfr W t0 t) : aw (M_gather_b176 t p1 p2 p3 a4 a5 a6 u0) (Sum.elim (fun z => (mfr W t0) z.2) (mfr W t0)) := by
  unfold M_gather_b176
  exact (aw_bind aw_t (fun _ h => (aw_if (aw_if (fM_gather_b305 (hW.of (by decide)) (by assumption)) (aw_bind aw_t (fun _ h => (aw_bind aw_t (fun _ h => (aw_if (fM_gather_b305 (hW.of (by decide)) (by assumption)) (aw_bind aw_t (fun _ h => (aw_bind aw_t (fun _ h => (aw_bind aw_t (fun _ h => (aw_bind (fM_enter (hW.of (by decide)) (by assumption)) (fun _ h => (fM_gather_b305 (hW.of (by decide)) (by assumption)))))))))))))))) (aw_bind aw_t (fun _ h => (aw_if (fM_gather_b223 (hW.of (by decide)) (by assumption)) (aw_bind aw_t (fun _ h => (fM_gather_b223 (hW.of (by decide)) (by assumption))))))))))
def wM_gather_b171 : List Nat := [139, 140, 141, 142, 143, 144, 151, 152]
theorem fM_gather_b171 {W : List Nat} {t0 : moS} {t : moS} {p1 : Int32} {p2 : Int32} {p3 : Int32} {a4 : Int32} {a5 : Int32} {a6 : Int32} (hW : sbs wM_gather_b171 W) (h : mfr W t0 t) : aw (M_gather_b171 t p1 p2 p3 a4 a5 a6) (Sum.elim (fun z => (mfr W t0) z.2) (mfr W t0)) := by
  unfold M_gather_b171
  exact (fM_gather_b176 (hW.of (by decide)) (by assumption))
def wM_gather_b143 : List Nat := [139, 140, 141, 142, 143, 144, 151, 152]
theorem fM_gather_b143 {W : List Nat} {t0 : moS} {t : moS} {p1 : Int32} {p2 : Int32} {p3 : Int32} {a4 : Int32} {a5 : Int32} {a6 : Int32} (hW : sbs wM_gather_b143 W) (h : mfr W t0 t) : aw (M_gather_b143 t p1 p2 p3 a4 a5 a6) (Sum.elim (fun z => (mfr W t0) z.2) (mfr W t0)) := by
  unfold M_gather_b143
  exact (aw_if (fM_gather_b305 (hW.of (by decide)) (by assumption)) (aw_if (fM_gather_b305 (hW.of (by decide)) (by assumption)) (aw_if (fM_gather_b171 (hW.of (by decide)) (by assumption)) (aw_bind aw_t (fun _ h => (aw_if (fM_gather_b176 (hW.of (by decide)) (by assumption)) (fM_gather_b171 (hW.of (by decide)) (by assumption))))))))
def wM_gather_b102 : List Nat := [139, 140, 141, 142, 143, 144, 151, 152]
theorem fM_gather_b102 {W : List Nat} {t0 : moS} {t : moS} {p1 : Int32} {p2 : Int32} {p3 : Int32} {a4 : Int32} {a5 : Int32} {u0 : Int32} (hW : sbs wM_gather_b102 W) (h : mfr W t0 t) : aw (M_gather_b102 t p1 p2 p3 a4 a5 u0) (Sum.elim (fun z => (mfr W t0) z.2) (mfr W t0)) := by
  unfold M_gather_b102
  exact (aw_if (aw_bind aw_t (fun _ h => (aw_bind aw_t (fun _ h => (aw_bind aw_t (fun _ h => (aw_bind aw_t (fun _ h => (aw_bind (fM_enter (hW.of (by decide)) (by assumption)) (fun _ h => (fM_gather_b143 (hW.of (by decide)) (by assumption)))))))))))) (fM_gather_b143 (hW.of (by decide)) (by assumption)))
def wM_gather_b391 : List Nat := []
theorem fM_gather_b391 {W : List Nat} {t0 : moS} {t : moS} {p1 : Int32} {p3 : Int32} {a5 : Int32} (hW : sbs wM_gather_b391 W) (h : mfr W t0 t) : aw (M_gather_b391 t p1 p3 a5) (Sum.elim (fun z => (mfr W t0) z.2) (mfr W t0)) := by
  unfold M_gather_b391
  exact (aw_some (by first | assumption | trivial | exact True.intro))
def wM_gather_s314 : List Nat := [139, 140, 141, 142, 143, 144]
theorem fM_gather_s314 {W : List Nat} {t0 : moS} {t : moS} {p1 : Int32} {p3 : Int32} {a5 : Int32} (hW : sbs wM_gather_s314 W) (h : mfr W t0 t) : aw (M_gather_s314 t p1 p3 a5) (Sum.elim (fun z => (mfr W t0) z.2) (mfr W t0)) := by
  unfold M_gather_s314
  exact (aw_bind aw_t (fun _ h => (aw_if (aw_bind aw_t (fun _ h => (aw_if (fM_gather_b391 (hW.of (by decide)) (by assumption)) (aw_bind aw_t (fun _ h => (aw_bind aw_t (fun _ h => (aw_if (fM_gather_b391 (hW.of (by decide)) (by assumption)) (aw_bind aw_t (fun _ h => (aw_bind aw_t (fun _ h => (aw_bind aw_t (fun _ h => (aw_bind aw_t (fun _ h => (aw_bind (fM_enter (hW.of (by decide)) (by assumption)) (fun _ h => (fM_gather_b391 (hW.of (by decide)) (by assumption)))))))))))))))))))) (aw_xo (aw_if (aw_bind aw_t (fun _ h => (aw_if (aw_bind aw_t (fun _ h => (aw_bind (fM_enter (hW.of (by decide)) (by assumption)) (fun _ h => (aw_some (by first | assumption | trivial | exact True.intro)))))) (aw_some (by first | assumption | trivial | exact True.intro))))) (aw_some (by first | assumption | trivial | exact True.intro)))))))
def wM_gather_b314 : List Nat := [139, 140, 141, 142, 143, 144]
theorem fM_gather_b314 {W : List Nat} {t0 : moS} {t : moS} {p1 : Int32} {p3 : Int32} {a5 : Int32} (hW : sbs wM_gather_b314 W) (h : mfr W t0 t) : aw (M_gather_b314 t p1 p3 a5) (mfr W t0) := by
  unfold M_gather_b314
  refine aw_lp (I := (fun z => (mfr W t0) z.2)) ?_ ?_
  · exact h
  · intro y hy
    exact (fM_gather_s314 (hW.of (by decide)) hy)
def wM_gather_s50 : List Nat := [139, 140, 141, 142, 143, 144, 145, 151, 152]
theorem fM_gather_s50 {W : List Nat} {t0 : moS} {t : moS} {p1 : Int32} {p2 : Int32} {p3 : Int32} {a4 : Int32} {a5 : Int32} (hW : sbs wM_gather_s50 W) (h : mfr W t0 t) : aw (M_gather_s50 t p1 p2 p3 a4 a5) (Sum.elim (fun z => (mfr W t0) z.2) (mfr W t0)) := by
  unfold M_gather_s50
  exact (aw_bind aw_t (fun _ h => (aw_if (aw_bind aw_t (fun _ h => (aw_if (aw_if (fM_gather_b102 (hW.of (by decide)) (by assumption)) (aw_bn2 (fM_toldMetric (hW.of (by decide)) (by assumption)) (fun _ _ h => (fM_gather_b102 (hW.of (by decide)) (by assumption))))) (fM_gather_b305 (hW.of (by decide)) (by assumption))))) (aw_xo (fM_gather_b314 (hW.of (by decide)) (by assumption))))))
def wM_gather_b50 : List Nat := [139, 140, 141, 142, 143, 144, 145, 151, 152]
theorem fM_gather_b50 {W : List Nat} {t0 : moS} {t : moS} {p1 : Int32} {p2 : Int32} {p3 : Int32} {a4 : Int32} {a5 : Int32} (hW : sbs wM_gather_b50 W) (h : mfr W t0 t) : aw (M_gather_b50 t p1 p2 p3 a4 a5) (mfr W t0) := by
  unfold M_gather_b50
  refine aw_lp (I := (fun z => (mfr W t0) z.2)) ?_ ?_
  · exact h
  · intro y hy
    exact (fM_gather_s50 (hW.of (by decide)) hy)
def wM_gather_s13 : List Nat := [139, 140, 141, 142, 143, 144, 145, 151, 152]
theorem fM_gather_s13 {W : List Nat} {t0 : moS} {t : moS} {p1 : Int32} {p2 : Int32} {p3 : Int32} {a4 : Int32} {a5 : Int32} (hW : sbs wM_gather_s13 W) (h : mfr W t0 t) : aw (M_gather_s13 t p1 p2 p3 a4 a5) (Sum.elim (fun z => (mfr W t0) z.2) (mfr W t0)) := by
  unfold M_gather_s13
  exact (aw_if (aw_bind (aw_wrI (hW.m (by decide)) (by assumption)) (fun _ h => (aw_bind (aw_wrZ (hW.m (by decide)) (by assumption)) (fun _ h => (aw_some (by first | assumption | trivial | exact True.intro)))))) (aw_xo (fM_gather_b50 (hW.of (by decide)) (by assumption))))
def wM_gather_b13 : List Nat := [139, 140, 141, 142, 143, 144, 145, 151, 152]
theorem fM_gather_b13 {W : List Nat} {t0 : moS} {t : moS} {p1 : Int32} {p2 : Int32} {p3 : Int32} {a4 : Int32} {a5 : Int32} (hW : sbs wM_gather_b13 W) (h : mfr W t0 t) : aw (M_gather_b13 t p1 p2 p3 a4 a5) (mfr W t0) := by
  unfold M_gather_b13
  refine aw_lp (I := (fun z => (mfr W t0) z.2)) ?_ ?_
  · exact h
  · intro y hy
    exact (fM_gather_s13 (hW.of (by decide)) hy)
def wM_gather : List Nat := [139, 140, 141, 142, 143, 144, 145, 151, 152]
theorem fM_gather {W : List Nat} {t0 : moS} {t : moS} {p1 : Int32} {p2 : Int32} {p3 : Int32} (hW : sbs wM_gather W) (h : mfr W t0 t) : aw (M_gather t p1 p2 p3) (mfr W t0) := by
  unfold M_gather
  exact (aw_let (mfr.tr (by assumption) (mfr.ss (hW.m (by decide)))) (fun _ h => (fM_gather_b13 (hW.of (by decide)) (by assumption))))
def wM_layEntry_s3 : List Nat := [146]
theorem fM_layEntry_s3 {W : List Nat} {t0 : moS} {t : moS} {p1 : Int32} {p2 : Int32} {p3 : Int32} {a4 : Int32} (hW : sbs wM_layEntry_s3 W) (h : mfr W t0 t) : aw (M_layEntry_s3 t p1 p2 p3 a4) (Sum.elim (fun z => (mfr W t0) z.2) (mfr W t0)) := by
  unfold M_layEntry_s3
  exact (aw_if (aw_bind (aw_wrI (hW.m (by decide)) (by assumption)) (fun _ h => (aw_some (by first | assumption | trivial | exact True.intro)))) (aw_xo (aw_if (aw_bind aw_t (fun _ h => (aw_bind aw_t (fun _ h => (aw_bind (fM_putAddress (hW.of (by decide)) (hW.m (by decide)) (by assumption)) (fun _ h => (aw_bind aw_t (fun _ h => (aw_bind (fM_put2 (hW.of (by decide)) (hW.m (by decide)) (by assumption)) (fun _ h => (aw_bind aw_t (fun _ h => (aw_bind (aw_wrI (hW.m (by decide)) (by assumption)) (fun _ h => (aw_bind aw_t (fun _ h => (aw_bind (aw_wrI (hW.m (by decide)) (by assumption)) (fun _ h => (aw_some (by first | assumption | trivial | exact True.intro)))))))))))))))))))) (aw_bind (aw_wrI (hW.m (by decide)) (by assumption)) (fun _ h => (aw_bind aw_t (fun _ h => (aw_bind (fM_put2 (hW.of (by decide)) (hW.m (by decide)) (by assumption)) (fun _ h => (aw_bind aw_t (fun _ h => (aw_bind (fM_putAddress (hW.of (by decide)) (hW.m (by decide)) (by assumption)) (fun _ h => (aw_bind aw_t (fun _ h => (aw_bind (fM_putAddress (hW.of (by decide)) (hW.m (by decide)) (by assumption)) (fun _ h => (aw_bind aw_t (fun _ h => (aw_bind (fM_put4 (hW.of (by decide)) (hW.m (by decide)) (by assumption)) (fun _ h => (aw_some (by first | assumption | trivial | exact True.intro)))))))))))))))))))))))
def wM_layEntry_b3 : List Nat := [146]
theorem fM_layEntry_b3 {W : List Nat} {t0 : moS} {t : moS} {p1 : Int32} {p2 : Int32} {p3 : Int32} {a4 : Int32} (hW : sbs wM_layEntry_b3 W) (h : mfr W t0 t) : aw (M_layEntry_b3 t p1 p2 p3 a4) (mfr W t0) := by
  unfold M_layEntry_b3
  refine aw_lp (I := (fun z => (mfr W t0) z.2)) ?_ ?_
  · exact h
  · intro y hy
    exact (fM_layEntry_s3 (hW.of (by decide)) hy)
def wM_layEntry : List Nat := [146]
theorem fM_layEntry {W : List Nat} {t0 : moS} {t : moS} {p1 : Int32} {p2 : Int32} {p3 : Int32} (hW : sbs wM_layEntry W) (h : mfr W t0 t) : aw (M_layEntry t p1 p2 p3) (mfr W t0) := by
  unfold M_layEntry
  exact (fM_layEntry_b3 (hW.of (by decide)) (by assumption))
def wM_tellTo_b76 : List Nat := []
theorem fM_tellTo_b76 {W : List Nat} {t0 : moS} {t : moS} {p1 : Int32} {p2 : Int32} {p3 : Int32} {p4 : Int64} {p6 : Int64} {a8 : Int32} {a9 : Int32} {a10 : Int32} (hW : sbs wM_tellTo_b76 W) (h : mfr W t0 t) : aw (M_tellTo_b76 t p1 p2 p3 p4 p6 a8 a9 a10) (Sum.elim (fun z => (fun z => (mfr W t0) z.2) z.2) (mfr W t0)) := by
  unfold M_tellTo_b76
  exact (aw_some (by first | assumption | trivial | exact True.intro))
def wM_tellTo_b59 : List Nat := [23, 24, 25, 26, 45, 89, 123, 124, 125, 126, 127, 128, 129, 130, 131, 132, 133, 134, 135, 136, 137, 138, 147, 148, 157, 158, 159, 160]
theorem fM_tellTo_b59 {W : List Nat} {t0 : moS} {t : moS} {p1 : Int32} {p2 : Int32} {p3 : Int32} {p4 : Int64} {p6 : Int64} {a8 : Int32} {a9 : Int32} {a10 : Int32} (hW : sbs wM_tellTo_b59 W) (h : mfr W t0 t) : aw (M_tellTo_b59 t p1 p2 p3 p4 p6 a8 a9 a10) (Sum.elim (fun z => (fun z => (mfr W t0) z.2) z.2) (mfr W t0)) := by
  unfold M_tellTo_b59
  exact (aw_bind (fM_send (hW.of (by decide)) (by assumption)) (fun _ h => (fM_tellTo_b76 (hW.of (by decide)) (by assumption))))
