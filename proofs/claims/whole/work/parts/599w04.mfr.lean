/-! What the model's functions leave as it was, by program. -/
def wM_receive_b250 : List Nat := [12, 13, 14, 15, 23, 24, 25, 26, 44, 45, 89, 101, 102, 103, 104, 105, 106, 107, 108, 109, 110, 111, 112, 113, 114, 115, 116, 117, 118, 119, 120, 121, 122, 123, 124, 125, 126, 127, 128, 129, 130, 131, 132, 133, 134, 135, 136, 137, 138, 139, 140, 141, 142, 143, 144, 145, 146, 147, 148, 151, 152, 157, 158, 159, 160, 162, 163, 164, 165]
theorem fM_receive_b250 {W : List Nat} {t0 : moS} {t : moS} {p1 : Int32} {p2 : Int32} {p3 : Int64} {p5 : Int64} {p7 : Int32} {p8 : Int32} {a9 : Int32} {a12 : Int32} {u0 : Int32} (hW : sbs wM_receive_b250 W) (h : mfr W t0 t) : aw (M_receive_b250 t p1 p2 p3 p5 p7 p8 a9 a12 u0) (mfr W t0) := by
  unfold M_receive_b250
  exact (aw_if (fM_receive_b285 (hW.of (by decide)) (by assumption)) (aw_if (fM_receive_b272 (hW.of (by decide)) (by assumption)) (fM_receive_b272 (hW.of (by decide)) (by assumption))))
def wM_receive_b219 : List Nat := [12, 13, 14, 15, 23, 24, 25, 26, 44, 45, 89, 101, 102, 103, 104, 105, 106, 107, 108, 109, 110, 111, 112, 113, 114, 115, 116, 117, 118, 119, 120, 121, 122, 123, 124, 125, 126, 127, 128, 129, 130, 131, 132, 133, 134, 135, 136, 137, 138, 139, 140, 141, 142, 143, 144, 145, 146, 147, 148, 151, 152, 157, 158, 159, 160, 162, 163, 164, 165]
theorem fM_receive_b219 {W : List Nat} {t0 : moS} {t : moS} {p1 : Int32} {p2 : Int32} {p3 : Int64} {p5 : Int64} {p7 : Int32} {p8 : Int32} {a9 : Int32} {a12 : Int32} {u0 : Int32} (hW : sbs wM_receive_b219 W) (h : mfr W t0 t) : aw (M_receive_b219 t p1 p2 p3 p5 p7 p8 a9 a12 u0) (mfr W t0) := by
  unfold M_receive_b219
  exact (aw_if (aw_bind (fM_tally (hW.of (by decide)) (by assumption)) (fun _ h => (aw_some (by first | assumption | trivial | exact True.intro)))) (aw_bind aw_t (fun _ h => (aw_if (fM_receive_b250 (hW.of (by decide)) (by assumption)) (fM_receive_b250 (hW.of (by decide)) (by assumption))))))
def wM_receive_b218 : List Nat := [12, 13, 14, 15, 23, 24, 25, 26, 44, 45, 89, 101, 102, 103, 104, 105, 106, 107, 108, 109, 110, 111, 112, 113, 114, 115, 116, 117, 118, 119, 120, 121, 122, 123, 124, 125, 126, 127, 128, 129, 130, 131, 132, 133, 134, 135, 136, 137, 138, 139, 140, 141, 142, 143, 144, 145, 146, 147, 148, 151, 152, 157, 158, 159, 160, 162, 163, 164, 165]
theorem fM_receive_b218 {W : List Nat} {t0 : moS} {t : moS} {p1 : Int32} {p2 : Int32} {p3 : Int64} {p5 : Int64} {p7 : Int32} {p8 : Int32} {a9 : Int32} {a12 : Int32} (hW : sbs wM_receive_b218 W) (h : mfr W t0 t) : aw (M_receive_b218 t p1 p2 p3 p5 p7 p8 a9 a12) (mfr W t0) := by
  unfold M_receive_b218
  exact (fM_receive_b219 (hW.of (by decide)) (by assumption))
def wM_receive_b193 : List Nat := [12, 13, 14, 15, 23, 24, 25, 26, 44, 45, 89, 101, 102, 103, 104, 105, 106, 107, 108, 109, 110, 111, 112, 113, 114, 115, 116, 117, 118, 119, 120, 121, 122, 123, 124, 125, 126, 127, 128, 129, 130, 131, 132, 133, 134, 135, 136, 137, 138, 139, 140, 141, 142, 143, 144, 145, 146, 147, 148, 151, 152, 157, 158, 159, 160, 162, 163, 164, 165]
theorem fM_receive_b193 {W : List Nat} {t0 : moS} {t : moS} {p1 : Int32} {p2 : Int32} {p3 : Int64} {p5 : Int64} {p7 : Int32} {p8 : Int32} {a9 : Int32} {a12 : Int32} {u0 : Int32} {u1 : Int32} (hW : sbs wM_receive_b193 W) (h : mfr W t0 t) : aw (M_receive_b193 t p1 p2 p3 p5 p7 p8 a9 a12 u0 u1) (mfr W t0) := by
  unfold M_receive_b193
  exact (aw_if (aw_bind aw_t (fun _ h => (aw_if (aw_bind aw_t (fun _ h => (aw_if (fM_receive_b219 (hW.of (by decide)) (by assumption)) (fM_receive_b218 (hW.of (by decide)) (by assumption))))) (fM_receive_b218 (hW.of (by decide)) (by assumption))))) (fM_receive_b218 (hW.of (by decide)) (by assumption)))
def wM_receive_b178 : List Nat := [12, 13, 14, 15, 23, 24, 25, 26, 44, 45, 89, 101, 102, 103, 104, 105, 106, 107, 108, 109, 110, 111, 112, 113, 114, 115, 116, 117, 118, 119, 120, 121, 122, 123, 124, 125, 126, 127, 128, 129, 130, 131, 132, 133, 134, 135, 136, 137, 138, 139, 140, 141, 142, 143, 144, 145, 146, 147, 148, 151, 152, 157, 158, 159, 160, 162, 163, 164, 165]
theorem fM_receive_b178 {W : List Nat} {t0 : moS} {t : moS} {p1 : Int32} {p2 : Int32} {p3 : Int64} {p5 : Int64} {p7 : Int32} {p8 : Int32} {a9 : Int32} {a12 : Int32} (hW : sbs wM_receive_b178 W) (h : mfr W t0 t) : aw (M_receive_b178 t p1 p2 p3 p5 p7 p8 a9 a12) (mfr W t0) := by
  unfold M_receive_b178
  exact (aw_bind aw_t (fun _ h => (aw_if (fM_receive_b193 (hW.of (by decide)) (by assumption)) (fM_receive_b193 (hW.of (by decide)) (by assumption)))))
def wM_receive_b151 : List Nat := [12, 13, 14, 15, 23, 24, 25, 26, 44, 45, 89, 101, 102, 103, 104, 105, 106, 107, 108, 109, 110, 111, 112, 113, 114, 115, 116, 117, 118, 119, 120, 121, 122, 123, 124, 125, 126, 127, 128, 129, 130, 131, 132, 133, 134, 135, 136, 137, 138, 139, 140, 141, 142, 143, 144, 145, 146, 147, 148, 151, 152, 157, 158, 159, 160, 162, 163, 164, 165]
theorem fM_receive_b151 {W : List Nat} {t0 : moS} {t : moS} {p1 : Int32} {p2 : Int32} {p3 : Int64} {p5 : Int64} {p7 : Int32} {p8 : Int32} {a9 : Int32} {a12 : Int32} {u0 : Int32} (hW : sbs wM_receive_b151 W) (h : mfr W t0 t) : aw (M_receive_b151 t p1 p2 p3 p5 p7 p8 a9 a12 u0) (mfr W t0) := by
  unfold M_receive_b151
  exact (aw_if (fM_receive_b218 (hW.of (by decide)) (by assumption)) (aw_bind aw_t (fun _ h => (aw_if (fM_receive_b178 (hW.of (by decide)) (by assumption)) (aw_bind aw_t (fun _ h => (aw_if (fM_receive_b178 (hW.of (by decide)) (by assumption)) (fM_receive_b218 (hW.of (by decide)) (by assumption)))))))))
def wM_receive_b150 : List Nat := [12, 13, 14, 15, 23, 24, 25, 26, 44, 45, 89, 101, 102, 103, 104, 105, 106, 107, 108, 109, 110, 111, 112, 113, 114, 115, 116, 117, 118, 119, 120, 121, 122, 123, 124, 125, 126, 127, 128, 129, 130, 131, 132, 133, 134, 135, 136, 137, 138, 139, 140, 141, 142, 143, 144, 145, 146, 147, 148, 151, 152, 157, 158, 159, 160, 162, 163, 164, 165]
theorem fM_receive_b150 {W : List Nat} {t0 : moS} {t : moS} {p1 : Int32} {p2 : Int32} {p3 : Int64} {p5 : Int64} {p7 : Int32} {p8 : Int32} {a9 : Int32} {a12 : Int32} (hW : sbs wM_receive_b150 W) (h : mfr W t0 t) : aw (M_receive_b150 t p1 p2 p3 p5 p7 p8 a9 a12) (mfr W t0) := by
  unfold M_receive_b150
  exact (fM_receive_b151 (hW.of (by decide)) (by assumption))
def wM_receive_b143 : List Nat := [12, 13, 14, 15, 23, 24, 25, 26, 44, 45, 89, 101, 102, 103, 104, 105, 106, 107, 108, 109, 110, 111, 112, 113, 114, 115, 116, 117, 118, 119, 120, 121, 122, 123, 124, 125, 126, 127, 128, 129, 130, 131, 132, 133, 134, 135, 136, 137, 138, 139, 140, 141, 142, 143, 144, 145, 146, 147, 148, 151, 152, 157, 158, 159, 160, 162, 163, 164, 165]
theorem fM_receive_b143 {W : List Nat} {t0 : moS} {t : moS} {p1 : Int32} {p2 : Int32} {p3 : Int64} {p5 : Int64} {p7 : Int32} {p8 : Int32} {a9 : Int32} {a12 : Int32} {u0 : Int32} {u1 : Int32} (hW : sbs wM_receive_b143 W) (h : mfr W t0 t) : aw (M_receive_b143 t p1 p2 p3 p5 p7 p8 a9 a12 u0 u1) (mfr W t0) := by
  unfold M_receive_b143
  exact (aw_if (fM_receive_b150 (hW.of (by decide)) (by assumption)) (fM_receive_b151 (hW.of (by decide)) (by assumption)))
def wM_receive_b50 : List Nat := [12, 13, 14, 15, 23, 24, 25, 26, 44, 45, 89, 101, 102, 103, 104, 105, 106, 107, 108, 109, 110, 111, 112, 113, 114, 115, 116, 117, 118, 119, 120, 121, 122, 123, 124, 125, 126, 127, 128, 129, 130, 131, 132, 133, 134, 135, 136, 137, 138, 139, 140, 141, 142, 143, 144, 145, 146, 147, 148, 151, 152, 157, 158, 159, 160, 162, 163, 164, 165]
theorem fM_receive_b50 {W : List Nat} {t0 : moS} {t : moS} {p1 : Int32} {p2 : Int32} {p3 : Int64} {p5 : Int64} {p7 : Int32} {p8 : Int32} {a9 : Int32} {a10 : Int32} {u0 : Int32} (hW : sbs wM_receive_b50 W) (h : mfr W t0 t) : aw (M_receive_b50 t p1 p2 p3 p5 p7 p8 a9 a10 u0) (mfr W t0) := by
  unfold M_receive_b50
  exact (aw_if (aw_bind aw_t (fun _ h => (aw_bind aw_t (fun _ h => (aw_bind aw_t (fun _ h => (aw_if (fM_receive_b87 (hW.of (by decide)) (by assumption)) (aw_if (fM_receive_b150 (hW.of (by decide)) (by assumption)) (aw_if (aw_if (fM_receive_b143 (hW.of (by decide)) (by assumption)) (fM_receive_b143 (hW.of (by decide)) (by assumption))) (fM_receive_b150 (hW.of (by decide)) (by assumption))))))))))) (fM_receive_b87 (hW.of (by decide)) (by assumption)))
def wM_receive_b49 : List Nat := [12, 13, 14, 15, 23, 24, 25, 26, 44, 45, 89, 101, 102, 103, 104, 105, 106, 107, 108, 109, 110, 111, 112, 113, 114, 115, 116, 117, 118, 119, 120, 121, 122, 123, 124, 125, 126, 127, 128, 129, 130, 131, 132, 133, 134, 135, 136, 137, 138, 139, 140, 141, 142, 143, 144, 145, 146, 147, 148, 151, 152, 157, 158, 159, 160, 162, 163, 164, 165]
theorem fM_receive_b49 {W : List Nat} {t0 : moS} {t : moS} {p1 : Int32} {p2 : Int32} {p3 : Int64} {p5 : Int64} {p7 : Int32} {p8 : Int32} {a9 : Int32} {a10 : Int32} (hW : sbs wM_receive_b49 W) (h : mfr W t0 t) : aw (M_receive_b49 t p1 p2 p3 p5 p7 p8 a9 a10) (mfr W t0) := by
  unfold M_receive_b49
  exact (fM_receive_b50 (hW.of (by decide)) (by assumption))
def wM_receive : List Nat := [12, 13, 14, 15, 23, 24, 25, 26, 44, 45, 89, 101, 102, 103, 104, 105, 106, 107, 108, 109, 110, 111, 112, 113, 114, 115, 116, 117, 118, 119, 120, 121, 122, 123, 124, 125, 126, 127, 128, 129, 130, 131, 132, 133, 134, 135, 136, 137, 138, 139, 140, 141, 142, 143, 144, 145, 146, 147, 148, 151, 152, 157, 158, 159, 160, 162, 163, 164, 165]
theorem fM_receive {W : List Nat} {t0 : moS} {t : moS} {p1 : Int32} {p2 : Int32} {p3 : Int64} {p5 : Int64} {p7 : Int32} {p8 : Int32} (hW : sbs wM_receive W) (h : mfr W t0 t) : aw (M_receive t p1 p2 p3 p5 p7 p8) (mfr W t0) := by
  unfold M_receive
  exact (aw_bind (fM_tally (hW.of (by decide)) (by assumption)) (fun _ h => (aw_bind aw_t (fun _ h => (aw_if (aw_bind aw_t (fun _ h => (aw_if (fM_receive_b50 (hW.of (by decide)) (by assumption)) (fM_receive_b49 (hW.of (by decide)) (by assumption))))) (fM_receive_b49 (hW.of (by decide)) (by assumption)))))))
def wM_takeOff_s14 : List Nat := [123, 124]
theorem fM_takeOff_s14 {W : List Nat} {t0 : moS} {t : moS} {a2 : Int32} (hW : sbs wM_takeOff_s14 W) (h : mfr W t0 t) : aw (M_takeOff_s14 t a2) (Sum.elim (fun z => (mfr W t0) z.2) (mfr W t0)) := by
  unfold M_takeOff_s14
  exact (aw_if (aw_bind aw_t (fun _ h => (aw_bind (aw_wrI (hW.m (by decide)) (by assumption)) (fun _ h => (aw_some (by first | assumption | trivial | exact True.intro)))))) (aw_xo (aw_let (mfr.tr (by assumption) (mfr.ss (hW.m (by decide)))) (fun _ h => (aw_some (by first | assumption | trivial | exact True.intro))))))
def wM_takeOff_b14 : List Nat := [123, 124]
theorem fM_takeOff_b14 {W : List Nat} {t0 : moS} {t : moS} {a2 : Int32} (hW : sbs wM_takeOff_b14 W) (h : mfr W t0 t) : aw (M_takeOff_b14 t a2) (mfr W t0) := by
  unfold M_takeOff_b14
  refine aw_lp (I := (fun z => (mfr W t0) z.2)) ?_ ?_
  · exact h
  · intro y hy
    exact (fM_takeOff_s14 (hW.of (by decide)) hy)
def wM_takeOff : List Nat := [123, 124, 125]
theorem fM_takeOff {W : List Nat} {t0 : moS} {t : moS} {p1 : Int32} (hW : sbs wM_takeOff W) (h : mfr W t0 t) : aw (M_takeOff t p1) (mfr W t0) := by
  unfold M_takeOff
  exact (aw_bind aw_t (fun _ h => (aw_bind (aw_wrZ (hW.m (by decide)) (by assumption)) (fun _ h => (fM_takeOff_b14 (hW.of (by decide)) (by assumption))))))
def wM_arrive_b139 : List Nat := [149]
theorem fM_arrive_b139 {W : List Nat} {t0 : moS} {t : moS} {p1 : Int32} {a2 : Int32} {a3 : Int32} {a4 : Int32} {a5 : Int32} {a6 : Int32} {a7 : Int64} {a9 : Int64} {a11 : Int64} {a13 : Int64} {a15 : Int32} {a16 : Int32} {a17 : Int32} {u1 : Int32} {u2 : Int32} (hW : sbs wM_arrive_b139 W) (h : mfr W t0 t) : aw (M_arrive_b139 t p1 a2 a3 a4 a5 a6 a7 a9 a11 a13 a15 a16 a17 u1 u2) (Sum.elim (fun z => (mfr W t0) z.2) (mfr W t0)) := by
  unfold M_arrive_b139
  exact (aw_bind (aw_wrI (hW.m (by decide)) (by assumption)) (fun _ h => (aw_some (by first | assumption | trivial | exact True.intro))))
def wM_arrive_b295 : List Nat := []
theorem fM_arrive_b295 {W : List Nat} {t0 : moS} {t : moS} {a3 : Int32} {a4 : Int32} {a5 : Int32} {a6 : Int32} {a7 : Int64} {a9 : Int64} {a11 : Int64} {a13 : Int64} {a15 : Int32} {a16 : Int32} {a17 : Int32} (hW : sbs wM_arrive_b295 W) (h : mfr W t0 t) : aw (M_arrive_b295 t a3 a4 a5 a6 a7 a9 a11 a13 a15 a16 a17) (Sum.elim (fun z => (mfr W t0) z.2) (mfr W t0)) := by
  unfold M_arrive_b295
  exact (aw_some (by first | assumption | trivial | exact True.intro))
def wM_arrive_b273 : List Nat := [12, 13, 14, 15, 23, 24, 25, 26, 44, 45, 89, 101, 102, 103, 104, 105, 106, 107, 108, 109, 110, 111, 112, 113, 114, 115, 116, 117, 118, 119, 120, 121, 122, 123, 124, 125, 126, 127, 128, 129, 130, 131, 132, 133, 134, 135, 136, 137, 138, 139, 140, 141, 142, 143, 144, 145, 146, 147, 148, 151, 152, 157, 158, 159, 160, 162, 163, 164, 165]
theorem fM_arrive_b273 {W : List Nat} {t0 : moS} {t : moS} {a3 : Int32} {a4 : Int32} {a5 : Int32} {a6 : Int32} {a7 : Int64} {a9 : Int64} {a11 : Int64} {a13 : Int64} {a15 : Int32} {a16 : Int32} {a17 : Int32} {a18 : Int32} (hW : sbs wM_arrive_b273 W) (h : mfr W t0 t) : aw (M_arrive_b273 t a3 a4 a5 a6 a7 a9 a11 a13 a15 a16 a17 a18) (Sum.elim (fun z => (mfr W t0) z.2) (mfr W t0)) := by
  unfold M_arrive_b273
  exact (aw_bind (fM_receive (hW.of (by decide)) (by assumption)) (fun _ h => (aw_if (aw_xo (aw_some (by first | assumption | trivial | exact True.intro))) (fM_arrive_b295 (hW.of (by decide)) (by assumption)))))
def wM_arrive_b258 : List Nat := [12, 13, 14, 15, 23, 24, 25, 26, 44, 45, 89, 101, 102, 103, 104, 105, 106, 107, 108, 109, 110, 111, 112, 113, 114, 115, 116, 117, 118, 119, 120, 121, 122, 123, 124, 125, 126, 127, 128, 129, 130, 131, 132, 133, 134, 135, 136, 137, 138, 139, 140, 141, 142, 143, 144, 145, 146, 147, 148, 151, 152, 157, 158, 159, 160, 162, 163, 164, 165]
theorem fM_arrive_b258 {W : List Nat} {t0 : moS} {t : moS} {a3 : Int32} {a4 : Int32} {a5 : Int32} {a6 : Int32} {a7 : Int64} {a9 : Int64} {a11 : Int64} {a13 : Int64} {a15 : Int32} {a16 : Int32} {a17 : Int32} {a18 : Int32} {u0 : Int32} (hW : sbs wM_arrive_b258 W) (h : mfr W t0 t) : aw (M_arrive_b258 t a3 a4 a5 a6 a7 a9 a11 a13 a15 a16 a17 a18 u0) (Sum.elim (fun z => (mfr W t0) z.2) (mfr W t0)) := by
  unfold M_arrive_b258
  exact (aw_if (aw_if (fM_arrive_b295 (hW.of (by decide)) (by assumption)) (fM_arrive_b273 (hW.of (by decide)) (by assumption))) (fM_arrive_b273 (hW.of (by decide)) (by assumption)))
def wM_arrive_b257 : List Nat := [12, 13, 14, 15, 23, 24, 25, 26, 44, 45, 89, 101, 102, 103, 104, 105, 106, 107, 108, 109, 110, 111, 112, 113, 114, 115, 116, 117, 118, 119, 120, 121, 122, 123, 124, 125, 126, 127, 128, 129, 130, 131, 132, 133, 134, 135, 136, 137, 138, 139, 140, 141, 142, 143, 144, 145, 146, 147, 148, 151, 152, 157, 158, 159, 160, 162, 163, 164, 165]
theorem fM_arrive_b257 {W : List Nat} {t0 : moS} {t : moS} {a3 : Int32} {a4 : Int32} {a5 : Int32} {a6 : Int32} {a7 : Int64} {a9 : Int64} {a11 : Int64} {a13 : Int64} {a15 : Int32} {a16 : Int32} {a17 : Int32} {a18 : Int32} (hW : sbs wM_arrive_b257 W) (h : mfr W t0 t) : aw (M_arrive_b257 t a3 a4 a5 a6 a7 a9 a11 a13 a15 a16 a17 a18) (Sum.elim (fun z => (mfr W t0) z.2) (mfr W t0)) := by
  unfold M_arrive_b257
  exact (fM_arrive_b258 (hW.of (by decide)) (by assumption))
def wM_arrive_b184 : List Nat := [12, 13, 14, 15, 23, 24, 25, 26, 44, 45, 89, 101, 102, 103, 104, 105, 106, 107, 108, 109, 110, 111, 112, 113, 114, 115, 116, 117, 118, 119, 120, 121, 122, 123, 124, 125, 126, 127, 128, 129, 130, 131, 132, 133, 134, 135, 136, 137, 138, 139, 140, 141, 142, 143, 144, 145, 146, 147, 148, 151, 152, 157, 158, 159, 160, 162, 163, 164, 165]
theorem fM_arrive_b184 {W : List Nat} {t0 : moS} {t : moS} {a3 : Int32} {a4 : Int32} {a5 : Int32} {a6 : Int32} {a7 : Int64} {a9 : Int64} {a11 : Int64} {a13 : Int64} {a15 : Int32} {a16 : Int32} {a17 : Int32} {u0 : Int32} (hW : sbs wM_arrive_b184 W) (h : mfr W t0 t) : aw (M_arrive_b184 t a3 a4 a5 a6 a7 a9 a11 a13 a15 a16 a17 u0) (Sum.elim (fun z => (mfr W t0) z.2) (mfr W t0)) := by
  unfold M_arrive_b184
  exact (aw_if (fM_arrive_b295 (hW.of (by decide)) (by assumption)) (aw_if (fM_arrive_b295 (hW.of (by decide)) (by assumption)) (aw_bind aw_t (fun _ h => (aw_if (fM_arrive_b295 (hW.of (by decide)) (by assumption)) (aw_bind aw_t (fun _ h => (aw_if (aw_bind aw_t (fun _ h => (aw_if (fM_arrive_b258 (hW.of (by decide)) (by assumption)) (fM_arrive_b257 (hW.of (by decide)) (by assumption))))) (fM_arrive_b257 (hW.of (by decide)) (by assumption))))))))))
def wM_arrive_s154 : List Nat := [12, 13, 14, 15, 23, 24, 25, 26, 44, 45, 89, 101, 102, 103, 104, 105, 106, 107, 108, 109, 110, 111, 112, 113, 114, 115, 116, 117, 118, 119, 120, 121, 122, 123, 124, 125, 126, 127, 128, 129, 130, 131, 132, 133, 134, 135, 136, 137, 138, 139, 140, 141, 142, 143, 144, 145, 146, 147, 148, 151, 152, 157, 158, 159, 160, 162, 163, 164, 165]
theorem fM_arrive_s154 {W : List Nat} {t0 : moS} {t : moS} {a3 : Int32} {a4 : Int32} {a5 : Int32} {a6 : Int32} {a7 : Int64} {a9 : Int64} {a11 : Int64} {a13 : Int64} {a15 : Int32} {a16 : Int32} {a17 : Int32} (hW : sbs wM_arrive_s154 W) (h : mfr W t0 t) : aw (M_arrive_s154 t a3 a4 a5 a6 a7 a9 a11 a13 a15 a16 a17) (Sum.elim (fun z => (mfr W t0) z.2) (mfr W t0)) := by
  unfold M_arrive_s154
  exact (aw_if (aw_bind aw_t (fun _ h => (aw_if (fM_arrive_b184 (hW.of (by decide)) (by assumption)) (aw_bind aw_t (fun _ h => (fM_arrive_b184 (hW.of (by decide)) (by assumption))))))) (aw_xo (aw_some (by first | assumption | trivial | exact True.intro))))
def wM_arrive_b154 : List Nat := [12, 13, 14, 15, 23, 24, 25, 26, 44, 45, 89, 101, 102, 103, 104, 105, 106, 107, 108, 109, 110, 111, 112, 113, 114, 115, 116, 117, 118, 119, 120, 121, 122, 123, 124, 125, 126, 127, 128, 129, 130, 131, 132, 133, 134, 135, 136, 137, 138, 139, 140, 141, 142, 143, 144, 145, 146, 147, 148, 151, 152, 157, 158, 159, 160, 162, 163, 164, 165]
theorem fM_arrive_b154 {W : List Nat} {t0 : moS} {t : moS} {a3 : Int32} {a4 : Int32} {a5 : Int32} {a6 : Int32} {a7 : Int64} {a9 : Int64} {a11 : Int64} {a13 : Int64} {a15 : Int32} {a16 : Int32} {a17 : Int32} (hW : sbs wM_arrive_b154 W) (h : mfr W t0 t) : aw (M_arrive_b154 t a3 a4 a5 a6 a7 a9 a11 a13 a15 a16 a17) (mfr W t0) := by
  unfold M_arrive_b154
  refine aw_lp (I := (fun z => (mfr W t0) z.2)) ?_ ?_
  · exact h
  · intro y hy
    exact (fM_arrive_s154 (hW.of (by decide)) hy)
def wM_arrive_s99 : List Nat := [12, 13, 14, 15, 23, 24, 25, 26, 44, 45, 89, 101, 102, 103, 104, 105, 106, 107, 108, 109, 110, 111, 112, 113, 114, 115, 116, 117, 118, 119, 120, 121, 122, 123, 124, 125, 126, 127, 128, 129, 130, 131, 132, 133, 134, 135, 136, 137, 138, 139, 140, 141, 142, 143, 144, 145, 146, 147, 148, 149, 151, 152, 157, 158, 159, 160, 162, 163, 164, 165]
theorem fM_arrive_s99 {W : List Nat} {t0 : moS} {t : moS} {p1 : Int32} {a2 : Int32} {a3 : Int32} {a4 : Int32} {a5 : Int32} {a6 : Int32} {a7 : Int64} {a9 : Int64} {a11 : Int64} {a13 : Int64} {a15 : Int32} {a16 : Int32} {a17 : Int32} (hW : sbs wM_arrive_s99 W) (h : mfr W t0 t) : aw (M_arrive_s99 t p1 a2 a3 a4 a5 a6 a7 a9 a11 a13 a15 a16 a17) (Sum.elim (fun z => (mfr W t0) z.2) (mfr W t0)) := by
  unfold M_arrive_s99
  exact (aw_if (aw_if (aw_bind aw_t (fun _ h => (fM_arrive_b139 (hW.of (by decide)) (by assumption)))) (fM_arrive_b139 (hW.of (by decide)) (by assumption))) (aw_xo (aw_bind (fM_takeOff (hW.of (by decide)) (by assumption)) (fun _ h => (fM_arrive_b154 (hW.of (by decide)) (by assumption))))))
def wM_arrive_b99 : List Nat := [12, 13, 14, 15, 23, 24, 25, 26, 44, 45, 89, 101, 102, 103, 104, 105, 106, 107, 108, 109, 110, 111, 112, 113, 114, 115, 116, 117, 118, 119, 120, 121, 122, 123, 124, 125, 126, 127, 128, 129, 130, 131, 132, 133, 134, 135, 136, 137, 138, 139, 140, 141, 142, 143, 144, 145, 146, 147, 148, 149, 151, 152, 157, 158, 159, 160, 162, 163, 164, 165]
theorem fM_arrive_b99 {W : List Nat} {t0 : moS} {t : moS} {p1 : Int32} {a2 : Int32} {a3 : Int32} {a4 : Int32} {a5 : Int32} {a6 : Int32} {a7 : Int64} {a9 : Int64} {a11 : Int64} {a13 : Int64} {a15 : Int32} {a16 : Int32} {a17 : Int32} (hW : sbs wM_arrive_b99 W) (h : mfr W t0 t) : aw (M_arrive_b99 t p1 a2 a3 a4 a5 a6 a7 a9 a11 a13 a15 a16 a17) (mfr W t0) := by
  unfold M_arrive_b99
  refine aw_lp (I := (fun z => (mfr W t0) z.2)) ?_ ?_
  · exact h
  · intro y hy
    exact (fM_arrive_s99 (hW.of (by decide)) hy)
def wM_arrive : List Nat := [12, 13, 14, 15, 23, 24, 25, 26, 44, 45, 89, 101, 102, 103, 104, 105, 106, 107, 108, 109, 110, 111, 112, 113, 114, 115, 116, 117, 118, 119, 120, 121, 122, 123, 124, 125, 126, 127, 128, 129, 130, 131, 132, 133, 134, 135, 136, 137, 138, 139, 140, 141, 142, 143, 144, 145, 146, 147, 148, 149, 150, 151, 152, 157, 158, 159, 160, 162, 163, 164, 165]
theorem fM_arrive {W : List Nat} {t0 : moS} {t : moS} {p1 : Int32} (hW : sbs wM_arrive W) (h : mfr W t0 t) : aw (M_arrive t p1) (mfr W t0) := by
  unfold M_arrive
  exact (aw_bind aw_t (fun _ h => (aw_bind aw_t (fun _ h => (aw_bind aw_t (fun _ h => (aw_bind aw_t (fun _ h => (aw_bind aw_t (fun _ h => (aw_bind aw_t (fun _ h => (aw_bind aw_t (fun _ h => (aw_bind aw_t (fun _ h => (aw_bind aw_t (fun _ h => (aw_bind aw_t (fun _ h => (aw_bind aw_t (fun _ h => (aw_bind aw_t (fun _ h => (aw_let (mfr.tr (by assumption) (mfr.ss (hW.m (by decide)))) (fun _ h => (fM_arrive_b99 (hW.of (by decide)) (by assumption))))))))))))))))))))))))))))
def wM_age_b115 : List Nat := []
theorem fM_age_b115 {W : List Nat} {t0 : moS} {t : moS} {p1 : Int32} {a2 : Int32} (hW : sbs wM_age_b115 W) (h : mfr W t0 t) : aw (M_age_b115 t p1 a2) (Sum.elim (fun z => (mfr W t0) z.2) (mfr W t0)) := by
  unfold M_age_b115
  exact (aw_some (by first | assumption | trivial | exact True.intro))
def wM_age_b68 : List Nat := [44, 45, 105, 106, 107, 108, 109, 110, 111, 112, 113, 114, 115, 116, 117, 118, 119, 120, 121, 122]
theorem fM_age_b68 {W : List Nat} {t0 : moS} {t : moS} {p1 : Int32} {a2 : Int32} {u0 : Int32} (hW : sbs wM_age_b68 W) (h : mfr W t0 t) : aw (M_age_b68 t p1 a2 u0) (Sum.elim (fun z => (mfr W t0) z.2) (mfr W t0)) := by
  unfold M_age_b68
  exact (aw_if (aw_bind aw_t (fun _ h => (aw_if (aw_bind aw_t (fun _ h => (aw_if (fM_age_b115 (hW.of (by decide)) (by assumption)) (aw_bind (fM_remove (hW.of (by decide)) (by assumption)) (fun _ h => (aw_some (by first | assumption | trivial | exact True.intro))))))) (fM_age_b115 (hW.of (by decide)) (by assumption))))) (aw_bind (fM_die (hW.of (by decide)) (by assumption)) (fun _ h => (fM_age_b115 (hW.of (by decide)) (by assumption)))))
def wM_age_b67 : List Nat := [44, 45, 105, 106, 107, 108, 109, 110, 111, 112, 113, 114, 115, 116, 117, 118, 119, 120, 121, 122]
theorem fM_age_b67 {W : List Nat} {t0 : moS} {t : moS} {p1 : Int32} {a2 : Int32} (hW : sbs wM_age_b67 W) (h : mfr W t0 t) : aw (M_age_b67 t p1 a2) (Sum.elim (fun z => (mfr W t0) z.2) (mfr W t0)) := by
  unfold M_age_b67
  exact (fM_age_b68 (hW.of (by decide)) (by assumption))
def wM_age_s6 : List Nat := [44, 45, 105, 106, 107, 108, 109, 110, 111, 112, 113, 114, 115, 116, 117, 118, 119, 120, 121, 122]
theorem fM_age_s6 {W : List Nat} {t0 : moS} {t : moS} {p1 : Int32} {a2 : Int32} (hW : sbs wM_age_s6 W) (h : mfr W t0 t) : aw (M_age_s6 t p1 a2) (Sum.elim (fun z => (mfr W t0) z.2) (mfr W t0)) := by
  unfold M_age_s6
  exact (aw_bind aw_t (fun _ h => (aw_if (aw_bind aw_t (fun _ h => (aw_if (aw_bind aw_t (fun _ h => (aw_if (aw_bind aw_t (fun _ h => (aw_bind aw_t (fun _ h => (aw_if (fM_age_b67 (hW.of (by decide)) (by assumption)) (fM_age_b68 (hW.of (by decide)) (by assumption))))))) (fM_age_b67 (hW.of (by decide)) (by assumption))))) (fM_age_b67 (hW.of (by decide)) (by assumption))))) (aw_xo (aw_some (by first | assumption | trivial | exact True.intro))))))
def wM_age_b6 : List Nat := [44, 45, 105, 106, 107, 108, 109, 110, 111, 112, 113, 114, 115, 116, 117, 118, 119, 120, 121, 122]
theorem fM_age_b6 {W : List Nat} {t0 : moS} {t : moS} {p1 : Int32} {a2 : Int32} (hW : sbs wM_age_b6 W) (h : mfr W t0 t) : aw (M_age_b6 t p1 a2) (mfr W t0) := by
  unfold M_age_b6
  refine aw_lp (I := (fun z => (mfr W t0) z.2)) ?_ ?_
  · exact h
  · intro y hy
    exact (fM_age_s6 (hW.of (by decide)) hy)
def wM_age : List Nat := [44, 45, 105, 106, 107, 108, 109, 110, 111, 112, 113, 114, 115, 116, 117, 118, 119, 120, 121, 122]
theorem fM_age {W : List Nat} {t0 : moS} {t : moS} {p1 : Int32} (hW : sbs wM_age W) (h : mfr W t0 t) : aw (M_age t p1) (mfr W t0) := by
  unfold M_age
  exact (fM_age_b6 (hW.of (by decide)) (by assumption))
def wM_tick_b165 : List Nat := []
theorem fM_tick_b165 {W : List Nat} {t0 : moS} {t : moS} {a2 : Int32} (hW : sbs wM_tick_b165 W) (h : mfr W t0 t) : aw (M_tick_b165 t a2) (Sum.elim (fun z => (mfr W t0) z.2) (mfr W t0)) := by
  unfold M_tick_b165
  exact (aw_some (by first | assumption | trivial | exact True.intro))
def wM_tick_s54 : List Nat := [23, 24, 25, 26, 43, 44, 45, 89, 105, 106, 107, 108, 109, 110, 111, 112, 113, 114, 115, 116, 117, 118, 119, 120, 121, 122, 123, 124, 125, 126, 127, 128, 129, 130, 131, 132, 133, 134, 135, 136, 137, 138, 139, 140, 141, 142, 143, 144, 145, 146, 147, 148, 151, 152, 157, 158, 159, 160]
theorem fM_tick_s54 {W : List Nat} {t0 : moS} {t : moS} {a2 : Int32} (hW : sbs wM_tick_s54 W) (h : mfr W t0 t) : aw (M_tick_s54 t a2) (Sum.elim (fun z => (mfr W t0) z.2) (mfr W t0)) := by
  unfold M_tick_s54
  exact (aw_if (aw_bind aw_t (fun _ h => (aw_if (fM_tick_b165 (hW.of (by decide)) (by assumption)) (aw_bind (fM_age (hW.of (by decide)) (by assumption)) (fun _ h => (aw_bind aw_t (fun _ h => (aw_if (aw_bind aw_t (fun _ h => (aw_if (fM_tick_b165 (hW.of (by decide)) (by assumption)) (aw_bind aw_t (fun _ h => (aw_if (fM_tick_b165 (hW.of (by decide)) (by assumption)) (aw_bind (fM_tellAll (hW.of (by decide)) (by assumption)) (fun _ h => (aw_bind (fM_forget (hW.of (by decide)) (by assumption)) (fun _ h => (aw_bind (fM_tally (hW.of (by decide)) (by assumption)) (fun _ h => (fM_tick_b165 (hW.of (by decide)) (by assumption)))))))))))))) (aw_bind (fM_tellAll (hW.of (by decide)) (by assumption)) (fun _ h => (aw_bind (fM_forget (hW.of (by decide)) (by assumption)) (fun _ h => (aw_bind aw_t (fun _ h => (aw_bind (aw_wrI (hW.m (by decide)) (by assumption)) (fun _ h => (fM_tick_b165 (hW.of (by decide)) (by assumption)))))))))))))))))) (aw_xo (aw_some (by first | assumption | trivial | exact True.intro))))
def wM_tick_b54 : List Nat := [23, 24, 25, 26, 43, 44, 45, 89, 105, 106, 107, 108, 109, 110, 111, 112, 113, 114, 115, 116, 117, 118, 119, 120, 121, 122, 123, 124, 125, 126, 127, 128, 129, 130, 131, 132, 133, 134, 135, 136, 137, 138, 139, 140, 141, 142, 143, 144, 145, 146, 147, 148, 151, 152, 157, 158, 159, 160]
theorem fM_tick_b54 {W : List Nat} {t0 : moS} {t : moS} {a2 : Int32} (hW : sbs wM_tick_b54 W) (h : mfr W t0 t) : aw (M_tick_b54 t a2) (mfr W t0) := by
  unfold M_tick_b54
  refine aw_lp (I := (fun z => (mfr W t0) z.2)) ?_ ?_
  · exact h
  · intro y hy
    exact (fM_tick_s54 (hW.of (by decide)) hy)
def wM_tick_s12 : List Nat := [12, 13, 14, 15, 23, 24, 25, 26, 43, 44, 45, 89, 101, 102, 103, 104, 105, 106, 107, 108, 109, 110, 111, 112, 113, 114, 115, 116, 117, 118, 119, 120, 121, 122, 123, 124, 125, 126, 127, 128, 129, 130, 131, 132, 133, 134, 135, 136, 137, 138, 139, 140, 141, 142, 143, 144, 145, 146, 147, 148, 149, 150, 151, 152, 157, 158, 159, 160, 162, 163, 164, 165]
theorem fM_tick_s12 {W : List Nat} {t0 : moS} {t : moS} {a1 : Int32} (hW : sbs wM_tick_s12 W) (h : mfr W t0 t) : aw (M_tick_s12 t a1) (Sum.elim (fun z => (mfr W t0) z.2) (mfr W t0)) := by
  unfold M_tick_s12
  exact (aw_if (aw_bind aw_t (fun _ h => (aw_bind aw_t (fun _ h => (aw_if (aw_some (by first | assumption | trivial | exact True.intro)) (aw_bind (fM_arrive (hW.of (by decide)) (by assumption)) (fun _ h => (aw_some (by first | assumption | trivial | exact True.intro))))))))) (aw_xo (fM_tick_b54 (hW.of (by decide)) (by assumption))))
def wM_tick_b12 : List Nat := [12, 13, 14, 15, 23, 24, 25, 26, 43, 44, 45, 89, 101, 102, 103, 104, 105, 106, 107, 108, 109, 110, 111, 112, 113, 114, 115, 116, 117, 118, 119, 120, 121, 122, 123, 124, 125, 126, 127, 128, 129, 130, 131, 132, 133, 134, 135, 136, 137, 138, 139, 140, 141, 142, 143, 144, 145, 146, 147, 148, 149, 150, 151, 152, 157, 158, 159, 160, 162, 163, 164, 165]
theorem fM_tick_b12 {W : List Nat} {t0 : moS} {t : moS} {a1 : Int32} (hW : sbs wM_tick_b12 W) (h : mfr W t0 t) : aw (M_tick_b12 t a1) (mfr W t0) := by
  unfold M_tick_b12
  refine aw_lp (I := (fun z => (mfr W t0) z.2)) ?_ ?_
  · exact h
  · intro y hy
    exact (fM_tick_s12 (hW.of (by decide)) hy)
def wM_tick : List Nat := [1, 12, 13, 14, 15, 23, 24, 25, 26, 43, 44, 45, 89, 101, 102, 103, 104, 105, 106, 107, 108, 109, 110, 111, 112, 113, 114, 115, 116, 117, 118, 119, 120, 121, 122, 123, 124, 125, 126, 127, 128, 129, 130, 131, 132, 133, 134, 135, 136, 137, 138, 139, 140, 141, 142, 143, 144, 145, 146, 147, 148, 149, 150, 151, 152, 157, 158, 159, 160, 162, 163, 164, 165]
theorem fM_tick {W : List Nat} {t0 : moS} {t : moS} (hW : sbs wM_tick W) (h : mfr W t0 t) : aw (M_tick t) (mfr W t0) := by
  unfold M_tick
  exact (aw_let (mfr.tr (by assumption) (mfr.ss (hW.m (by decide)))) (fun _ h => (fM_tick_b12 (hW.of (by decide)) (by assumption))))
def wM_ticks_s32 : List Nat := [1, 12, 13, 14, 15, 23, 24, 25, 26, 43, 44, 45, 89, 101, 102, 103, 104, 105, 106, 107, 108, 109, 110, 111, 112, 113, 114, 115, 116, 117, 118, 119, 120, 121, 122, 123, 124, 125, 126, 127, 128, 129, 130, 131, 132, 133, 134, 135, 136, 137, 138, 139, 140, 141, 142, 143, 144, 145, 146, 147, 148, 149, 150, 151, 152, 157, 158, 159, 160, 162, 163, 164, 165]
theorem fM_ticks_s32 {W : List Nat} {t0 : moS} {t : moS} {p1 : Int32} {a2 : Int32} (hW : sbs wM_ticks_s32 W) (h : mfr W t0 t) : aw (M_ticks_s32 t p1 a2) (Sum.elim (fun z => (mfr W t0) z.2) (fun z => (mfr W t0) z.2)) := by
  unfold M_ticks_s32
  exact (aw_if (aw_bind (fM_tick (hW.of (by decide)) (by assumption)) (fun _ h => (aw_some (by first | assumption | trivial | exact True.intro)))) (aw_xo (aw_some (by first | assumption | trivial | exact True.intro))))
def wM_ticks_b32 : List Nat := [1, 12, 13, 14, 15, 23, 24, 25, 26, 43, 44, 45, 89, 101, 102, 103, 104, 105, 106, 107, 108, 109, 110, 111, 112, 113, 114, 115, 116, 117, 118, 119, 120, 121, 122, 123, 124, 125, 126, 127, 128, 129, 130, 131, 132, 133, 134, 135, 136, 137, 138, 139, 140, 141, 142, 143, 144, 145, 146, 147, 148, 149, 150, 151, 152, 157, 158, 159, 160, 162, 163, 164, 165]
theorem fM_ticks_b32 {W : List Nat} {t0 : moS} {t : moS} {p1 : Int32} {a2 : Int32} (hW : sbs wM_ticks_b32 W) (h : mfr W t0 t) : aw (M_ticks_b32 t p1 a2) (fun z => (mfr W t0) z.2) := by
  unfold M_ticks_b32
  refine aw_lp (I := (fun z => (mfr W t0) z.2)) ?_ ?_
  · exact h
  · intro y hy
    exact (fM_ticks_s32 (hW.of (by decide)) hy)
def wM_ticks : List Nat := [0, 1, 12, 13, 14, 15, 23, 24, 25, 26, 43, 44, 45, 89, 101, 102, 103, 104, 105, 106, 107, 108, 109, 110, 111, 112, 113, 114, 115, 116, 117, 118, 119, 120, 121, 122, 123, 124, 125, 126, 127, 128, 129, 130, 131, 132, 133, 134, 135, 136, 137, 138, 139, 140, 141, 142, 143, 144, 145, 146, 147, 148, 149, 150, 151, 152, 157, 158, 159, 160, 162, 163, 164, 165]
theorem fM_ticks {W : List Nat} {t0 : moS} {t : moS} {p1 : Int32} (hW : sbs wM_ticks W) (h : mfr W t0 t) : aw (M_ticks t p1) (fun z => (mfr W t0) z.2) := by
  unfold M_ticks
  exact (aw_let (mfr.tr (by assumption) (mfr.ss (hW.m (by decide)))) (fun _ h => (aw_if (aw_some (by first | assumption | trivial | exact True.intro)) (aw_if (aw_some (by first | assumption | trivial | exact True.intro)) (aw_if (aw_some (by first | assumption | trivial | exact True.intro)) (fM_ticks_b32 (hW.of (by decide)) (by assumption)))))))
def wM_link_b185 : List Nat := []
theorem fM_link_b185 {W : List Nat} {t0 : moS} {t : moS} {p1 : Int32} {p2 : Int32} {a4 : Int32} {a5 : Int32} {a6 : Int32} (hW : sbs wM_link_b185 W) (h : mfr W t0 t) : aw (M_link_b185 t p1 p2 a4 a5 a6) (Sum.elim (fun z => (mfr W t0) z.2) (Sum.elim (fun z => (mfr W t0) z.2) (fun z => (mfr W t0) z.2))) := by
  unfold M_link_b185
  exact (aw_some (by first | assumption | trivial | exact True.intro))
def wM_link_b197 : List Nat := []
theorem fM_link_b197 {W : List Nat} {t0 : moS} {t : moS} {p1 : Int32} {p2 : Int32} {a4 : Int32} (hW : sbs wM_link_b197 W) (h : mfr W t0 t) : aw (M_link_b197 t p1 p2 a4) (Sum.elim (fun z => (mfr W t0) z.2) (fun z => (mfr W t0) z.2)) := by
  unfold M_link_b197
  exact (aw_some (by first | assumption | trivial | exact True.intro))
def wM_link_b191 : List Nat := [44, 45, 105, 106, 107, 108, 109, 110, 111, 112, 113, 114, 115, 116, 117, 118, 119, 120, 121, 122, 153, 154, 155, 156]
theorem fM_link_b191 {W : List Nat} {t0 : moS} {t : moS} {p1 : Int32} {p2 : Int32} {a4 : Int32} (hW : sbs wM_link_b191 W) (h : mfr W t0 t) : aw (M_link_b191 t p1 p2 a4) (Sum.elim (fun z => (mfr W t0) z.2) (fun z => (mfr W t0) z.2)) := by
  unfold M_link_b191
  exact (aw_bind (fM_settle (hW.of (by decide)) (by assumption)) (fun _ h => (fM_link_b197 (hW.of (by decide)) (by assumption))))
def wM_link_s131 : List Nat := [44, 45, 105, 106, 107, 108, 109, 110, 111, 112, 113, 114, 115, 116, 117, 118, 119, 120, 121, 122, 153, 154, 155, 156]
theorem fM_link_s131 {W : List Nat} {t0 : moS} {t : moS} {p1 : Int32} {p2 : Int32} {a4 : Int32} {a5 : Int32} {a6 : Int32} (hW : sbs wM_link_s131 W) (h : mfr W t0 t) : aw (M_link_s131 t p1 p2 a4 a5 a6) (Sum.elim (fun z => (mfr W t0) z.2) (Sum.elim (fun z => (mfr W t0) z.2) (fun z => (mfr W t0) z.2))) := by
  unfold M_link_s131
  exact (aw_bind aw_t (fun _ h => (aw_if (aw_if (aw_bind aw_t (fun _ h => (aw_if (aw_bind aw_t (fun _ h => (aw_if (aw_bind (fM_die (hW.of (by decide)) (by assumption)) (fun _ h => (fM_link_b185 (hW.of (by decide)) (by assumption)))) (fM_link_b185 (hW.of (by decide)) (by assumption))))) (fM_link_b185 (hW.of (by decide)) (by assumption))))) (aw_xo (fM_link_b191 (hW.of (by decide)) (by assumption)))) (aw_xo (fM_link_b191 (hW.of (by decide)) (by assumption))))))
def wM_link_b131 : List Nat := [44, 45, 105, 106, 107, 108, 109, 110, 111, 112, 113, 114, 115, 116, 117, 118, 119, 120, 121, 122, 153, 154, 155, 156]
theorem fM_link_b131 {W : List Nat} {t0 : moS} {t : moS} {p1 : Int32} {p2 : Int32} {a4 : Int32} {a5 : Int32} {a6 : Int32} (hW : sbs wM_link_b131 W) (h : mfr W t0 t) : aw (M_link_b131 t p1 p2 a4 a5 a6) (Sum.elim (fun z => (mfr W t0) z.2) (fun z => (mfr W t0) z.2)) := by
  unfold M_link_b131
  refine aw_lp (I := (fun z => (mfr W t0) z.2)) ?_ ?_
  · exact h
  · intro y hy
    exact (fM_link_s131 (hW.of (by decide)) hy)
def wM_link_b112 : List Nat := [44, 45, 105, 106, 107, 108, 109, 110, 111, 112, 113, 114, 115, 116, 117, 118, 119, 120, 121, 122, 153, 154, 155, 156]
theorem fM_link_b112 {W : List Nat} {t0 : moS} {t : moS} {p1 : Int32} {p2 : Int32} {a4 : Int32} {u0 : Int32} (hW : sbs wM_link_b112 W) (h : mfr W t0 t) : aw (M_link_b112 t p1 p2 a4 u0) (Sum.elim (fun z => (mfr W t0) z.2) (fun z => (mfr W t0) z.2)) := by
  unfold M_link_b112
  exact (aw_if (fM_link_b197 (hW.of (by decide)) (by assumption)) (fM_link_b131 (hW.of (by decide)) (by assumption)))
def wM_link_b254 : List Nat := []
theorem fM_link_b254 {W : List Nat} {t0 : moS} {t : moS} {p1 : Int32} {p2 : Int32} {a4 : Int32} (hW : sbs wM_link_b254 W) (h : mfr W t0 t) : aw (M_link_b254 t p1 p2 a4) (Sum.elim (fun z => (mfr W t0) z.2) (fun z => (mfr W t0) z.2)) := by
  unfold M_link_b254
  exact (aw_some (by first | assumption | trivial | exact True.intro))
def wM_link_b240 : List Nat := [23, 24, 25, 26, 45, 89, 123, 124, 125, 126, 127, 128, 129, 130, 131, 132, 133, 134, 135, 136, 137, 138, 146, 147, 148, 157, 158, 159, 160]
theorem fM_link_b240 {W : List Nat} {t0 : moS} {t : moS} {p1 : Int32} {p2 : Int32} {a4 : Int32} {u0 : Int32} (hW : sbs wM_link_b240 W) (h : mfr W t0 t) : aw (M_link_b240 t p1 p2 a4 u0) (Sum.elim (fun z => (mfr W t0) z.2) (fun z => (mfr W t0) z.2)) := by
  unfold M_link_b240
  exact (aw_if (fM_link_b254 (hW.of (by decide)) (by assumption)) (aw_bind (fM_requests (hW.of (by decide)) (by assumption)) (fun _ h => (fM_link_b254 (hW.of (by decide)) (by assumption)))))
def wM_link_s206 : List Nat := [23, 24, 25, 26, 45, 89, 123, 124, 125, 126, 127, 128, 129, 130, 131, 132, 133, 134, 135, 136, 137, 138, 146, 147, 148, 157, 158, 159, 160]
theorem fM_link_s206 {W : List Nat} {t0 : moS} {t : moS} {p1 : Int32} {p2 : Int32} {a4 : Int32} (hW : sbs wM_link_s206 W) (h : mfr W t0 t) : aw (M_link_s206 t p1 p2 a4) (Sum.elim (fun z => (mfr W t0) z.2) (fun z => (mfr W t0) z.2)) := by
  unfold M_link_s206
  exact (aw_if (aw_if (aw_xo (aw_some (by first | assumption | trivial | exact True.intro))) (aw_bind aw_t (fun _ h => (aw_if (fM_link_b240 (hW.of (by decide)) (by assumption)) (aw_bind aw_t (fun _ h => (fM_link_b240 (hW.of (by decide)) (by assumption)))))))) (aw_xo (aw_some (by first | assumption | trivial | exact True.intro))))
def wM_link_b206 : List Nat := [23, 24, 25, 26, 45, 89, 123, 124, 125, 126, 127, 128, 129, 130, 131, 132, 133, 134, 135, 136, 137, 138, 146, 147, 148, 157, 158, 159, 160]
theorem fM_link_b206 {W : List Nat} {t0 : moS} {t : moS} {p1 : Int32} {p2 : Int32} {a4 : Int32} (hW : sbs wM_link_b206 W) (h : mfr W t0 t) : aw (M_link_b206 t p1 p2 a4) (fun z => (mfr W t0) z.2) := by
  unfold M_link_b206
  refine aw_lp (I := (fun z => (mfr W t0) z.2)) ?_ ?_
  · exact h
  · intro y hy
    exact (fM_link_s206 (hW.of (by decide)) hy)
def wM_link_s82 : List Nat := [23, 24, 25, 26, 44, 45, 89, 105, 106, 107, 108, 109, 110, 111, 112, 113, 114, 115, 116, 117, 118, 119, 120, 121, 122, 123, 124, 125, 126, 127, 128, 129, 130, 131, 132, 133, 134, 135, 136, 137, 138, 146, 147, 148, 153, 154, 155, 156, 157, 158, 159, 160]
theorem fM_link_s82 {W : List Nat} {t0 : moS} {t : moS} {p1 : Int32} {p2 : Int32} {a4 : Int32} (hW : sbs wM_link_s82 W) (h : mfr W t0 t) : aw (M_link_s82 t p1 p2 a4) (Sum.elim (fun z => (mfr W t0) z.2) (fun z => (mfr W t0) z.2)) := by
  unfold M_link_s82
  exact (aw_if (aw_bind aw_t (fun _ h => (aw_if (fM_link_b112 (hW.of (by decide)) (by assumption)) (aw_bind aw_t (fun _ h => (fM_link_b112 (hW.of (by decide)) (by assumption))))))) (aw_xo (fM_link_b206 (hW.of (by decide)) (by assumption))))
def wM_link_b82 : List Nat := [23, 24, 25, 26, 44, 45, 89, 105, 106, 107, 108, 109, 110, 111, 112, 113, 114, 115, 116, 117, 118, 119, 120, 121, 122, 123, 124, 125, 126, 127, 128, 129, 130, 131, 132, 133, 134, 135, 136, 137, 138, 146, 147, 148, 153, 154, 155, 156, 157, 158, 159, 160]
theorem fM_link_b82 {W : List Nat} {t0 : moS} {t : moS} {p1 : Int32} {p2 : Int32} {a4 : Int32} (hW : sbs wM_link_b82 W) (h : mfr W t0 t) : aw (M_link_b82 t p1 p2 a4) (fun z => (mfr W t0) z.2) := by
  unfold M_link_b82
  refine aw_lp (I := (fun z => (mfr W t0) z.2)) ?_ ?_
  · exact h
  · intro y hy
    exact (fM_link_s82 (hW.of (by decide)) hy)
def wM_link_b79 : List Nat := [23, 24, 25, 26, 44, 45, 89, 105, 106, 107, 108, 109, 110, 111, 112, 113, 114, 115, 116, 117, 118, 119, 120, 121, 122, 123, 124, 125, 126, 127, 128, 129, 130, 131, 132, 133, 134, 135, 136, 137, 138, 146, 147, 148, 153, 154, 155, 156, 157, 158, 159, 160]
theorem fM_link_b79 {W : List Nat} {t0 : moS} {t : moS} {p1 : Int32} {p2 : Int32} (hW : sbs wM_link_b79 W) (h : mfr W t0 t) : aw (M_link_b79 t p1 p2) (fun z => (mfr W t0) z.2) := by
  unfold M_link_b79
  exact (fM_link_b82 (hW.of (by decide)) (by assumption))
def wM_link_s38 : List Nat := [23, 24, 25, 26, 44, 45, 89, 105, 106, 107, 108, 109, 110, 111, 112, 113, 114, 115, 116, 117, 118, 119, 120, 121, 122, 123, 124, 125, 126, 127, 128, 129, 130, 131, 132, 133, 134, 135, 136, 137, 138, 146, 147, 148, 153, 154, 155, 156, 157, 158, 159, 160]
theorem fM_link_s38 {W : List Nat} {t0 : moS} {t : moS} {p1 : Int32} {p2 : Int32} {a3 : Int32} (hW : sbs wM_link_s38 W) (h : mfr W t0 t) : aw (M_link_s38 t p1 p2 a3) (Sum.elim (fun z => (mfr W t0) z.2) (fun z => (mfr W t0) z.2)) := by
  unfold M_link_s38
  exact (aw_if (aw_if (aw_bind aw_t (fun _ h => (aw_bind aw_t (fun _ h => (aw_if (aw_bind (fM_takeOff (hW.of (by decide)) (by assumption)) (fun _ h => (aw_some (by first | assumption | trivial | exact True.intro)))) (aw_some (by first | assumption | trivial | exact True.intro))))))) (aw_xo (fM_link_b79 (hW.of (by decide)) (by assumption)))) (aw_xo (fM_link_b79 (hW.of (by decide)) (by assumption))))
def wM_link_b38 : List Nat := [23, 24, 25, 26, 44, 45, 89, 105, 106, 107, 108, 109, 110, 111, 112, 113, 114, 115, 116, 117, 118, 119, 120, 121, 122, 123, 124, 125, 126, 127, 128, 129, 130, 131, 132, 133, 134, 135, 136, 137, 138, 146, 147, 148, 153, 154, 155, 156, 157, 158, 159, 160]
theorem fM_link_b38 {W : List Nat} {t0 : moS} {t : moS} {p1 : Int32} {p2 : Int32} {a3 : Int32} (hW : sbs wM_link_b38 W) (h : mfr W t0 t) : aw (M_link_b38 t p1 p2 a3) (fun z => (mfr W t0) z.2) := by
  unfold M_link_b38
  refine aw_lp (I := (fun z => (mfr W t0) z.2)) ?_ ?_
  · exact h
  · intro y hy
    exact (fM_link_s38 (hW.of (by decide)) hy)
def wM_link : List Nat := [0, 22, 23, 24, 25, 26, 44, 45, 89, 105, 106, 107, 108, 109, 110, 111, 112, 113, 114, 115, 116, 117, 118, 119, 120, 121, 122, 123, 124, 125, 126, 127, 128, 129, 130, 131, 132, 133, 134, 135, 136, 137, 138, 146, 147, 148, 153, 154, 155, 156, 157, 158, 159, 160]
theorem fM_link {W : List Nat} {t0 : moS} {t : moS} {p1 : Int32} {p2 : Int32} (hW : sbs wM_link W) (h : mfr W t0 t) : aw (M_link t p1 p2) (fun z => (mfr W t0) z.2) := by
  unfold M_link
  exact (aw_let (mfr.tr (by assumption) (mfr.ss (hW.m (by decide)))) (fun _ h => (aw_if (aw_some (by first | assumption | trivial | exact True.intro)) (aw_if (aw_bind aw_t (fun _ h => (aw_if (aw_some (by first | assumption | trivial | exact True.intro)) (aw_bind (aw_wrZ (hW.m (by decide)) (by assumption)) (fun _ h => (fM_link_b38 (hW.of (by decide)) (by assumption))))))) (aw_some (by first | assumption | trivial | exact True.intro))))))
def wM_lose : List Nat := [0, 24]
theorem fM_lose {W : List Nat} {t0 : moS} {t : moS} {p1 : Int32} {p2 : Int32} (hW : sbs wM_lose W) (h : mfr W t0 t) : aw (M_lose t p1 p2) (fun z => (mfr W t0) z.2) := by
  unfold M_lose
  exact (aw_let (mfr.tr (by assumption) (mfr.ss (hW.m (by decide)))) (fun _ h => (aw_if (aw_some (by first | assumption | trivial | exact True.intro)) (aw_if (aw_if (aw_some (by first | assumption | trivial | exact True.intro)) (aw_bind (aw_wrI (hW.m (by decide)) (by assumption)) (fun _ h => (aw_some (by first | assumption | trivial | exact True.intro))))) (aw_some (by first | assumption | trivial | exact True.intro))))))
def wM_run_s75 : List Nat := [23, 24, 25, 26, 43, 45, 89, 123, 124, 125, 126, 127, 128, 129, 130, 131, 132, 133, 134, 135, 136, 137, 138, 146, 147, 148, 157, 158, 159, 160]
theorem fM_run_s75 {W : List Nat} {t0 : moS} {t : moS} {p1 : Int32} {a3 : Int32} (hW : sbs wM_run_s75 W) (h : mfr W t0 t) : aw (M_run_s75 t p1 a3) (Sum.elim (fun z => (mfr W t0) z.2) (fun z => (mfr W t0) z.2)) := by
  unfold M_run_s75
  exact (aw_bind aw_t (fun _ h => (aw_if (aw_bind (fM_requests (hW.of (by decide)) (by assumption)) (fun _ h => (aw_some (by first | assumption | trivial | exact True.intro)))) (aw_xo (aw_bind aw_t (fun _ h => (aw_bind (aw_wrI (hW.m (by decide)) (by assumption)) (fun _ h => (aw_some (by first | assumption | trivial | exact True.intro))))))))))
def wM_run_b75 : List Nat := [23, 24, 25, 26, 43, 45, 89, 123, 124, 125, 126, 127, 128, 129, 130, 131, 132, 133, 134, 135, 136, 137, 138, 146, 147, 148, 157, 158, 159, 160]
theorem fM_run_b75 {W : List Nat} {t0 : moS} {t : moS} {p1 : Int32} {a3 : Int32} (hW : sbs wM_run_b75 W) (h : mfr W t0 t) : aw (M_run_b75 t p1 a3) (fun z => (mfr W t0) z.2) := by
  unfold M_run_b75
  refine aw_lp (I := (fun z => (mfr W t0) z.2)) ?_ ?_
  · exact h
  · intro y hy
    exact (fM_run_s75 (hW.of (by decide)) hy)
def wM_run_b39 : List Nat := [23, 24, 25, 26, 39, 43, 44, 45, 89, 105, 106, 107, 108, 109, 110, 111, 112, 113, 114, 115, 116, 117, 118, 119, 120, 121, 122, 123, 124, 125, 126, 127, 128, 129, 130, 131, 132, 133, 134, 135, 136, 137, 138, 146, 147, 148, 153, 154, 155, 156, 157, 158, 159, 160]
theorem fM_run_b39 {W : List Nat} {t0 : moS} {t : moS} {p1 : Int32} {p2 : Int32} (hW : sbs wM_run_b39 W) (h : mfr W t0 t) : aw (M_run_b39 t p1 p2) (fun z => (mfr W t0) z.2) := by
  unfold M_run_b39
  exact (aw_bind (aw_wrI (hW.m (by decide)) (by assumption)) (fun _ h => (aw_bind (aw_wrI (hW.m (by decide)) (by assumption)) (fun _ h => (aw_bind (aw_wrZ (hW.m (by decide)) (by assumption)) (fun _ h => (aw_if (aw_some (by first | assumption | trivial | exact True.intro)) (aw_bind (fM_settle (hW.of (by decide)) (by assumption)) (fun _ h => (fM_run_b75 (hW.of (by decide)) (by assumption)))))))))))
def wM_run : List Nat := [0, 23, 24, 25, 26, 39, 43, 44, 45, 89, 105, 106, 107, 108, 109, 110, 111, 112, 113, 114, 115, 116, 117, 118, 119, 120, 121, 122, 123, 124, 125, 126, 127, 128, 129, 130, 131, 132, 133, 134, 135, 136, 137, 138, 139, 140, 141, 142, 143, 144, 145, 146, 147, 148, 151, 152, 153, 154, 155, 156, 157, 158, 159, 160]
theorem fM_run {W : List Nat} {t0 : moS} {t : moS} {p1 : Int32} {p2 : Int32} (hW : sbs wM_run W) (h : mfr W t0 t) : aw (M_run t p1 p2) (fun z => (mfr W t0) z.2) := by
  unfold M_run
  exact (aw_let (mfr.tr (by assumption) (mfr.ss (hW.m (by decide)))) (fun _ h => (aw_if (aw_some (by first | assumption | trivial | exact True.intro)) (aw_if (aw_bind aw_t (fun _ h => (aw_if (aw_some (by first | assumption | trivial | exact True.intro)) (aw_if (aw_bind (fM_tellAll (hW.of (by decide)) (by assumption)) (fun _ h => (fM_run_b39 (hW.of (by decide)) (by assumption)))) (fM_run_b39 (hW.of (by decide)) (by assumption)))))) (aw_some (by first | assumption | trivial | exact True.intro))))))
def wM_put_s121 : List Nat := [23, 24, 25, 26, 123, 124, 125, 126, 127, 128, 129, 130, 131, 132, 133, 134, 135, 136, 137, 138, 147]
theorem fM_put_s121 {W : List Nat} {t0 : moS} {t : moS} {p1 : Int32} {p3 : Int32} {p4 : Int32} {a6 : Int32} {a7 : Int32} {a8 : Int32} (hW : sbs wM_put_s121 W) (h : mfr W t0 t) : aw (M_put_s121 t p1 p3 p4 a6 a7 a8) (Sum.elim (fun z => (mfr W t0) z.2) (fun z => (mfr W t0) z.2)) := by
  unfold M_put_s121
  exact (aw_if (aw_bind aw_t (fun _ h => (aw_bind (aw_wrI (hW.m (by decide)) (by assumption)) (fun _ h => (aw_some (by first | assumption | trivial | exact True.intro)))))) (aw_xo (aw_bind aw_t (fun _ h => (aw_bind aw_t (fun _ h => (aw_bind (fM_go (hW.of (by decide)) (by assumption)) (fun _ h => (aw_some (by first | assumption | trivial | exact True.intro))))))))))
def wM_put_b121 : List Nat := [23, 24, 25, 26, 123, 124, 125, 126, 127, 128, 129, 130, 131, 132, 133, 134, 135, 136, 137, 138, 147]
theorem fM_put_b121 {W : List Nat} {t0 : moS} {t : moS} {p1 : Int32} {p3 : Int32} {p4 : Int32} {a6 : Int32} {a7 : Int32} {a8 : Int32} (hW : sbs wM_put_b121 W) (h : mfr W t0 t) : aw (M_put_b121 t p1 p3 p4 a6 a7 a8) (fun z => (mfr W t0) z.2) := by
  unfold M_put_b121
  refine aw_lp (I := (fun z => (mfr W t0) z.2)) ?_ ?_
  · exact h
  · intro y hy
    exact (fM_put_s121 (hW.of (by decide)) hy)
def wM_put_b73 : List Nat := [23, 24, 25, 26, 123, 124, 125, 126, 127, 128, 129, 130, 131, 132, 133, 134, 135, 136, 137, 138, 147, 148]
theorem fM_put_b73 {W : List Nat} {t0 : moS} {t : moS} {p1 : Int32} {p3 : Int32} {p4 : Int32} {a5 : Int32} {a6 : Int32} {u0 : Int32} (hW : sbs wM_put_b73 W) (h : mfr W t0 t) : aw (M_put_b73 t p1 p3 p4 a5 a6 u0) (fun z => (mfr W t0) z.2) := by
  unfold M_put_b73
  exact (aw_if (aw_some (by first | assumption | trivial | exact True.intro)) (aw_if (aw_some (by first | assumption | trivial | exact True.intro)) (aw_bind aw_t (fun _ h => (aw_if (aw_some (by first | assumption | trivial | exact True.intro)) (aw_let (mfr.tr (by assumption) (mfr.ss (hW.m (by decide)))) (fun _ h => (fM_put_b121 (hW.of (by decide)) (by assumption)))))))))
def wM_put_b60 : List Nat := [23, 24, 25, 26, 123, 124, 125, 126, 127, 128, 129, 130, 131, 132, 133, 134, 135, 136, 137, 138, 147, 148]
theorem fM_put_b60 {W : List Nat} {t0 : moS} {t : moS} {p1 : Int32} {p3 : Int32} {p4 : Int32} {a5 : Int32} {u0 : Int32} (hW : sbs wM_put_b60 W) (h : mfr W t0 t) : aw (M_put_b60 t p1 p3 p4 a5 u0) (fun z => (mfr W t0) z.2) := by
  unfold M_put_b60
  exact (aw_if (fM_put_b73 (hW.of (by decide)) (by assumption)) (fM_put_b73 (hW.of (by decide)) (by assumption)))
def wM_put_b27 : List Nat := [23, 24, 25, 26, 123, 124, 125, 126, 127, 128, 129, 130, 131, 132, 133, 134, 135, 136, 137, 138, 147, 148]
theorem fM_put_b27 {W : List Nat} {t0 : moS} {t : moS} {p1 : Int32} {p2 : Int32} {p3 : Int32} {p4 : Int32} {a5 : Int32} (hW : sbs wM_put_b27 W) (h : mfr W t0 t) : aw (M_put_b27 t p1 p2 p3 p4 a5) (fun z => (mfr W t0) z.2) := by
  unfold M_put_b27
  exact (aw_if (aw_some (by first | assumption | trivial | exact True.intro)) (aw_if (aw_bind aw_t (fun _ h => (aw_if (aw_some (by first | assumption | trivial | exact True.intro)) (aw_if (fM_put_b60 (hW.of (by decide)) (by assumption)) (fM_put_b60 (hW.of (by decide)) (by assumption)))))) (aw_some (by first | assumption | trivial | exact True.intro))))
def wM_put : List Nat := [0, 3, 23, 24, 25, 26, 123, 124, 125, 126, 127, 128, 129, 130, 131, 132, 133, 134, 135, 136, 137, 138, 147, 148]
theorem fM_put {W : List Nat} {t0 : moS} {t : moS} {p1 : Int32} {p2 : Int32} {p3 : Int32} {p4 : Int32} (hW : sbs wM_put W) (h : mfr W t0 t) : aw (M_put t p1 p2 p3 p4) (fun z => (mfr W t0) z.2) := by
  unfold M_put
  exact (aw_let (mfr.tr (by assumption) (mfr.ss (hW.m (by decide)))) (fun _ h => (aw_let (mfr.tr (by assumption) (mfr.ss (hW.m (by decide)))) (fun _ h => (aw_if (fM_put_b27 (hW.of (by decide)) (by assumption)) (aw_if (fM_put_b27 (hW.of (by decide)) (by assumption)) (aw_some (by first | assumption | trivial | exact True.intro))))))))
def wM_sayName_b71 : List Nat := [7, 8]
theorem fM_sayName_b71 {W : List Nat} {t0 : moS} {t : moS} {a3 : Int32} {a4 : Int64} {u1 : Int32} (hW : sbs wM_sayName_b71 W) (h : mfr W t0 t) : aw (M_sayName_b71 t a3 a4 u1) (Sum.elim (fun z => (mfr W t0) z.2) (mfr W t0)) := by
  unfold M_sayName_b71
  exact (aw_bind (fM_say (hW.of (by decide)) (by assumption)) (fun _ h => (aw_some (by first | assumption | trivial | exact True.intro))))
def wM_sayName_s90 : List Nat := [7]
theorem fM_sayName_s90 {W : List Nat} {t0 : moS} {t : moS} {a3 : Int32} {a4 : Int32} (hW : sbs wM_sayName_s90 W) (h : mfr W t0 t) : aw (M_sayName_s90 t a3 a4) (Sum.elim (fun z => (mfr W t0) z.2) (mfr W t0)) := by
  unfold M_sayName_s90
  exact (aw_if (aw_bind aw_t (fun _ h => (aw_bind aw_t (fun _ h => (aw_bind (aw_wrI (hW.m (by decide)) (by assumption)) (fun _ h => (aw_bind (aw_wrI (hW.m (by decide)) (by assumption)) (fun _ h => (aw_some (by first | assumption | trivial | exact True.intro)))))))))) (aw_xo (aw_some (by first | assumption | trivial | exact True.intro))))
def wM_sayName_b90 : List Nat := [7]
theorem fM_sayName_b90 {W : List Nat} {t0 : moS} {t : moS} {a3 : Int32} {a4 : Int32} (hW : sbs wM_sayName_b90 W) (h : mfr W t0 t) : aw (M_sayName_b90 t a3 a4) (mfr W t0) := by
  unfold M_sayName_b90
  refine aw_lp (I := (fun z => (mfr W t0) z.2)) ?_ ?_
  · exact h
  · intro y hy
    exact (fM_sayName_s90 (hW.of (by decide)) hy)
def wM_sayName_s8 : List Nat := [7, 8]
theorem fM_sayName_s8 {W : List Nat} {t0 : moS} {t : moS} {a3 : Int32} {a4 : Int64} (hW : sbs wM_sayName_s8 W) (h : mfr W t0 t) : aw (M_sayName_s8 t a3 a4) (Sum.elim (fun z => (mfr W t0) z.2) (mfr W t0)) := by
  unfold M_sayName_s8
  exact (aw_if (aw_xo (fM_sayName_b90 (hW.of (by decide)) (by assumption))) (aw_if (fM_sayName_b71 (hW.of (by decide)) (by assumption)) (aw_if (fM_sayName_b71 (hW.of (by decide)) (by assumption)) (fM_sayName_b71 (hW.of (by decide)) (by assumption)))))
def wM_sayName_b8 : List Nat := [7, 8]
theorem fM_sayName_b8 {W : List Nat} {t0 : moS} {t : moS} {a3 : Int32} {a4 : Int64} (hW : sbs wM_sayName_b8 W) (h : mfr W t0 t) : aw (M_sayName_b8 t a3 a4) (mfr W t0) := by
  unfold M_sayName_b8
  refine aw_lp (I := (fun z => (mfr W t0) z.2)) ?_ ?_
  · exact h
  · intro y hy
    exact (fM_sayName_s8 (hW.of (by decide)) hy)
def wM_sayName : List Nat := [7, 8]
theorem fM_sayName {W : List Nat} {t0 : moS} {t : moS} {p1 : Int64} (hW : sbs wM_sayName W) (h : mfr W t0 t) : aw (M_sayName t p1) (mfr W t0) := by
  unfold M_sayName
  exact (fM_sayName_b8 (hW.of (by decide)) (by assumption))
def wM_sayNumber10_s18 : List Nat := [7, 8]
theorem fM_sayNumber10_s18 {W : List Nat} {t0 : moS} {t : moS} {p1 : Int32} {a2 : Int32} (hW : sbs wM_sayNumber10_s18 W) (h : mfr W t0 t) : aw (M_sayNumber10_s18 t p1 a2) (Sum.elim (fun z => (mfr W t0) z.2) (mfr W t0)) := by
  unfold M_sayNumber10_s18
  exact (aw_if (aw_nz (aw_bind (fM_say (hW.of (by decide)) (by assumption)) (fun _ h => (aw_some (by first | assumption | trivial | exact True.intro))))) (aw_xo (aw_some (by first | assumption | trivial | exact True.intro))))
def wM_sayNumber10_b18 : List Nat := [7, 8]
theorem fM_sayNumber10_b18 {W : List Nat} {t0 : moS} {t : moS} {p1 : Int32} {a2 : Int32} (hW : sbs wM_sayNumber10_b18 W) (h : mfr W t0 t) : aw (M_sayNumber10_b18 t p1 a2) (mfr W t0) := by
  unfold M_sayNumber10_b18
  refine aw_lp (I := (fun z => (mfr W t0) z.2)) ?_ ?_
  · exact h
  · intro y hy
    exact (fM_sayNumber10_s18 (hW.of (by decide)) hy)
def wM_sayNumber10_s2 : List Nat := [7, 8]
theorem fM_sayNumber10_s2 {W : List Nat} {t0 : moS} {t : moS} {p1 : Int32} {a2 : Int32} (hW : sbs wM_sayNumber10_s2 W) (h : mfr W t0 t) : aw (M_sayNumber10_s2 t p1 a2) (Sum.elim (fun z => (mfr W t0) z.2) (mfr W t0)) := by
  unfold M_sayNumber10_s2
  exact (aw_nz (aw_if (aw_some (by first | assumption | trivial | exact True.intro)) (aw_xo (fM_sayNumber10_b18 (hW.of (by decide)) (by assumption)))))
def wM_sayNumber10_b2 : List Nat := [7, 8]
theorem fM_sayNumber10_b2 {W : List Nat} {t0 : moS} {t : moS} {p1 : Int32} {a2 : Int32} (hW : sbs wM_sayNumber10_b2 W) (h : mfr W t0 t) : aw (M_sayNumber10_b2 t p1 a2) (mfr W t0) := by
  unfold M_sayNumber10_b2
  refine aw_lp (I := (fun z => (mfr W t0) z.2)) ?_ ?_
  · exact h
  · intro y hy
    exact (fM_sayNumber10_s2 (hW.of (by decide)) hy)
def wM_sayNumber10 : List Nat := [7, 8]
theorem fM_sayNumber10 {W : List Nat} {t0 : moS} {t : moS} {p1 : Int32} (hW : sbs wM_sayNumber10 W) (h : mfr W t0 t) : aw (M_sayNumber10 t p1) (mfr W t0) := by
  unfold M_sayNumber10
  exact (fM_sayNumber10_b2 (hW.of (by decide)) (by assumption))
def wM_sayNumber_b14 : List Nat := [7, 8]
theorem fM_sayNumber_b14 {W : List Nat} {t0 : moS} {t : moS} {p1 : Int32} (hW : sbs wM_sayNumber_b14 W) (h : mfr W t0 t) : aw (M_sayNumber_b14 t p1) (mfr W t0) := by
  unfold M_sayNumber_b14
  exact (aw_bind (fM_say (hW.of (by decide)) (by assumption)) (fun _ h => (aw_some (by first | assumption | trivial | exact True.intro))))
def wM_sayNumber : List Nat := [7, 8]
theorem fM_sayNumber {W : List Nat} {t0 : moS} {t : moS} {p1 : Int32} (hW : sbs wM_sayNumber W) (h : mfr W t0 t) : aw (M_sayNumber t p1) (mfr W t0) := by
  unfold M_sayNumber
  exact (aw_if (aw_bind (fM_sayNumber10 (hW.of (by decide)) (by assumption)) (fun _ h => (fM_sayNumber_b14 (hW.of (by decide)) (by assumption)))) (fM_sayNumber_b14 (hW.of (by decide)) (by assumption)))
def wM_sayAddress_b24 : List Nat := [7, 8]
theorem fM_sayAddress_b24 {W : List Nat} {t0 : moS} {t : moS} {p2 : Int64} {a6 : Int32} (hW : sbs wM_sayAddress_b24 W) (h : mfr W t0 t) : aw (M_sayAddress_b24 t p2 a6) (Sum.elim (fun z => (mfr W t0) z.2) (mfr W t0)) := by
  unfold M_sayAddress_b24
  exact (aw_bind (fM_sayNumber (hW.of (by decide)) (by assumption)) (fun _ h => (aw_some (by first | assumption | trivial | exact True.intro))))
def wM_sayAddress_s7 : List Nat := [7, 8]
theorem fM_sayAddress_s7 {W : List Nat} {t0 : moS} {t : moS} {p2 : Int64} {a6 : Int32} (hW : sbs wM_sayAddress_s7 W) (h : mfr W t0 t) : aw (M_sayAddress_s7 t p2 a6) (Sum.elim (fun z => (mfr W t0) z.2) (mfr W t0)) := by
  unfold M_sayAddress_s7
  exact (aw_if (aw_if (aw_bind (fM_say (hW.of (by decide)) (by assumption)) (fun _ h => (fM_sayAddress_b24 (hW.of (by decide)) (by assumption)))) (fM_sayAddress_b24 (hW.of (by decide)) (by assumption))) (aw_xo (aw_some (by first | assumption | trivial | exact True.intro))))
def wM_sayAddress_b7 : List Nat := [7, 8]
theorem fM_sayAddress_b7 {W : List Nat} {t0 : moS} {t : moS} {p2 : Int64} {a6 : Int32} (hW : sbs wM_sayAddress_b7 W) (h : mfr W t0 t) : aw (M_sayAddress_b7 t p2 a6) (mfr W t0) := by
  unfold M_sayAddress_b7
  refine aw_lp (I := (fun z => (mfr W t0) z.2)) ?_ ?_
  · exact h
  · intro y hy
    exact (fM_sayAddress_s7 (hW.of (by decide)) hy)
def wM_sayAddress_b78 : List Nat := [16]
theorem fM_sayAddress_b78 {W : List Nat} {t0 : moS} {t : moS} {p2 : Int64} {p4 : Int64} {a6 : Int32} {u1 : Int32} {u2 : Int64} (hW : sbs wM_sayAddress_b78 W) (h : mfr W t0 t) : aw (M_sayAddress_b78 t p2 p4 a6 u1 u2) (Sum.elim (fun z => (mfr W t0) z.2) (mfr W t0)) := by
  unfold M_sayAddress_b78
  exact (aw_bind (aw_wrI (hW.m (by decide)) (by assumption)) (fun _ h => (aw_some (by first | assumption | trivial | exact True.intro))))
def wM_sayAddress_b164 : List Nat := []
theorem fM_sayAddress_b164 {W : List Nat} {t0 : moS} {t : moS} {a6 : Int32} {a7 : Int32} {a8 : Int32} (hW : sbs wM_sayAddress_b164 W) (h : mfr W t0 t) : aw (M_sayAddress_b164 t a6 a7 a8) (Sum.elim (fun z => (fun z => (fun z => (mfr W t0) z.2) z.2) z.2) (mfr W t0)) := by
  unfold M_sayAddress_b164
  exact (aw_some (by first | assumption | trivial | exact True.intro))
def wM_sayAddress_b149 : List Nat := []
theorem fM_sayAddress_b149 {W : List Nat} {t0 : moS} {t : moS} {a6 : Int32} {a7 : Int32} {a8 : Int32} {a9 : Int32} (hW : sbs wM_sayAddress_b149 W) (h : mfr W t0 t) : aw (M_sayAddress_b149 t a6 a7 a8 a9) (Sum.elim (fun z => (fun z => (fun z => (mfr W t0) z.2) z.2) z.2) (mfr W t0)) := by
  unfold M_sayAddress_b149
  exact (aw_if (fM_sayAddress_b164 (hW.of (by decide)) (by assumption)) (fM_sayAddress_b164 (hW.of (by decide)) (by assumption)))
def wM_sayAddress_s120 : List Nat := []
theorem fM_sayAddress_s120 {W : List Nat} {t0 : moS} {t : moS} {a6 : Int32} {a7 : Int32} {a8 : Int32} {a9 : Int32} (hW : sbs wM_sayAddress_s120 W) (h : mfr W t0 t) : aw (M_sayAddress_s120 t a6 a7 a8 a9) (Sum.elim (fun z => (mfr W t0) z.2) (Sum.elim (fun z => (fun z => (fun z => (mfr W t0) z.2) z.2) z.2) (mfr W t0))) := by
  unfold M_sayAddress_s120
  exact (aw_if (aw_bind aw_t (fun _ h => (aw_if (aw_some (by first | assumption | trivial | exact True.intro)) (aw_xo (fM_sayAddress_b149 (hW.of (by decide)) (by assumption)))))) (aw_xo (fM_sayAddress_b149 (hW.of (by decide)) (by assumption))))
def wM_sayAddress_b120 : List Nat := []
theorem fM_sayAddress_b120 {W : List Nat} {t0 : moS} {t : moS} {a6 : Int32} {a7 : Int32} {a8 : Int32} {a9 : Int32} (hW : sbs wM_sayAddress_b120 W) (h : mfr W t0 t) : aw (M_sayAddress_b120 t a6 a7 a8 a9) (Sum.elim (fun z => (fun z => (fun z => (mfr W t0) z.2) z.2) z.2) (mfr W t0)) := by
  unfold M_sayAddress_b120
  refine aw_lp (I := (fun z => (mfr W t0) z.2)) ?_ ?_
  · exact h
  · intro y hy
    exact (fM_sayAddress_s120 (hW.of (by decide)) hy)
def wM_sayAddress_b339 : List Nat := []
theorem fM_sayAddress_b339 {W : List Nat} {t0 : moS} {t : moS} {a6 : Int32} {a7 : Int32} {a8 : Int32} {a9 : Int32} (hW : sbs wM_sayAddress_b339 W) (h : mfr W t0 t) : aw (M_sayAddress_b339 t a6 a7 a8 a9) (Sum.elim (fun z => (mfr W t0) z.2) (mfr W t0)) := by
  unfold M_sayAddress_b339
  exact (aw_some (by first | assumption | trivial | exact True.intro))
def wM_sayAddress_b228 : List Nat := [7, 8]
theorem fM_sayAddress_b228 {W : List Nat} {t0 : moS} {t : moS} {a6 : Int32} {a7 : Int32} {a8 : Int32} {a9 : Int32} (hW : sbs wM_sayAddress_b228 W) (h : mfr W t0 t) : aw (M_sayAddress_b228 t a6 a7 a8 a9) (Sum.elim (fun z => (mfr W t0) z.2) (mfr W t0)) := by
  unfold M_sayAddress_b228
  exact (aw_if (aw_bind (fM_say (hW.of (by decide)) (by assumption)) (fun _ h => (fM_sayAddress_b339 (hW.of (by decide)) (by assumption)))) (fM_sayAddress_b339 (hW.of (by decide)) (by assumption)))
def wM_sayAddress_b333 : List Nat := []
theorem fM_sayAddress_b333 {W : List Nat} {t0 : moS} {t : moS} {a6 : Int32} {a7 : Int32} {a8 : Int32} {a9 : Int32} {a10 : Int32} {a11 : Int32} (hW : sbs wM_sayAddress_b333 W) (h : mfr W t0 t) : aw (M_sayAddress_b333 t a6 a7 a8 a9 a10 a11) (Sum.elim (fun z => (fun z => (mfr W t0) z.2) z.2) (Sum.elim (fun z => (mfr W t0) z.2) (mfr W t0))) := by
  unfold M_sayAddress_b333
  exact (aw_some (by first | assumption | trivial | exact True.intro))
def wM_sayAddress_b317 : List Nat := [7, 8]
theorem fM_sayAddress_b317 {W : List Nat} {t0 : moS} {t : moS} {a6 : Int32} {a7 : Int32} {a8 : Int32} {a9 : Int32} {a11 : Int32} {a12 : Int32} {u0 : Int32} (hW : sbs wM_sayAddress_b317 W) (h : mfr W t0 t) : aw (M_sayAddress_b317 t a6 a7 a8 a9 a11 a12 u0) (Sum.elim (fun z => (fun z => (mfr W t0) z.2) z.2) (Sum.elim (fun z => (mfr W t0) z.2) (mfr W t0))) := by
  unfold M_sayAddress_b317
  exact (aw_if (fM_sayAddress_b333 (hW.of (by decide)) (by assumption)) (aw_bind (fM_say (hW.of (by decide)) (by assumption)) (fun _ h => (fM_sayAddress_b333 (hW.of (by decide)) (by assumption)))))
