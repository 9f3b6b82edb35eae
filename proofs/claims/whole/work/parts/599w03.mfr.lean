/-! What the model's functions leave as it was, by program. -/
def wM_tellTo_s14 : List Nat := [23, 24, 25, 26, 45, 89, 123, 124, 125, 126, 127, 128, 129, 130, 131, 132, 133, 134, 135, 136, 137, 138, 146, 147, 148, 157, 158, 159, 160]
theorem fM_tellTo_s14 {W : List Nat} {t0 : moS} {t : moS} {p1 : Int32} {p2 : Int32} {p3 : Int32} {p4 : Int64} {p6 : Int64} {a8 : Int32} {a9 : Int32} {a10 : Int32} (hW : sbs wM_tellTo_s14 W) (h : mfr W t0 t) : aw (M_tellTo_s14 t p1 p2 p3 p4 p6 a8 a9 a10) (Sum.elim (fun z => (fun z => (mfr W t0) z.2) z.2) (mfr W t0)) := by
  unfold M_tellTo_s14
  exact (aw_if (aw_bind (fM_layEntry (hW.of (by decide)) (by assumption)) (fun _ h => (aw_if (aw_if (fM_tellTo_b76 (hW.of (by decide)) (by assumption)) (fM_tellTo_b59 (hW.of (by decide)) (by assumption))) (fM_tellTo_b59 (hW.of (by decide)) (by assumption))))) (aw_xo (aw_some (by first | assumption | trivial | exact True.intro))))
def wM_tellTo_b14 : List Nat := [23, 24, 25, 26, 45, 89, 123, 124, 125, 126, 127, 128, 129, 130, 131, 132, 133, 134, 135, 136, 137, 138, 146, 147, 148, 157, 158, 159, 160]
theorem fM_tellTo_b14 {W : List Nat} {t0 : moS} {t : moS} {p1 : Int32} {p2 : Int32} {p3 : Int32} {p4 : Int64} {p6 : Int64} {a8 : Int32} {a9 : Int32} {a10 : Int32} (hW : sbs wM_tellTo_b14 W) (h : mfr W t0 t) : aw (M_tellTo_b14 t p1 p2 p3 p4 p6 a8 a9 a10) (mfr W t0) := by
  unfold M_tellTo_b14
  refine aw_lp (I := (fun z => (fun z => (mfr W t0) z.2) z.2)) ?_ ?_
  · exact h
  · intro y hy
    exact (fM_tellTo_s14 (hW.of (by decide)) hy)
def wM_tellTo : List Nat := [23, 24, 25, 26, 45, 89, 123, 124, 125, 126, 127, 128, 129, 130, 131, 132, 133, 134, 135, 136, 137, 138, 146, 147, 148, 157, 158, 159, 160]
theorem fM_tellTo {W : List Nat} {t0 : moS} {t : moS} {p1 : Int32} {p2 : Int32} {p3 : Int32} {p4 : Int64} {p6 : Int64} (hW : sbs wM_tellTo W) (h : mfr W t0 t) : aw (M_tellTo t p1 p2 p3 p4 p6) (mfr W t0) := by
  unfold M_tellTo
  exact (aw_bind aw_t (fun _ h => (fM_tellTo_b14 (hW.of (by decide)) (by assumption))))
def wM_tell_b100 : List Nat := []
theorem fM_tell_b100 {W : List Nat} {t0 : moS} {t : moS} {p1 : Int32} {p2 : Int32} {a3 : Int32} {a4 : Int32} (hW : sbs wM_tell_b100 W) (h : mfr W t0 t) : aw (M_tell_b100 t p1 p2 a3 a4) (Sum.elim (fun z => (mfr W t0) z.2) (Sum.elim (fun z => (mfr W t0) z.2) (mfr W t0))) := by
  unfold M_tell_b100
  exact (aw_some (by first | assumption | trivial | exact True.intro))
def wM_tell_b106 : List Nat := []
theorem fM_tell_b106 {W : List Nat} {t0 : moS} {t : moS} {p1 : Int32} {p2 : Int32} {a3 : Int32} (hW : sbs wM_tell_b106 W) (h : mfr W t0 t) : aw (M_tell_b106 t p1 p2 a3) (Sum.elim (fun z => (mfr W t0) z.2) (mfr W t0)) := by
  unfold M_tell_b106
  exact (aw_some (by first | assumption | trivial | exact True.intro))
def wM_tell_s53 : List Nat := [23, 24, 25, 26, 45, 89, 123, 124, 125, 126, 127, 128, 129, 130, 131, 132, 133, 134, 135, 136, 137, 138, 146, 147, 148, 157, 158, 159, 160]
theorem fM_tell_s53 {W : List Nat} {t0 : moS} {t : moS} {p1 : Int32} {p2 : Int32} {a3 : Int32} {a4 : Int32} (hW : sbs wM_tell_s53 W) (h : mfr W t0 t) : aw (M_tell_s53 t p1 p2 a3 a4) (Sum.elim (fun z => (mfr W t0) z.2) (Sum.elim (fun z => (mfr W t0) z.2) (mfr W t0))) := by
  unfold M_tell_s53
  exact (aw_bind aw_t (fun _ h => (aw_if (aw_bind aw_t (fun _ h => (aw_if (aw_bind aw_t (fun _ h => (aw_bind aw_t (fun _ h => (aw_bind (fM_tellTo (hW.of (by decide)) (by assumption)) (fun _ h => (fM_tell_b100 (hW.of (by decide)) (by assumption)))))))) (fM_tell_b100 (hW.of (by decide)) (by assumption))))) (aw_xo (fM_tell_b106 (hW.of (by decide)) (by assumption))))))
def wM_tell_b53 : List Nat := [23, 24, 25, 26, 45, 89, 123, 124, 125, 126, 127, 128, 129, 130, 131, 132, 133, 134, 135, 136, 137, 138, 146, 147, 148, 157, 158, 159, 160]
theorem fM_tell_b53 {W : List Nat} {t0 : moS} {t : moS} {p1 : Int32} {p2 : Int32} {a3 : Int32} {a4 : Int32} (hW : sbs wM_tell_b53 W) (h : mfr W t0 t) : aw (M_tell_b53 t p1 p2 a3 a4) (Sum.elim (fun z => (mfr W t0) z.2) (mfr W t0)) := by
  unfold M_tell_b53
  refine aw_lp (I := (fun z => (mfr W t0) z.2)) ?_ ?_
  · exact h
  · intro y hy
    exact (fM_tell_s53 (hW.of (by decide)) hy)
def wM_tell_b48 : List Nat := [23, 24, 25, 26, 45, 89, 123, 124, 125, 126, 127, 128, 129, 130, 131, 132, 133, 134, 135, 136, 137, 138, 146, 147, 148, 157, 158, 159, 160]
theorem fM_tell_b48 {W : List Nat} {t0 : moS} {t : moS} {p1 : Int32} {p2 : Int32} {a3 : Int32} (hW : sbs wM_tell_b48 W) (h : mfr W t0 t) : aw (M_tell_b48 t p1 p2 a3) (Sum.elim (fun z => (mfr W t0) z.2) (mfr W t0)) := by
  unfold M_tell_b48
  exact (fM_tell_b53 (hW.of (by decide)) (by assumption))
def wM_tell_s2 : List Nat := [23, 24, 25, 26, 45, 89, 123, 124, 125, 126, 127, 128, 129, 130, 131, 132, 133, 134, 135, 136, 137, 138, 139, 140, 141, 142, 143, 144, 145, 146, 147, 148, 151, 152, 157, 158, 159, 160]
theorem fM_tell_s2 {W : List Nat} {t0 : moS} {t : moS} {p1 : Int32} {p2 : Int32} {a3 : Int32} (hW : sbs wM_tell_s2 W) (h : mfr W t0 t) : aw (M_tell_s2 t p1 p2 a3) (Sum.elim (fun z => (mfr W t0) z.2) (mfr W t0)) := by
  unfold M_tell_s2
  exact (aw_if (aw_bind aw_t (fun _ h => (aw_if (fM_tell_b106 (hW.of (by decide)) (by assumption)) (aw_bind (fM_gather (hW.of (by decide)) (by assumption)) (fun _ h => (aw_bind aw_t (fun _ h => (aw_if (aw_bind (fM_tellTo (hW.of (by decide)) (by assumption)) (fun _ h => (fM_tell_b48 (hW.of (by decide)) (by assumption)))) (fM_tell_b48 (hW.of (by decide)) (by assumption)))))))))) (aw_xo (aw_some (by first | assumption | trivial | exact True.intro))))
def wM_tell_b2 : List Nat := [23, 24, 25, 26, 45, 89, 123, 124, 125, 126, 127, 128, 129, 130, 131, 132, 133, 134, 135, 136, 137, 138, 139, 140, 141, 142, 143, 144, 145, 146, 147, 148, 151, 152, 157, 158, 159, 160]
theorem fM_tell_b2 {W : List Nat} {t0 : moS} {t : moS} {p1 : Int32} {p2 : Int32} {a3 : Int32} (hW : sbs wM_tell_b2 W) (h : mfr W t0 t) : aw (M_tell_b2 t p1 p2 a3) (mfr W t0) := by
  unfold M_tell_b2
  refine aw_lp (I := (fun z => (mfr W t0) z.2)) ?_ ?_
  · exact h
  · intro y hy
    exact (fM_tell_s2 (hW.of (by decide)) hy)
def wM_tell : List Nat := [23, 24, 25, 26, 45, 89, 123, 124, 125, 126, 127, 128, 129, 130, 131, 132, 133, 134, 135, 136, 137, 138, 139, 140, 141, 142, 143, 144, 145, 146, 147, 148, 151, 152, 157, 158, 159, 160]
theorem fM_tell {W : List Nat} {t0 : moS} {t : moS} {p1 : Int32} {p2 : Int32} (hW : sbs wM_tell W) (h : mfr W t0 t) : aw (M_tell t p1 p2) (mfr W t0) := by
  unfold M_tell
  exact (fM_tell_b2 (hW.of (by decide)) (by assumption))
def wM_tellAll_s4 : List Nat := [23, 24, 25, 26, 45, 89, 123, 124, 125, 126, 127, 128, 129, 130, 131, 132, 133, 134, 135, 136, 137, 138, 139, 140, 141, 142, 143, 144, 145, 146, 147, 148, 151, 152, 157, 158, 159, 160]
theorem fM_tellAll_s4 {W : List Nat} {t0 : moS} {t : moS} {p1 : Int32} {p2 : Int32} {a3 : Int32} (hW : sbs wM_tellAll_s4 W) (h : mfr W t0 t) : aw (M_tellAll_s4 t p1 p2 a3) (Sum.elim (fun z => (mfr W t0) z.2) (mfr W t0)) := by
  unfold M_tellAll_s4
  exact (aw_bind aw_t (fun _ h => (aw_if (aw_bind (fM_tell (hW.of (by decide)) (by assumption)) (fun _ h => (aw_some (by first | assumption | trivial | exact True.intro)))) (aw_xo (aw_some (by first | assumption | trivial | exact True.intro))))))
def wM_tellAll_b4 : List Nat := [23, 24, 25, 26, 45, 89, 123, 124, 125, 126, 127, 128, 129, 130, 131, 132, 133, 134, 135, 136, 137, 138, 139, 140, 141, 142, 143, 144, 145, 146, 147, 148, 151, 152, 157, 158, 159, 160]
theorem fM_tellAll_b4 {W : List Nat} {t0 : moS} {t : moS} {p1 : Int32} {p2 : Int32} {a3 : Int32} (hW : sbs wM_tellAll_b4 W) (h : mfr W t0 t) : aw (M_tellAll_b4 t p1 p2 a3) (mfr W t0) := by
  unfold M_tellAll_b4
  refine aw_lp (I := (fun z => (mfr W t0) z.2)) ?_ ?_
  · exact h
  · intro y hy
    exact (fM_tellAll_s4 (hW.of (by decide)) hy)
def wM_tellAll : List Nat := [23, 24, 25, 26, 45, 89, 123, 124, 125, 126, 127, 128, 129, 130, 131, 132, 133, 134, 135, 136, 137, 138, 139, 140, 141, 142, 143, 144, 145, 146, 147, 148, 151, 152, 157, 158, 159, 160]
theorem fM_tellAll {W : List Nat} {t0 : moS} {t : moS} {p1 : Int32} {p2 : Int32} (hW : sbs wM_tellAll W) (h : mfr W t0 t) : aw (M_tellAll t p1 p2) (mfr W t0) := by
  unfold M_tellAll
  exact (fM_tellAll_b4 (hW.of (by decide)) (by assumption))
def wM_forget_s6 : List Nat := [44, 119]
theorem fM_forget_s6 {W : List Nat} {t0 : moS} {t : moS} {p1 : Int32} {a2 : Int32} (hW : sbs wM_forget_s6 W) (h : mfr W t0 t) : aw (M_forget_s6 t p1 a2) (Sum.elim (fun z => (mfr W t0) z.2) (mfr W t0)) := by
  unfold M_forget_s6
  exact (aw_bind aw_t (fun _ h => (aw_if (aw_bind (aw_wrZ (hW.m (by decide)) (by assumption)) (fun _ h => (aw_some (by first | assumption | trivial | exact True.intro)))) (aw_xo (aw_bind (aw_wrI (hW.m (by decide)) (by assumption)) (fun _ h => (aw_some (by first | assumption | trivial | exact True.intro))))))))
def wM_forget_b6 : List Nat := [44, 119]
theorem fM_forget_b6 {W : List Nat} {t0 : moS} {t : moS} {p1 : Int32} {a2 : Int32} (hW : sbs wM_forget_b6 W) (h : mfr W t0 t) : aw (M_forget_b6 t p1 a2) (mfr W t0) := by
  unfold M_forget_b6
  refine aw_lp (I := (fun z => (mfr W t0) z.2)) ?_ ?_
  · exact h
  · intro y hy
    exact (fM_forget_s6 (hW.of (by decide)) hy)
def wM_forget : List Nat := [44, 119]
theorem fM_forget {W : List Nat} {t0 : moS} {t : moS} {p1 : Int32} (hW : sbs wM_forget W) (h : mfr W t0 t) : aw (M_forget t p1) (mfr W t0) := by
  unfold M_forget
  exact (fM_forget_b6 (hW.of (by decide)) (by assumption))
def wM_isNotOlder_b35 : List Nat := []
theorem fM_isNotOlder_b35 {W : List Nat} {t0 : moS} {t : moS} {p1 : Int32} {p2 : Int64} {p4 : Int64} {a6 : Int32} (hW : sbs wM_isNotOlder_b35 W) (h : mfr W t0 t) : aw (M_isNotOlder_b35 t p1 p2 p4 a6) (Sum.elim (fun z => (mfr W t0) z.2) (fun z => (mfr W t0) z.2)) := by
  unfold M_isNotOlder_b35
  exact (aw_some (by first | assumption | trivial | exact True.intro))
def wM_isNotOlder_b66 : List Nat := [101, 102, 103, 104]
theorem fM_isNotOlder_b66 {W : List Nat} {t0 : moS} {t : moS} {p1 : Int32} {p2 : Int64} {p4 : Int64} {a6 : Int32} (hW : sbs wM_isNotOlder_b66 W) (h : mfr W t0 t) : aw (M_isNotOlder_b66 t p1 p2 p4 a6) (fun z => (mfr W t0) z.2) := by
  unfold M_isNotOlder_b66
  exact (aw_bind (aw_wrI (hW.m (by decide)) (by assumption)) (fun _ h => (aw_bind (aw_wrJ (hW.m (by decide)) (by assumption)) (fun _ h => (aw_bind (aw_wrJ (hW.m (by decide)) (by assumption)) (fun _ h => (aw_let (mfr.tr (by assumption) (mfr.ss (hW.m (by decide)))) (fun _ h => (aw_some (by first | assumption | trivial | exact True.intro))))))))))
def wM_isNotOlder_b41 : List Nat := [101, 102, 103, 104]
theorem fM_isNotOlder_b41 {W : List Nat} {t0 : moS} {t : moS} {p1 : Int32} {p2 : Int64} {p4 : Int64} {a6 : Int32} (hW : sbs wM_isNotOlder_b41 W) (h : mfr W t0 t) : aw (M_isNotOlder_b41 t p1 p2 p4 a6) (fun z => (mfr W t0) z.2) := by
  unfold M_isNotOlder_b41
  exact (aw_if (aw_if (aw_bind (fM_growSources (hW.of (by decide)) (by assumption)) (fun _ h => (fM_isNotOlder_b66 (hW.of (by decide)) (by assumption)))) (fM_isNotOlder_b66 (hW.of (by decide)) (by assumption))) (aw_bind aw_t (fun _ h => (aw_if (aw_some (by first | assumption | trivial | exact True.intro)) (aw_bind (aw_wrJ (hW.m (by decide)) (by assumption)) (fun _ h => (aw_some (by first | assumption | trivial | exact True.intro))))))))
def wM_isNotOlder_s3 : List Nat := [101, 102, 103, 104]
theorem fM_isNotOlder_s3 {W : List Nat} {t0 : moS} {t : moS} {p1 : Int32} {p2 : Int64} {p4 : Int64} {a6 : Int32} (hW : sbs wM_isNotOlder_s3 W) (h : mfr W t0 t) : aw (M_isNotOlder_s3 t p1 p2 p4 a6) (Sum.elim (fun z => (mfr W t0) z.2) (fun z => (mfr W t0) z.2)) := by
  unfold M_isNotOlder_s3
  exact (aw_if (aw_bind aw_t (fun _ h => (aw_if (aw_bind aw_t (fun _ h => (aw_if (aw_xo (fM_isNotOlder_b41 (hW.of (by decide)) (by assumption))) (fM_isNotOlder_b35 (hW.of (by decide)) (by assumption))))) (fM_isNotOlder_b35 (hW.of (by decide)) (by assumption))))) (aw_xo (fM_isNotOlder_b41 (hW.of (by decide)) (by assumption))))
def wM_isNotOlder_b3 : List Nat := [101, 102, 103, 104]
theorem fM_isNotOlder_b3 {W : List Nat} {t0 : moS} {t : moS} {p1 : Int32} {p2 : Int64} {p4 : Int64} {a6 : Int32} (hW : sbs wM_isNotOlder_b3 W) (h : mfr W t0 t) : aw (M_isNotOlder_b3 t p1 p2 p4 a6) (fun z => (mfr W t0) z.2) := by
  unfold M_isNotOlder_b3
  refine aw_lp (I := (fun z => (mfr W t0) z.2)) ?_ ?_
  · exact h
  · intro y hy
    exact (fM_isNotOlder_s3 (hW.of (by decide)) hy)
def wM_isNotOlder : List Nat := [101, 102, 103, 104]
theorem fM_isNotOlder {W : List Nat} {t0 : moS} {t : moS} {p1 : Int32} {p2 : Int64} {p4 : Int64} (hW : sbs wM_isNotOlder W) (h : mfr W t0 t) : aw (M_isNotOlder t p1 p2 p4) (fun z => (mfr W t0) z.2) := by
  unfold M_isNotOlder
  exact (fM_isNotOlder_b3 (hW.of (by decide)) (by assumption))
def wM_keysAreGood_b51 : List Nat := []
theorem fM_keysAreGood_b51 {W : List Nat} {t0 : moS} {t : moS} (hW : sbs wM_keysAreGood_b51 W) (h : mfr W t0 t) : aw (M_keysAreGood_b51 t) (fun z => (mfr W t0) z.2) := by
  unfold M_keysAreGood_b51
  exact (aw_some (by first | assumption | trivial | exact True.intro))
def wM_keysAreGood_b158 : List Nat := []
theorem fM_keysAreGood_b158 {W : List Nat} {t0 : moS} {t : moS} {p1 : Int32} {a5 : Int32} {u0 : Int32} (hW : sbs wM_keysAreGood_b158 W) (h : mfr W t0 t) : aw (M_keysAreGood_b158 t p1 a5 u0) (Sum.elim (fun z => (fun z => (mfr W t0) z.2) z.2) (fun z => (mfr W t0) z.2)) := by
  unfold M_keysAreGood_b158
  exact (aw_some (by first | assumption | trivial | exact True.intro))
def wM_keysAreGood_b157 : List Nat := []
theorem fM_keysAreGood_b157 {W : List Nat} {t0 : moS} {t : moS} {p1 : Int32} {a5 : Int32} (hW : sbs wM_keysAreGood_b157 W) (h : mfr W t0 t) : aw (M_keysAreGood_b157 t p1 a5) (Sum.elim (fun z => (fun z => (mfr W t0) z.2) z.2) (fun z => (mfr W t0) z.2)) := by
  unfold M_keysAreGood_b157
  exact (fM_keysAreGood_b158 (hW.of (by decide)) (by assumption))
def wM_keysAreGood_b150 : List Nat := []
theorem fM_keysAreGood_b150 {W : List Nat} {t0 : moS} {t : moS} {p1 : Int32} {a5 : Int32} {u0 : Int32} {u1 : Int32} (hW : sbs wM_keysAreGood_b150 W) (h : mfr W t0 t) : aw (M_keysAreGood_b150 t p1 a5 u0 u1) (Sum.elim (fun z => (fun z => (mfr W t0) z.2) z.2) (fun z => (mfr W t0) z.2)) := by
  unfold M_keysAreGood_b150
  exact (aw_if (fM_keysAreGood_b158 (hW.of (by decide)) (by assumption)) (fM_keysAreGood_b157 (hW.of (by decide)) (by assumption)))
def wM_keysAreGood_s101 : List Nat := []
theorem fM_keysAreGood_s101 {W : List Nat} {t0 : moS} {t : moS} {p1 : Int32} {a4 : Int32} {a5 : Int32} (hW : sbs wM_keysAreGood_s101 W) (h : mfr W t0 t) : aw (M_keysAreGood_s101 t p1 a4 a5) (Sum.elim (fun z => (fun z => (mfr W t0) z.2) z.2) (fun z => (mfr W t0) z.2)) := by
  unfold M_keysAreGood_s101
  exact (aw_if (aw_if (fM_keysAreGood_b157 (hW.of (by decide)) (by assumption)) (aw_bind aw_t (fun _ h => (aw_bind aw_t (fun _ h => (aw_if (aw_bind aw_t (fun _ h => (fM_keysAreGood_b150 (hW.of (by decide)) (by assumption)))) (fM_keysAreGood_b150 (hW.of (by decide)) (by assumption)))))))) (aw_xo (aw_okZ (aw_some (by first | assumption | trivial | exact True.intro)))))
def wM_keysAreGood_b101 : List Nat := []
theorem fM_keysAreGood_b101 {W : List Nat} {t0 : moS} {t : moS} {p1 : Int32} {a4 : Int32} {a5 : Int32} (hW : sbs wM_keysAreGood_b101 W) (h : mfr W t0 t) : aw (M_keysAreGood_b101 t p1 a4 a5) (fun z => (mfr W t0) z.2) := by
  unfold M_keysAreGood_b101
  refine aw_lp (I := (fun z => (fun z => (mfr W t0) z.2) z.2)) ?_ ?_
  · exact h
  · intro y hy
    exact (fM_keysAreGood_s101 (hW.of (by decide)) hy)
def wM_keysAreGood_s398 : List Nat := [101, 102, 103, 104, 163]
theorem fM_keysAreGood_s398 {W : List Nat} {t0 : moS} {t : moS} {p1 : Int32} {p2 : Int64} {a6 : Int32} {a7 : Int32} {a9 : Int32} (hW : sbs wM_keysAreGood_s398 W) (h : mfr W t0 t) : aw (M_keysAreGood_s398 t p1 p2 a6 a7 a9) (Sum.elim (fun z => (mfr W t0) z.2) (fun z => (mfr W t0) z.2)) := by
  unfold M_keysAreGood_s398
  exact (aw_if (aw_bind aw_t (fun _ h => (aw_bind aw_t (fun _ h => (aw_if (aw_some (by first | assumption | trivial | exact True.intro)) (aw_xo (aw_some (by first | assumption | trivial | exact True.intro)))))))) (aw_xo (aw_let (mfr.tr (by assumption) (mfr.ss (hW.m (by decide)))) (fun _ h => (aw_bind aw_t (fun _ h => (aw_bn2 (fM_isNotOlder (hW.of (by decide)) (by assumption)) (fun _ _ h => (aw_okZ (aw_some (by first | assumption | trivial | exact True.intro)))))))))))
def wM_keysAreGood_b398 : List Nat := [101, 102, 103, 104, 163]
theorem fM_keysAreGood_b398 {W : List Nat} {t0 : moS} {t : moS} {p1 : Int32} {p2 : Int64} {a6 : Int32} {a7 : Int32} {a9 : Int32} (hW : sbs wM_keysAreGood_b398 W) (h : mfr W t0 t) : aw (M_keysAreGood_b398 t p1 p2 a6 a7 a9) (fun z => (mfr W t0) z.2) := by
  unfold M_keysAreGood_b398
  refine aw_lp (I := (fun z => (mfr W t0) z.2)) ?_ ?_
  · exact h
  · intro y hy
    exact (fM_keysAreGood_s398 (hW.of (by decide)) hy)
def wM_keysAreGood_b381 : List Nat := [101, 102, 103, 104, 157, 158, 159, 160, 163]
theorem fM_keysAreGood_b381 {W : List Nat} {t0 : moS} {t : moS} {p1 : Int32} {p2 : Int64} {a5 : Int32} {a6 : Int32} {a7 : Int32} (hW : sbs wM_keysAreGood_b381 W) (h : mfr W t0 t) : aw (M_keysAreGood_b381 t p1 p2 a5 a6 a7) (fun z => (mfr W t0) z.2) := by
  unfold M_keysAreGood_b381
  exact (aw_bind (fM_sumOf (hW.of (by decide)) (by assumption)) (fun _ h => (fM_keysAreGood_b398 (hW.of (by decide)) (by assumption))))
def wM_keysAreGood_b273 : List Nat := [101, 102, 103, 104, 157, 158, 159, 160, 163]
theorem fM_keysAreGood_b273 {W : List Nat} {t0 : moS} {t : moS} {p1 : Int32} {p2 : Int64} {a5 : Int32} {a6 : Int32} {a7 : Int32} {u0 : Int32} (hW : sbs wM_keysAreGood_b273 W) (h : mfr W t0 t) : aw (M_keysAreGood_b273 t p1 p2 a5 a6 a7 u0) (fun z => (mfr W t0) z.2) := by
  unfold M_keysAreGood_b273
  exact (aw_bind aw_t (fun _ h => (aw_if (aw_some (by first | assumption | trivial | exact True.intro)) (aw_bind aw_t (fun _ h => (aw_if (aw_bind aw_t (fun _ h => (aw_if (aw_some (by first | assumption | trivial | exact True.intro)) (aw_if (aw_some (by first | assumption | trivial | exact True.intro)) (aw_if (aw_bind aw_t (fun _ h => (aw_if (aw_some (by first | assumption | trivial | exact True.intro)) (aw_bind aw_t (fun _ h => (aw_if (fM_keysAreGood_b381 (hW.of (by decide)) (by assumption)) (aw_bind aw_t (fun _ h => (aw_if (aw_some (by first | assumption | trivial | exact True.intro)) (fM_keysAreGood_b381 (hW.of (by decide)) (by assumption))))))))))) (aw_some (by first | assumption | trivial | exact True.intro))))))) (aw_some (by first | assumption | trivial | exact True.intro))))))))
def wM_keysAreGood_b254 : List Nat := [101, 102, 103, 104, 157, 158, 159, 160, 163]
theorem fM_keysAreGood_b254 {W : List Nat} {t0 : moS} {t : moS} {p1 : Int32} {p2 : Int64} {a5 : Int32} {a6 : Int32} {u0 : Int32} (hW : sbs wM_keysAreGood_b254 W) (h : mfr W t0 t) : aw (M_keysAreGood_b254 t p1 p2 a5 a6 u0) (fun z => (mfr W t0) z.2) := by
  unfold M_keysAreGood_b254
  exact (aw_bind aw_t (fun _ h => (aw_if (fM_keysAreGood_b273 (hW.of (by decide)) (by assumption)) (fM_keysAreGood_b273 (hW.of (by decide)) (by assumption)))))
def wM_keysAreGood : List Nat := [101, 102, 103, 104, 157, 158, 159, 160, 162, 163]
theorem fM_keysAreGood {W : List Nat} {t0 : moS} {t : moS} {p1 : Int32} {p2 : Int64} (hW : sbs wM_keysAreGood W) (h : mfr W t0 t) : aw (M_keysAreGood t p1 p2) (fun z => (mfr W t0) z.2) := by
  unfold M_keysAreGood
  exact (aw_let (mfr.tr (by assumption) (mfr.ss (hW.m (by decide)))) (fun _ h => (aw_let (mfr.tr (by assumption) (mfr.ss (hW.m (by decide)))) (fun _ h => (aw_bind aw_t (fun _ h => (aw_if (aw_bind aw_t (fun _ h => (aw_if (aw_bind aw_t (fun _ h => (aw_if (aw_some (by first | assumption | trivial | exact True.intro)) (fM_keysAreGood_b51 (hW.of (by decide)) (by assumption))))) (fM_keysAreGood_b51 (hW.of (by decide)) (by assumption))))) (aw_let (mfr.tr (by assumption) (mfr.ss (hW.m (by decide)))) (fun _ h => (aw_let (mfr.tr (by assumption) (mfr.ss (hW.m (by decide)))) (fun _ h => (aw_bind aw_t (fun _ h => (aw_if (aw_bind aw_t (fun _ h => (fM_keysAreGood_b101 (hW.of (by decide)) (by assumption)))) (aw_bind aw_t (fun _ h => (aw_bind aw_t (fun _ h => (aw_bind aw_t (fun _ h => (aw_if (aw_some (by first | assumption | trivial | exact True.intro)) (aw_bind aw_t (fun _ h => (aw_if (aw_some (by first | assumption | trivial | exact True.intro)) (aw_bind aw_t (fun _ h => (aw_bind aw_t (fun _ h => (aw_bind aw_t (fun _ h => (aw_if (fM_keysAreGood_b254 (hW.of (by decide)) (by assumption)) (fM_keysAreGood_b254 (hW.of (by decide)) (by assumption)))))))))))))))))))))))))))))))))
def wM_tally : List Nat := [45]
theorem fM_tally {W : List Nat} {t0 : moS} {t : moS} {p1 : Int32} {p2 : Int32} {p3 : Int32} (hW : sbs wM_tally W) (h : mfr W t0 t) : aw (M_tally t p1 p2 p3) (mfr W t0) := by
  unfold M_tally
  exact (aw_bind aw_t (fun _ h => (aw_bind (aw_wrI (hW.m (by decide)) (by assumption)) (fun _ h => (aw_some (by first | assumption | trivial | exact True.intro))))))
def wM_isEntry_b86 : List Nat := []
theorem fM_isEntry_b86 {W : List Nat} {t0 : moS} {t : moS} (hW : sbs wM_isEntry_b86 W) (h : mfr W t0 t) : aw (M_isEntry_b86 t) (fun z => (mfr W t0) z.2) := by
  unfold M_isEntry_b86
  exact (aw_some (by first | assumption | trivial | exact True.intro))
def wM_isEntry_b210 : List Nat := []
theorem fM_isEntry_b210 {W : List Nat} {t0 : moS} {t : moS} (hW : sbs wM_isEntry_b210 W) (h : mfr W t0 t) : aw (M_isEntry_b210 t) (fun z => (mfr W t0) z.2) := by
  unfold M_isEntry_b210
  exact (aw_some (by first | assumption | trivial | exact True.intro))
def wM_isEntry_s155 : List Nat := [15]
theorem fM_isEntry_s155 {W : List Nat} {t0 : moS} {t : moS} {a3 : Int64} {a5 : Int64} (hW : sbs wM_isEntry_s155 W) (h : mfr W t0 t) : aw (M_isEntry_s155 t a3 a5) (Sum.elim (fun z => (mfr W t0) z.2) (fun z => (mfr W t0) z.2)) := by
  unfold M_isEntry_s155
  exact (aw_if (aw_xo (aw_if (aw_if (fM_isEntry_b210 (hW.of (by decide)) (by assumption)) (aw_some (by first | assumption | trivial | exact True.intro))) (fM_isEntry_b210 (hW.of (by decide)) (by assumption)))) (aw_let (mfr.tr (by assumption) (mfr.ss (hW.m (by decide)))) (fun _ h => (aw_some (by first | assumption | trivial | exact True.intro)))))
def wM_isEntry_b155 : List Nat := [15]
theorem fM_isEntry_b155 {W : List Nat} {t0 : moS} {t : moS} {a3 : Int64} {a5 : Int64} (hW : sbs wM_isEntry_b155 W) (h : mfr W t0 t) : aw (M_isEntry_b155 t a3 a5) (fun z => (mfr W t0) z.2) := by
  unfold M_isEntry_b155
  refine aw_lp (I := (fun z => (mfr W t0) z.2)) ?_ ?_
  · exact h
  · intro y hy
    exact (fM_isEntry_s155 (hW.of (by decide)) hy)
def wM_isEntry : List Nat := [12, 13, 14, 15]
theorem fM_isEntry {W : List Nat} {t0 : moS} {t : moS} {p1 : Int32} {p2 : Int32} (hW : sbs wM_isEntry W) (h : mfr W t0 t) : aw (M_isEntry t p1 p2) (fun z => (mfr W t0) z.2) := by
  unfold M_isEntry
  exact (aw_let (mfr.tr (by assumption) (mfr.ss (hW.m (by decide)))) (fun _ h => (aw_let (mfr.tr (by assumption) (mfr.sz (hW.m (by decide)))) (fun _ h => (aw_if (aw_bind aw_t (fun _ h => (aw_let (mfr.tr (by assumption) (mfr.sz (hW.m (by decide)))) (fun _ h => (aw_bind aw_t (fun _ h => (aw_let (mfr.tr (by assumption) (mfr.sz (hW.m (by decide)))) (fun _ h => (aw_bind aw_t (fun _ h => (aw_let (mfr.tr (by assumption) (mfr.ss (hW.m (by decide)))) (fun _ h => (aw_if (fM_isEntry_b86 (hW.of (by decide)) (by assumption)) (aw_if (fM_isEntry_b86 (hW.of (by decide)) (by assumption)) (aw_some (by first | assumption | trivial | exact True.intro)))))))))))))))) (aw_bind aw_t (fun _ h => (aw_if (aw_bind aw_t (fun _ h => (aw_if (aw_bind aw_t (fun _ h => (aw_let (mfr.tr (by assumption) (mfr.sz (hW.m (by decide)))) (fun _ h => (aw_bind aw_t (fun _ h => (aw_let (mfr.tr (by assumption) (mfr.ss (hW.m (by decide)))) (fun _ h => (fM_isEntry_b155 (hW.of (by decide)) (by assumption)))))))))) (aw_some (by first | assumption | trivial | exact True.intro))))) (aw_some (by first | assumption | trivial | exact True.intro))))))))))
def wM_takeOver_b149 : List Nat := [44, 45, 119, 120, 121, 122]
theorem fM_takeOver_b149 {W : List Nat} {t0 : moS} {t : moS} {p1 : Int32} {p3 : Int32} {a10 : Int32} {u1 : Int32} {u2 : Int32} (hW : sbs wM_takeOver_b149 W) (h : mfr W t0 t) : aw (M_takeOver_b149 t p1 p3 a10 u1 u2) (mfr W t0) := by
  unfold M_takeOver_b149
  exact (aw_bind (aw_wrI (hW.m (by decide)) (by assumption)) (fun _ h => (aw_bind (aw_wrI (hW.m (by decide)) (by assumption)) (fun _ h => (aw_bind aw_t (fun _ h => (aw_bind (aw_wrI (hW.m (by decide)) (by assumption)) (fun _ h => (aw_if (aw_some (by first | assumption | trivial | exact True.intro)) (aw_bind (fM_markChanged (hW.of (by decide)) (by assumption)) (fun _ h => (aw_some (by first | assumption | trivial | exact True.intro)))))))))))))
def wM_takeOver_b54 : List Nat := [44, 45, 111, 112, 113, 114, 115, 116, 117, 118, 119, 120, 121, 122]
theorem fM_takeOver_b54 {W : List Nat} {t0 : moS} {t : moS} {p1 : Int32} {p2 : Int32} {p3 : Int32} {p4 : Int32} {p5 : Int32} {p6 : Int64} {p8 : Int64} {u0 : Int32} (hW : sbs wM_takeOver_b54 W) (h : mfr W t0 t) : aw (M_takeOver_b54 t p1 p2 p3 p4 p5 p6 p8 u0) (mfr W t0) := by
  unfold M_takeOver_b54
  exact (aw_bind (aw_wrI (hW.m (by decide)) (by assumption)) (fun _ h => (aw_bind (aw_wrI (hW.m (by decide)) (by assumption)) (fun _ h => (aw_bind (aw_wrJ (hW.m (by decide)) (by assumption)) (fun _ h => (aw_bind (aw_wrJ (hW.m (by decide)) (by assumption)) (fun _ h => (aw_bind (aw_wrI (hW.m (by decide)) (by assumption)) (fun _ h => (aw_bind (aw_wrI (hW.m (by decide)) (by assumption)) (fun _ h => (aw_bind (aw_wrJ (hW.m (by decide)) (by assumption)) (fun _ h => (aw_bind (aw_wrJ (hW.m (by decide)) (by assumption)) (fun _ h => (aw_if (aw_bind aw_t (fun _ h => (fM_takeOver_b149 (hW.of (by decide)) (by assumption)))) (fM_takeOver_b149 (hW.of (by decide)) (by assumption)))))))))))))))))))
def wM_takeOver_b49 : List Nat := [44, 45, 111, 112, 113, 114, 115, 116, 117, 118, 119, 120, 121, 122]
theorem fM_takeOver_b49 {W : List Nat} {t0 : moS} {t : moS} {p1 : Int32} {p2 : Int32} {p3 : Int32} {p4 : Int32} {p5 : Int32} {p6 : Int64} {p8 : Int64} (hW : sbs wM_takeOver_b49 W) (h : mfr W t0 t) : aw (M_takeOver_b49 t p1 p2 p3 p4 p5 p6 p8) (mfr W t0) := by
  unfold M_takeOver_b49
  exact (fM_takeOver_b54 (hW.of (by decide)) (by assumption))
def wM_takeOver : List Nat := [44, 45, 111, 112, 113, 114, 115, 116, 117, 118, 119, 120, 121, 122]
theorem fM_takeOver {W : List Nat} {t0 : moS} {t : moS} {p1 : Int32} {p2 : Int32} {p3 : Int32} {p4 : Int32} {p5 : Int32} {p6 : Int64} {p8 : Int64} (hW : sbs wM_takeOver W) (h : mfr W t0 t) : aw (M_takeOver t p1 p2 p3 p4 p5 p6 p8) (mfr W t0) := by
  unfold M_takeOver
  exact (aw_bind aw_t (fun _ h => (aw_if (aw_bind aw_t (fun _ h => (aw_if (aw_bind aw_t (fun _ h => (aw_if (aw_bind aw_t (fun _ h => (aw_if (fM_takeOver_b54 (hW.of (by decide)) (by assumption)) (fM_takeOver_b49 (hW.of (by decide)) (by assumption))))) (fM_takeOver_b49 (hW.of (by decide)) (by assumption))))) (fM_takeOver_b49 (hW.of (by decide)) (by assumption))))) (fM_takeOver_b49 (hW.of (by decide)) (by assumption)))))
def wM_learn_b79 : List Nat := []
theorem fM_learn_b79 {W : List Nat} {t0 : moS} {t : moS} {p1 : Int32} {p2 : Int32} {p3 : Int32} {p4 : Int32} {p5 : Int32} {p6 : Int64} {p8 : Int64} {a12 : Int32} {u0 : Int32} {u1 : Int32} (hW : sbs wM_learn_b79 W) (h : mfr W t0 t) : aw (M_learn_b79 t p1 p2 p3 p4 p5 p6 p8 a12 u0 u1) (Sum.elim (fun z => (fun z => (mfr W t0) z.2) z.2) (mfr W t0)) := by
  unfold M_learn_b79
  exact (aw_some (by first | assumption | trivial | exact True.intro))
def wM_learn_s44 : List Nat := [44, 45, 105, 106, 107, 108, 109, 110, 111, 112, 113, 114, 115, 116, 117, 118, 119, 120, 121, 122]
theorem fM_learn_s44 {W : List Nat} {t0 : moS} {t : moS} {p1 : Int32} {p2 : Int32} {p3 : Int32} {p4 : Int32} {p5 : Int32} {p6 : Int64} {p8 : Int64} {a11 : Int32} {a12 : Int32} (hW : sbs wM_learn_s44 W) (h : mfr W t0 t) : aw (M_learn_s44 t p1 p2 p3 p4 p5 p6 p8 a11 a12) (Sum.elim (fun z => (fun z => (mfr W t0) z.2) z.2) (mfr W t0)) := by
  unfold M_learn_s44
  exact (aw_bind aw_t (fun _ h => (aw_if (aw_bind aw_t (fun _ h => (aw_if (fM_learn_b79 (hW.of (by decide)) (by assumption)) (fM_learn_b79 (hW.of (by decide)) (by assumption))))) (aw_xo (aw_if (aw_bn2 (fM_insert (hW.of (by decide)) (by assumption)) (fun _ _ h => (aw_bind (aw_wrI (hW.m (by decide)) (by assumption)) (fun _ h => (aw_bind (aw_wrI (hW.m (by decide)) (by assumption)) (fun _ h => (aw_bind (aw_wrI (hW.m (by decide)) (by assumption)) (fun _ h => (aw_bind (fM_takeOver (hW.of (by decide)) (by assumption)) (fun _ h => (aw_some (by first | assumption | trivial | exact True.intro)))))))))))) (aw_bind (fM_tally (hW.of (by decide)) (by assumption)) (fun _ h => (aw_some (by first | assumption | trivial | exact True.intro)))))))))
def wM_learn_b44 : List Nat := [44, 45, 105, 106, 107, 108, 109, 110, 111, 112, 113, 114, 115, 116, 117, 118, 119, 120, 121, 122]
theorem fM_learn_b44 {W : List Nat} {t0 : moS} {t : moS} {p1 : Int32} {p2 : Int32} {p3 : Int32} {p4 : Int32} {p5 : Int32} {p6 : Int64} {p8 : Int64} {a11 : Int32} {a12 : Int32} (hW : sbs wM_learn_b44 W) (h : mfr W t0 t) : aw (M_learn_b44 t p1 p2 p3 p4 p5 p6 p8 a11 a12) (mfr W t0) := by
  unfold M_learn_b44
  refine aw_lp (I := (fun z => (fun z => (mfr W t0) z.2) z.2)) ?_ ?_
  · exact h
  · intro y hy
    exact (fM_learn_s44 (hW.of (by decide)) hy)
def wM_learn_b368 : List Nat := [44, 45, 111, 112, 113, 114, 115, 116, 117, 118, 119, 120, 121, 122]
theorem fM_learn_b368 {W : List Nat} {t0 : moS} {t : moS} {p1 : Int32} {p2 : Int32} {p4 : Int32} {p5 : Int32} {p6 : Int64} {p8 : Int64} {a10 : Int32} {u0 : Int32} (hW : sbs wM_learn_b368 W) (h : mfr W t0 t) : aw (M_learn_b368 t p1 p2 p4 p5 p6 p8 a10 u0) (mfr W t0) := by
  unfold M_learn_b368
  exact (aw_if (aw_some (by first | assumption | trivial | exact True.intro)) (aw_bind (fM_takeOver (hW.of (by decide)) (by assumption)) (fun _ h => (aw_some (by first | assumption | trivial | exact True.intro)))))
def wM_learn_b367 : List Nat := [44, 45, 111, 112, 113, 114, 115, 116, 117, 118, 119, 120, 121, 122]
theorem fM_learn_b367 {W : List Nat} {t0 : moS} {t : moS} {p1 : Int32} {p2 : Int32} {p4 : Int32} {p5 : Int32} {p6 : Int64} {p8 : Int64} {a10 : Int32} (hW : sbs wM_learn_b367 W) (h : mfr W t0 t) : aw (M_learn_b367 t p1 p2 p4 p5 p6 p8 a10) (mfr W t0) := by
  unfold M_learn_b367
  exact (fM_learn_b368 (hW.of (by decide)) (by assumption))
def wM_learn_b455 : List Nat := [44, 45, 111, 112, 113, 114, 115, 116, 117, 118, 119, 120, 121, 122]
theorem fM_learn_b455 {W : List Nat} {t0 : moS} {t : moS} {p1 : Int32} {p2 : Int32} {p4 : Int32} {p5 : Int32} {p6 : Int64} {p8 : Int64} {a10 : Int32} (hW : sbs wM_learn_b455 W) (h : mfr W t0 t) : aw (M_learn_b455 t p1 p2 p4 p5 p6 p8 a10) (mfr W t0) := by
  unfold M_learn_b455
  exact (aw_bind (fM_takeOver (hW.of (by decide)) (by assumption)) (fun _ h => (aw_some (by first | assumption | trivial | exact True.intro))))
def wM_learn_b433 : List Nat := [44, 45, 111, 112, 113, 114, 115, 116, 117, 118, 119, 120, 121, 122]
theorem fM_learn_b433 {W : List Nat} {t0 : moS} {t : moS} {p1 : Int32} {p2 : Int32} {p4 : Int32} {p5 : Int32} {p6 : Int64} {p8 : Int64} {a10 : Int32} {a12 : Int32} {a13 : Int32} {a14 : Int32} (hW : sbs wM_learn_b433 W) (h : mfr W t0 t) : aw (M_learn_b433 t p1 p2 p4 p5 p6 p8 a10 a12 a13 a14) (mfr W t0) := by
  unfold M_learn_b433
  exact (aw_if (aw_if (aw_some (by first | assumption | trivial | exact True.intro)) (aw_if (fM_learn_b455 (hW.of (by decide)) (by assumption)) (aw_if (aw_some (by first | assumption | trivial | exact True.intro)) (fM_learn_b455 (hW.of (by decide)) (by assumption))))) (fM_learn_b455 (hW.of (by decide)) (by assumption)))
def wM_learn_b392 : List Nat := [44, 45, 111, 112, 113, 114, 115, 116, 117, 118, 119, 120, 121, 122]
theorem fM_learn_b392 {W : List Nat} {t0 : moS} {t : moS} {p1 : Int32} {p2 : Int32} {p4 : Int32} {p5 : Int32} {p6 : Int64} {p8 : Int64} {a10 : Int32} {a11 : Int32} {a12 : Int32} {a13 : Int32} {a14 : Int32} (hW : sbs wM_learn_b392 W) (h : mfr W t0 t) : aw (M_learn_b392 t p1 p2 p4 p5 p6 p8 a10 a11 a12 a13 a14) (mfr W t0) := by
  unfold M_learn_b392
  exact (aw_if (fM_learn_b433 (hW.of (by decide)) (by assumption)) (aw_if (aw_if (aw_bind (aw_wrI (hW.m (by decide)) (by assumption)) (fun _ h => (aw_bind aw_t (fun _ h => (aw_bind (aw_wrI (hW.m (by decide)) (by assumption)) (fun _ h => (fM_learn_b433 (hW.of (by decide)) (by assumption)))))))) (fM_learn_b433 (hW.of (by decide)) (by assumption))) (fM_learn_b433 (hW.of (by decide)) (by assumption))))
def wM_learn_b306 : List Nat := [44, 45, 111, 112, 113, 114, 115, 116, 117, 118, 119, 120, 121, 122]
theorem fM_learn_b306 {W : List Nat} {t0 : moS} {t : moS} {p1 : Int32} {p2 : Int32} {p4 : Int32} {p5 : Int32} {p6 : Int64} {p8 : Int64} {a10 : Int32} {a11 : Int32} {a12 : Int32} {a13 : Int32} {u0 : Int32} (hW : sbs wM_learn_b306 W) (h : mfr W t0 t) : aw (M_learn_b306 t p1 p2 p4 p5 p6 p8 a10 a11 a12 a13 u0) (mfr W t0) := by
  unfold M_learn_b306
  exact (aw_if (aw_if (aw_bind aw_t (fun _ h => (aw_if (aw_if (aw_bind aw_t (fun _ h => (aw_bind aw_t (fun _ h => (aw_if (fM_learn_b367 (hW.of (by decide)) (by assumption)) (fM_learn_b368 (hW.of (by decide)) (by assumption))))))) (fM_learn_b367 (hW.of (by decide)) (by assumption))) (fM_learn_b367 (hW.of (by decide)) (by assumption))))) (fM_learn_b392 (hW.of (by decide)) (by assumption))) (fM_learn_b392 (hW.of (by decide)) (by assumption)))
def wM_learn_b301 : List Nat := [44, 45, 111, 112, 113, 114, 115, 116, 117, 118, 119, 120, 121, 122]
theorem fM_learn_b301 {W : List Nat} {t0 : moS} {t : moS} {p1 : Int32} {p2 : Int32} {p4 : Int32} {p5 : Int32} {p6 : Int64} {p8 : Int64} {a10 : Int32} {a11 : Int32} {a12 : Int32} {a13 : Int32} (hW : sbs wM_learn_b301 W) (h : mfr W t0 t) : aw (M_learn_b301 t p1 p2 p4 p5 p6 p8 a10 a11 a12 a13) (mfr W t0) := by
  unfold M_learn_b301
  exact (fM_learn_b306 (hW.of (by decide)) (by assumption))
def wM_learn_b257 : List Nat := [44, 45, 111, 112, 113, 114, 115, 116, 117, 118, 119, 120, 121, 122]
theorem fM_learn_b257 {W : List Nat} {t0 : moS} {t : moS} {p1 : Int32} {p2 : Int32} {p4 : Int32} {p5 : Int32} {p6 : Int64} {p8 : Int64} {a10 : Int32} {a11 : Int32} {a12 : Int32} {u0 : Int32} (hW : sbs wM_learn_b257 W) (h : mfr W t0 t) : aw (M_learn_b257 t p1 p2 p4 p5 p6 p8 a10 a11 a12 u0) (mfr W t0) := by
  unfold M_learn_b257
  exact (aw_bind aw_t (fun _ h => (aw_if (aw_bind aw_t (fun _ h => (aw_if (aw_bind aw_t (fun _ h => (aw_if (fM_learn_b306 (hW.of (by decide)) (by assumption)) (fM_learn_b301 (hW.of (by decide)) (by assumption))))) (fM_learn_b301 (hW.of (by decide)) (by assumption))))) (fM_learn_b301 (hW.of (by decide)) (by assumption)))))
def wM_learn_b238 : List Nat := [44, 45, 111, 112, 113, 114, 115, 116, 117, 118, 119, 120, 121, 122]
theorem fM_learn_b238 {W : List Nat} {t0 : moS} {t : moS} {p1 : Int32} {p2 : Int32} {p4 : Int32} {p5 : Int32} {p6 : Int64} {p8 : Int64} {a10 : Int32} {a11 : Int32} {u0 : Int32} (hW : sbs wM_learn_b238 W) (h : mfr W t0 t) : aw (M_learn_b238 t p1 p2 p4 p5 p6 p8 a10 a11 u0) (mfr W t0) := by
  unfold M_learn_b238
  exact (aw_bind aw_t (fun _ h => (aw_if (fM_learn_b257 (hW.of (by decide)) (by assumption)) (fM_learn_b257 (hW.of (by decide)) (by assumption)))))
def wM_learn_b219 : List Nat := [44, 45, 111, 112, 113, 114, 115, 116, 117, 118, 119, 120, 121, 122]
theorem fM_learn_b219 {W : List Nat} {t0 : moS} {t : moS} {p1 : Int32} {p2 : Int32} {p4 : Int32} {p5 : Int32} {p6 : Int64} {p8 : Int64} {a10 : Int32} {u0 : Int32} (hW : sbs wM_learn_b219 W) (h : mfr W t0 t) : aw (M_learn_b219 t p1 p2 p4 p5 p6 p8 a10 u0) (mfr W t0) := by
  unfold M_learn_b219
  exact (aw_bind aw_t (fun _ h => (aw_if (fM_learn_b238 (hW.of (by decide)) (by assumption)) (fM_learn_b238 (hW.of (by decide)) (by assumption)))))
def wM_learn_b218 : List Nat := [44, 45, 111, 112, 113, 114, 115, 116, 117, 118, 119, 120, 121, 122]
theorem fM_learn_b218 {W : List Nat} {t0 : moS} {t : moS} {p1 : Int32} {p2 : Int32} {p4 : Int32} {p5 : Int32} {p6 : Int64} {p8 : Int64} {a10 : Int32} (hW : sbs wM_learn_b218 W) (h : mfr W t0 t) : aw (M_learn_b218 t p1 p2 p4 p5 p6 p8 a10) (mfr W t0) := by
  unfold M_learn_b218
  exact (fM_learn_b219 (hW.of (by decide)) (by assumption))
def wM_learn : List Nat := [44, 45, 105, 106, 107, 108, 109, 110, 111, 112, 113, 114, 115, 116, 117, 118, 119, 120, 121, 122]
theorem fM_learn {W : List Nat} {t0 : moS} {t : moS} {p1 : Int32} {p2 : Int32} {p3 : Int32} {p4 : Int32} {p5 : Int32} {p6 : Int64} {p8 : Int64} (hW : sbs wM_learn W) (h : mfr W t0 t) : aw (M_learn t p1 p2 p3 p4 p5 p6 p8) (mfr W t0) := by
  unfold M_learn
  exact (aw_bind aw_t (fun _ h => (aw_if (aw_if (aw_some (by first | assumption | trivial | exact True.intro)) (fM_learn_b44 (hW.of (by decide)) (by assumption))) (aw_bind aw_t (fun _ h => (aw_if (aw_bind aw_t (fun _ h => (aw_if (aw_bind aw_t (fun _ h => (aw_if (aw_bind aw_t (fun _ h => (aw_if (fM_learn_b219 (hW.of (by decide)) (by assumption)) (fM_learn_b218 (hW.of (by decide)) (by assumption))))) (fM_learn_b218 (hW.of (by decide)) (by assumption))))) (fM_learn_b218 (hW.of (by decide)) (by assumption))))) (aw_some (by first | assumption | trivial | exact True.intro))))))))
def wM_takeAll_b499 : List Nat := []
theorem fM_takeAll_b499 {W : List Nat} {t0 : moS} {t : moS} {p1 : Int32} {p2 : Int32} {p3 : Int64} {p5 : Int64} {a7 : Int32} {a8 : Int32} {a9 : Int32} {a10 : Int64} {a12 : Int64} {a14 : Int32} (hW : sbs wM_takeAll_b499 W) (h : mfr W t0 t) : aw (M_takeAll_b499 t p1 p2 p3 p5 a7 a8 a9 a10 a12 a14) (Sum.elim (fun z => (fun z => (fun z => (mfr W t0) z.2) z.2) z.2) (mfr W t0)) := by
  unfold M_takeAll_b499
  exact (aw_some (by first | assumption | trivial | exact True.intro))
def wM_takeAll_b491 : List Nat := [44, 45, 105, 106, 107, 108, 109, 110, 111, 112, 113, 114, 115, 116, 117, 118, 119, 120, 121, 122]
theorem fM_takeAll_b491 {W : List Nat} {t0 : moS} {t : moS} {p1 : Int32} {p2 : Int32} {p3 : Int64} {p5 : Int64} {a7 : Int32} {a8 : Int32} {a9 : Int32} {a10 : Int64} {a12 : Int64} {a14 : Int32} {a21 : Int32} {u1 : Int32} {u2 : Int32} {u3 : Int32} {u4 : Int32} (hW : sbs wM_takeAll_b491 W) (h : mfr W t0 t) : aw (M_takeAll_b491 t p1 p2 p3 p5 a7 a8 a9 a10 a12 a14 a21 u1 u2 u3 u4) (Sum.elim (fun z => (fun z => (fun z => (mfr W t0) z.2) z.2) z.2) (mfr W t0)) := by
  unfold M_takeAll_b491
  exact (aw_bind (fM_learn (hW.of (by decide)) (by assumption)) (fun _ h => (fM_takeAll_b499 (hW.of (by decide)) (by assumption))))
def wM_takeAll_b469 : List Nat := [44, 45, 105, 106, 107, 108, 109, 110, 111, 112, 113, 114, 115, 116, 117, 118, 119, 120, 121, 122, 165]
theorem fM_takeAll_b469 {W : List Nat} {t0 : moS} {t : moS} {p1 : Int32} {p2 : Int32} {p3 : Int64} {p5 : Int64} {a7 : Int32} {a8 : Int32} {a9 : Int32} {a10 : Int64} {a12 : Int64} {a14 : Int32} {a19 : Int32} {a21 : Int32} {u1 : Int64} (hW : sbs wM_takeAll_b469 W) (h : mfr W t0 t) : aw (M_takeAll_b469 t p1 p2 p3 p5 a7 a8 a9 a10 a12 a14 a19 a21 u1) (Sum.elim (fun z => (fun z => (fun z => (mfr W t0) z.2) z.2) z.2) (mfr W t0)) := by
  unfold M_takeAll_b469
  exact (aw_let (mfr.tr (by assumption) (mfr.sz (hW.m (by decide)))) (fun _ h => (aw_if (fM_takeAll_b491 (hW.of (by decide)) (by assumption)) (fM_takeAll_b491 (hW.of (by decide)) (by assumption)))))
def wM_takeAll_b453 : List Nat := [44, 45, 105, 106, 107, 108, 109, 110, 111, 112, 113, 114, 115, 116, 117, 118, 119, 120, 121, 122, 164, 165]
theorem fM_takeAll_b453 {W : List Nat} {t0 : moS} {t : moS} {p1 : Int32} {p2 : Int32} {p3 : Int64} {p5 : Int64} {a7 : Int32} {a8 : Int32} {a9 : Int32} {a10 : Int64} {a12 : Int64} {a14 : Int32} {a19 : Int32} {a20 : Int32} {a21 : Int32} {u1 : Int64} (hW : sbs wM_takeAll_b453 W) (h : mfr W t0 t) : aw (M_takeAll_b453 t p1 p2 p3 p5 a7 a8 a9 a10 a12 a14 a19 a20 a21 u1) (Sum.elim (fun z => (fun z => (fun z => (mfr W t0) z.2) z.2) z.2) (mfr W t0)) := by
  unfold M_takeAll_b453
  exact (aw_let (mfr.tr (by assumption) (mfr.sz (hW.m (by decide)))) (fun _ h => (aw_if (fM_takeAll_b469 (hW.of (by decide)) (by assumption)) (fM_takeAll_b469 (hW.of (by decide)) (by assumption)))))
def wM_takeAll_b439 : List Nat := [44, 45, 105, 106, 107, 108, 109, 110, 111, 112, 113, 114, 115, 116, 117, 118, 119, 120, 121, 122, 164, 165]
theorem fM_takeAll_b439 {W : List Nat} {t0 : moS} {t : moS} {p1 : Int32} {p2 : Int32} {p3 : Int64} {p5 : Int64} {a7 : Int32} {a8 : Int32} {a9 : Int32} {a10 : Int64} {a12 : Int64} {a14 : Int32} {a19 : Int32} {a20 : Int32} {u0 : Int32} (hW : sbs wM_takeAll_b439 W) (h : mfr W t0 t) : aw (M_takeAll_b439 t p1 p2 p3 p5 a7 a8 a9 a10 a12 a14 a19 a20 u0) (Sum.elim (fun z => (fun z => (fun z => (mfr W t0) z.2) z.2) z.2) (mfr W t0)) := by
  unfold M_takeAll_b439
  exact (aw_if (fM_takeAll_b453 (hW.of (by decide)) (by assumption)) (fM_takeAll_b453 (hW.of (by decide)) (by assumption)))
def wM_takeAll_b384 : List Nat := [44, 45, 105, 106, 107, 108, 109, 110, 111, 112, 113, 114, 115, 116, 117, 118, 119, 120, 121, 122, 164, 165]
theorem fM_takeAll_b384 {W : List Nat} {t0 : moS} {t : moS} {p1 : Int32} {p2 : Int32} {p3 : Int64} {p5 : Int64} {a7 : Int32} {a8 : Int32} {a9 : Int32} {a10 : Int64} {a12 : Int64} {a14 : Int32} {a15 : Int32} {a19 : Int32} {u0 : Int32} (hW : sbs wM_takeAll_b384 W) (h : mfr W t0 t) : aw (M_takeAll_b384 t p1 p2 p3 p5 a7 a8 a9 a10 a12 a14 a15 a19 u0) (Sum.elim (fun z => (fun z => (fun z => (mfr W t0) z.2) z.2) z.2) (mfr W t0)) := by
  unfold M_takeAll_b384
  exact (aw_if (aw_bind aw_t (fun _ h => (aw_bind aw_t (fun _ h => (fM_takeAll_b439 (hW.of (by decide)) (by assumption)))))) (aw_bind aw_t (fun _ h => (aw_bind aw_t (fun _ h => (fM_takeAll_b439 (hW.of (by decide)) (by assumption)))))))
def wM_takeAll_b379 : List Nat := [44, 45, 105, 106, 107, 108, 109, 110, 111, 112, 113, 114, 115, 116, 117, 118, 119, 120, 121, 122, 164, 165]
theorem fM_takeAll_b379 {W : List Nat} {t0 : moS} {t : moS} {p1 : Int32} {p2 : Int32} {p3 : Int64} {p5 : Int64} {a7 : Int32} {a8 : Int32} {a9 : Int32} {a10 : Int64} {a12 : Int64} {a14 : Int32} {a15 : Int32} {a19 : Int32} (hW : sbs wM_takeAll_b379 W) (h : mfr W t0 t) : aw (M_takeAll_b379 t p1 p2 p3 p5 a7 a8 a9 a10 a12 a14 a15 a19) (Sum.elim (fun z => (fun z => (fun z => (mfr W t0) z.2) z.2) z.2) (mfr W t0)) := by
  unfold M_takeAll_b379
  exact (fM_takeAll_b384 (hW.of (by decide)) (by assumption))
def wM_takeAll_b348 : List Nat := [44, 45, 105, 106, 107, 108, 109, 110, 111, 112, 113, 114, 115, 116, 117, 118, 119, 120, 121, 122, 164, 165]
theorem fM_takeAll_b348 {W : List Nat} {t0 : moS} {t : moS} {p1 : Int32} {p2 : Int32} {p3 : Int64} {p5 : Int64} {a7 : Int32} {a8 : Int32} {a9 : Int32} {a10 : Int64} {a12 : Int64} {a14 : Int32} {a15 : Int32} {a19 : Int32} (hW : sbs wM_takeAll_b348 W) (h : mfr W t0 t) : aw (M_takeAll_b348 t p1 p2 p3 p5 a7 a8 a9 a10 a12 a14 a15 a19) (Sum.elim (fun z => (fun z => (fun z => (mfr W t0) z.2) z.2) z.2) (mfr W t0)) := by
  unfold M_takeAll_b348
  exact (aw_bind aw_t (fun _ h => (aw_bind aw_t (fun _ h => (aw_bind aw_t (fun _ h => (aw_if (fM_takeAll_b379 (hW.of (by decide)) (by assumption)) (fM_takeAll_b384 (hW.of (by decide)) (by assumption)))))))))
def wM_takeAll_b322 : List Nat := [44, 45, 105, 106, 107, 108, 109, 110, 111, 112, 113, 114, 115, 116, 117, 118, 119, 120, 121, 122, 164, 165]
theorem fM_takeAll_b322 {W : List Nat} {t0 : moS} {t : moS} {p1 : Int32} {p2 : Int32} {p3 : Int64} {p5 : Int64} {a7 : Int32} {a8 : Int32} {a9 : Int32} {a10 : Int64} {a12 : Int64} {a14 : Int32} {a15 : Int32} {a19 : Int32} (hW : sbs wM_takeAll_b322 W) (h : mfr W t0 t) : aw (M_takeAll_b322 t p1 p2 p3 p5 a7 a8 a9 a10 a12 a14 a15 a19) (Sum.elim (fun z => (fun z => (fun z => (mfr W t0) z.2) z.2) z.2) (mfr W t0)) := by
  unfold M_takeAll_b322
  exact (aw_bind aw_t (fun _ h => (aw_if (aw_bind aw_t (fun _ h => (aw_if (fM_takeAll_b379 (hW.of (by decide)) (by assumption)) (fM_takeAll_b348 (hW.of (by decide)) (by assumption))))) (fM_takeAll_b348 (hW.of (by decide)) (by assumption)))))
def wM_takeAll_b308 : List Nat := [44, 45, 105, 106, 107, 108, 109, 110, 111, 112, 113, 114, 115, 116, 117, 118, 119, 120, 121, 122, 164, 165]
theorem fM_takeAll_b308 {W : List Nat} {t0 : moS} {t : moS} {p1 : Int32} {p2 : Int32} {p3 : Int64} {p5 : Int64} {a7 : Int32} {a8 : Int32} {a9 : Int32} {a10 : Int64} {a12 : Int64} {a14 : Int32} {a15 : Int32} {a19 : Int32} (hW : sbs wM_takeAll_b308 W) (h : mfr W t0 t) : aw (M_takeAll_b308 t p1 p2 p3 p5 a7 a8 a9 a10 a12 a14 a15 a19) (Sum.elim (fun z => (fun z => (fun z => (mfr W t0) z.2) z.2) z.2) (mfr W t0)) := by
  unfold M_takeAll_b308
  exact (aw_if (aw_if (fM_takeAll_b379 (hW.of (by decide)) (by assumption)) (fM_takeAll_b322 (hW.of (by decide)) (by assumption))) (fM_takeAll_b322 (hW.of (by decide)) (by assumption)))
def wM_takeAll_b236 : List Nat := [44, 45, 105, 106, 107, 108, 109, 110, 111, 112, 113, 114, 115, 116, 117, 118, 119, 120, 121, 122, 164, 165]
theorem fM_takeAll_b236 {W : List Nat} {t0 : moS} {t : moS} {p1 : Int32} {p2 : Int32} {p3 : Int64} {p5 : Int64} {a7 : Int32} {a8 : Int32} {a9 : Int32} {a10 : Int64} {a12 : Int64} {a14 : Int32} {a15 : Int32} {a16 : Int64} {u0 : Int32} (hW : sbs wM_takeAll_b236 W) (h : mfr W t0 t) : aw (M_takeAll_b236 t p1 p2 p3 p5 a7 a8 a9 a10 a12 a14 a15 a16 u0) (Sum.elim (fun z => (fun z => (fun z => (mfr W t0) z.2) z.2) z.2) (mfr W t0)) := by
  unfold M_takeAll_b236
  exact (aw_if (aw_bind (fM_tally (hW.of (by decide)) (by assumption)) (fun _ h => (fM_takeAll_b499 (hW.of (by decide)) (by assumption)))) (aw_bind aw_t (fun _ h => (aw_bind aw_t (fun _ h => (aw_if (aw_bind aw_t (fun _ h => (fM_takeAll_b308 (hW.of (by decide)) (by assumption)))) (fM_takeAll_b308 (hW.of (by decide)) (by assumption))))))))
def wM_takeAll_b235 : List Nat := [44, 45, 105, 106, 107, 108, 109, 110, 111, 112, 113, 114, 115, 116, 117, 118, 119, 120, 121, 122, 164, 165]
theorem fM_takeAll_b235 {W : List Nat} {t0 : moS} {t : moS} {p1 : Int32} {p2 : Int32} {p3 : Int64} {p5 : Int64} {a7 : Int32} {a8 : Int32} {a9 : Int32} {a10 : Int64} {a12 : Int64} {a14 : Int32} {a15 : Int32} {a16 : Int64} (hW : sbs wM_takeAll_b235 W) (h : mfr W t0 t) : aw (M_takeAll_b235 t p1 p2 p3 p5 a7 a8 a9 a10 a12 a14 a15 a16) (Sum.elim (fun z => (fun z => (fun z => (mfr W t0) z.2) z.2) z.2) (mfr W t0)) := by
  unfold M_takeAll_b235
  exact (fM_takeAll_b236 (hW.of (by decide)) (by assumption))
def wM_takeAll_b176 : List Nat := [44, 45, 105, 106, 107, 108, 109, 110, 111, 112, 113, 114, 115, 116, 117, 118, 119, 120, 121, 122, 164, 165]
theorem fM_takeAll_b176 {W : List Nat} {t0 : moS} {t : moS} {p1 : Int32} {p2 : Int32} {p3 : Int64} {p5 : Int64} {a7 : Int32} {a8 : Int32} {a9 : Int32} {a10 : Int64} {a12 : Int64} {a14 : Int32} {a15 : Int32} {a16 : Int64} {u0 : Int32} (hW : sbs wM_takeAll_b176 W) (h : mfr W t0 t) : aw (M_takeAll_b176 t p1 p2 p3 p5 a7 a8 a9 a10 a12 a14 a15 a16 u0) (Sum.elim (fun z => (fun z => (fun z => (mfr W t0) z.2) z.2) z.2) (mfr W t0)) := by
  unfold M_takeAll_b176
  exact (aw_if (fM_takeAll_b235 (hW.of (by decide)) (by assumption)) (aw_bind aw_t (fun _ h => (aw_if (fM_takeAll_b235 (hW.of (by decide)) (by assumption)) (aw_bind aw_t (fun _ h => (aw_if (fM_takeAll_b235 (hW.of (by decide)) (by assumption)) (fM_takeAll_b236 (hW.of (by decide)) (by assumption)))))))))
def wM_takeAll_b175 : List Nat := [44, 45, 105, 106, 107, 108, 109, 110, 111, 112, 113, 114, 115, 116, 117, 118, 119, 120, 121, 122, 164, 165]
theorem fM_takeAll_b175 {W : List Nat} {t0 : moS} {t : moS} {p1 : Int32} {p2 : Int32} {p3 : Int64} {p5 : Int64} {a7 : Int32} {a8 : Int32} {a9 : Int32} {a10 : Int64} {a12 : Int64} {a14 : Int32} {a15 : Int32} {a16 : Int64} (hW : sbs wM_takeAll_b175 W) (h : mfr W t0 t) : aw (M_takeAll_b175 t p1 p2 p3 p5 a7 a8 a9 a10 a12 a14 a15 a16) (Sum.elim (fun z => (fun z => (fun z => (mfr W t0) z.2) z.2) z.2) (mfr W t0)) := by
  unfold M_takeAll_b175
  exact (fM_takeAll_b176 (hW.of (by decide)) (by assumption))
def wM_takeAll_b128 : List Nat := [12, 13, 14, 15, 44, 45, 105, 106, 107, 108, 109, 110, 111, 112, 113, 114, 115, 116, 117, 118, 119, 120, 121, 122, 164, 165]
theorem fM_takeAll_b128 {W : List Nat} {t0 : moS} {t : moS} {p1 : Int32} {p2 : Int32} {p3 : Int64} {p5 : Int64} {a7 : Int32} {a8 : Int32} {a9 : Int32} {a10 : Int64} {a12 : Int64} {a14 : Int32} {a15 : Int32} {u0 : Int64} (hW : sbs wM_takeAll_b128 W) (h : mfr W t0 t) : aw (M_takeAll_b128 t p1 p2 p3 p5 a7 a8 a9 a10 a12 a14 a15 u0) (Sum.elim (fun z => (fun z => (fun z => (mfr W t0) z.2) z.2) z.2) (mfr W t0)) := by
  unfold M_takeAll_b128
  exact (aw_bn2 (fM_isEntry (hW.of (by decide)) (by assumption)) (fun _ _ h => (aw_if (fM_takeAll_b175 (hW.of (by decide)) (by assumption)) (aw_if (fM_takeAll_b175 (hW.of (by decide)) (by assumption)) (aw_if (fM_takeAll_b175 (hW.of (by decide)) (by assumption)) (aw_if (fM_takeAll_b176 (hW.of (by decide)) (by assumption)) (fM_takeAll_b175 (hW.of (by decide)) (by assumption))))))))
def wM_takeAll_b98 : List Nat := [12, 13, 14, 15, 44, 45, 105, 106, 107, 108, 109, 110, 111, 112, 113, 114, 115, 116, 117, 118, 119, 120, 121, 122, 164, 165]
theorem fM_takeAll_b98 {W : List Nat} {t0 : moS} {t : moS} {p1 : Int32} {p2 : Int32} {p3 : Int64} {p5 : Int64} {a7 : Int32} {a8 : Int32} {a9 : Int32} {a10 : Int64} {a12 : Int64} {a14 : Int32} {a15 : Int32} (hW : sbs wM_takeAll_b98 W) (h : mfr W t0 t) : aw (M_takeAll_b98 t p1 p2 p3 p5 a7 a8 a9 a10 a12 a14 a15) (Sum.elim (fun z => (fun z => (fun z => (mfr W t0) z.2) z.2) z.2) (mfr W t0)) := by
  unfold M_takeAll_b98
  exact (aw_if (aw_bind aw_t (fun _ h => (fM_takeAll_b128 (hW.of (by decide)) (by assumption)))) (aw_bind aw_t (fun _ h => (fM_takeAll_b128 (hW.of (by decide)) (by assumption)))))
def wM_takeAll_s29 : List Nat := [12, 13, 14, 15, 44, 45, 105, 106, 107, 108, 109, 110, 111, 112, 113, 114, 115, 116, 117, 118, 119, 120, 121, 122, 164, 165]
theorem fM_takeAll_s29 {W : List Nat} {t0 : moS} {t : moS} {p1 : Int32} {p2 : Int32} {p3 : Int64} {p5 : Int64} {a7 : Int32} {a8 : Int32} {a9 : Int32} {a10 : Int64} {a12 : Int64} {a14 : Int32} (hW : sbs wM_takeAll_s29 W) (h : mfr W t0 t) : aw (M_takeAll_s29 t p1 p2 p3 p5 a7 a8 a9 a10 a12 a14) (Sum.elim (fun z => (fun z => (fun z => (mfr W t0) z.2) z.2) z.2) (mfr W t0)) := by
  unfold M_takeAll_s29
  exact (aw_if (aw_if (aw_bind aw_t (fun _ h => (aw_if (aw_bind aw_t (fun _ h => (aw_bind aw_t (fun _ h => (fM_takeAll_b499 (hW.of (by decide)) (by assumption)))))) (fM_takeAll_b98 (hW.of (by decide)) (by assumption))))) (fM_takeAll_b98 (hW.of (by decide)) (by assumption))) (aw_xo (aw_some (by first | assumption | trivial | exact True.intro))))
def wM_takeAll_b29 : List Nat := [12, 13, 14, 15, 44, 45, 105, 106, 107, 108, 109, 110, 111, 112, 113, 114, 115, 116, 117, 118, 119, 120, 121, 122, 164, 165]
theorem fM_takeAll_b29 {W : List Nat} {t0 : moS} {t : moS} {p1 : Int32} {p2 : Int32} {p3 : Int64} {p5 : Int64} {a7 : Int32} {a8 : Int32} {a9 : Int32} {a10 : Int64} {a12 : Int64} {a14 : Int32} (hW : sbs wM_takeAll_b29 W) (h : mfr W t0 t) : aw (M_takeAll_b29 t p1 p2 p3 p5 a7 a8 a9 a10 a12 a14) (mfr W t0) := by
  unfold M_takeAll_b29
  refine aw_lp (I := (fun z => (fun z => (fun z => (mfr W t0) z.2) z.2) z.2)) ?_ ?_
  · exact h
  · intro y hy
    exact (fM_takeAll_s29 (hW.of (by decide)) hy)
def wM_takeAll : List Nat := [12, 13, 14, 15, 44, 45, 105, 106, 107, 108, 109, 110, 111, 112, 113, 114, 115, 116, 117, 118, 119, 120, 121, 122, 164, 165]
theorem fM_takeAll {W : List Nat} {t0 : moS} {t : moS} {p1 : Int32} {p2 : Int32} {p3 : Int64} {p5 : Int64} (hW : sbs wM_takeAll W) (h : mfr W t0 t) : aw (M_takeAll t p1 p2 p3 p5) (mfr W t0) := by
  unfold M_takeAll
  exact (aw_bind aw_t (fun _ h => (fM_takeAll_b29 (hW.of (by decide)) (by assumption))))
def wM_answer_b193 : List Nat := []
theorem fM_answer_b193 {W : List Nat} {t0 : moS} {t : moS} {p1 : Int32} {p2 : Int32} {p3 : Int64} {p5 : Int64} {a7 : Int32} {a8 : Int32} (hW : sbs wM_answer_b193 W) (h : mfr W t0 t) : aw (M_answer_b193 t p1 p2 p3 p5 a7 a8) (Sum.elim (fun z => (mfr W t0) z.2) (mfr W t0)) := by
  unfold M_answer_b193
  exact (aw_some (by first | assumption | trivial | exact True.intro))
def wM_answer_b151 : List Nat := [146]
theorem fM_answer_b151 {W : List Nat} {t0 : moS} {t : moS} {p1 : Int32} {p2 : Int32} {p3 : Int64} {p5 : Int64} {a7 : Int32} {a8 : Int32} {u0 : Int32} (hW : sbs wM_answer_b151 W) (h : mfr W t0 t) : aw (M_answer_b151 t p1 p2 p3 p5 a7 a8 u0) (Sum.elim (fun z => (mfr W t0) z.2) (mfr W t0)) := by
  unfold M_answer_b151
  exact (aw_if (aw_bind (fM_put4 (hW.of (by decide)) (hW.m (by decide)) (by assumption)) (fun _ h => (fM_answer_b193 (hW.of (by decide)) (by assumption)))) (aw_bind (aw_wrI (hW.m (by decide)) (by assumption)) (fun _ h => (fM_answer_b193 (hW.of (by decide)) (by assumption)))))
def wM_answer_b133 : List Nat := [146]
theorem fM_answer_b133 {W : List Nat} {t0 : moS} {t : moS} {p1 : Int32} {p2 : Int32} {p3 : Int64} {p5 : Int64} {a7 : Int32} {a8 : Int32} {a9 : Int32} (hW : sbs wM_answer_b133 W) (h : mfr W t0 t) : aw (M_answer_b133 t p1 p2 p3 p5 a7 a8 a9) (Sum.elim (fun z => (mfr W t0) z.2) (mfr W t0)) := by
  unfold M_answer_b133
  exact (aw_if (fM_answer_b151 (hW.of (by decide)) (by assumption)) (aw_bind aw_t (fun _ h => (fM_answer_b151 (hW.of (by decide)) (by assumption)))))
def wM_answer_s83 : List Nat := [12, 13, 14, 15, 23, 24, 25, 26, 45, 89, 123, 124, 125, 126, 127, 128, 129, 130, 131, 132, 133, 134, 135, 136, 137, 138, 146, 147, 148, 157, 158, 159, 160]
theorem fM_answer_s83 {W : List Nat} {t0 : moS} {t : moS} {p1 : Int32} {p2 : Int32} {p3 : Int64} {p5 : Int64} {a7 : Int32} {a8 : Int32} (hW : sbs wM_answer_s83 W) (h : mfr W t0 t) : aw (M_answer_s83 t p1 p2 p3 p5 a7 a8) (Sum.elim (fun z => (mfr W t0) z.2) (mfr W t0)) := by
  unfold M_answer_s83
  exact (aw_if (aw_bn2 (fM_isEntry (hW.of (by decide)) (by assumption)) (fun _ _ h => (aw_if (fM_answer_b133 (hW.of (by decide)) (by assumption)) (aw_bind aw_t (fun _ h => (fM_answer_b133 (hW.of (by decide)) (by assumption))))))) (aw_xo (aw_bind (fM_send (hW.of (by decide)) (by assumption)) (fun _ h => (aw_some (by first | assumption | trivial | exact True.intro))))))
def wM_answer_b83 : List Nat := [12, 13, 14, 15, 23, 24, 25, 26, 45, 89, 123, 124, 125, 126, 127, 128, 129, 130, 131, 132, 133, 134, 135, 136, 137, 138, 146, 147, 148, 157, 158, 159, 160]
theorem fM_answer_b83 {W : List Nat} {t0 : moS} {t : moS} {p1 : Int32} {p2 : Int32} {p3 : Int64} {p5 : Int64} {a7 : Int32} {a8 : Int32} (hW : sbs wM_answer_b83 W) (h : mfr W t0 t) : aw (M_answer_b83 t p1 p2 p3 p5 a7 a8) (mfr W t0) := by
  unfold M_answer_b83
  refine aw_lp (I := (fun z => (mfr W t0) z.2)) ?_ ?_
  · exact h
  · intro y hy
    exact (fM_answer_s83 (hW.of (by decide)) hy)
def wM_answer_s45 : List Nat := [12, 13, 14, 15, 23, 24, 25, 26, 45, 89, 123, 124, 125, 126, 127, 128, 129, 130, 131, 132, 133, 134, 135, 136, 137, 138, 146, 147, 148, 157, 158, 159, 160]
theorem fM_answer_s45 {W : List Nat} {t0 : moS} {t : moS} {p1 : Int32} {p2 : Int32} {p3 : Int64} {p5 : Int64} {a7 : Int32} {a8 : Int32} (hW : sbs wM_answer_s45 W) (h : mfr W t0 t) : aw (M_answer_s45 t p1 p2 p3 p5 a7 a8) (Sum.elim (fun z => (mfr W t0) z.2) (mfr W t0)) := by
  unfold M_answer_s45
  exact (aw_if (aw_bind aw_t (fun _ h => (aw_bind (aw_wrI (hW.m (by decide)) (by assumption)) (fun _ h => (aw_some (by first | assumption | trivial | exact True.intro)))))) (aw_xo (fM_answer_b83 (hW.of (by decide)) (by assumption))))
def wM_answer_b45 : List Nat := [12, 13, 14, 15, 23, 24, 25, 26, 45, 89, 123, 124, 125, 126, 127, 128, 129, 130, 131, 132, 133, 134, 135, 136, 137, 138, 146, 147, 148, 157, 158, 159, 160]
theorem fM_answer_b45 {W : List Nat} {t0 : moS} {t : moS} {p1 : Int32} {p2 : Int32} {p3 : Int64} {p5 : Int64} {a7 : Int32} {a8 : Int32} (hW : sbs wM_answer_b45 W) (h : mfr W t0 t) : aw (M_answer_b45 t p1 p2 p3 p5 a7 a8) (mfr W t0) := by
  unfold M_answer_b45
  refine aw_lp (I := (fun z => (mfr W t0) z.2)) ?_ ?_
  · exact h
  · intro y hy
    exact (fM_answer_s45 (hW.of (by decide)) hy)
def wM_answer : List Nat := [12, 13, 14, 15, 23, 24, 25, 26, 45, 89, 123, 124, 125, 126, 127, 128, 129, 130, 131, 132, 133, 134, 135, 136, 137, 138, 139, 140, 141, 142, 143, 144, 145, 146, 147, 148, 151, 152, 157, 158, 159, 160]
theorem fM_answer {W : List Nat} {t0 : moS} {t : moS} {p1 : Int32} {p2 : Int32} {p3 : Int64} {p5 : Int64} (hW : sbs wM_answer W) (h : mfr W t0 t) : aw (M_answer t p1 p2 p3 p5) (mfr W t0) := by
  unfold M_answer
  exact (aw_bind (fM_tally (hW.of (by decide)) (by assumption)) (fun _ h => (aw_bind aw_t (fun _ h => (aw_if (fM_answer_b45 (hW.of (by decide)) (by assumption)) (aw_bind (fM_gather (hW.of (by decide)) (by assumption)) (fun _ h => (aw_bind (fM_tellTo (hW.of (by decide)) (by assumption)) (fun _ h => (aw_some (by first | assumption | trivial | exact True.intro)))))))))))
def wM_receive_b87 : List Nat := [45]
theorem fM_receive_b87 {W : List Nat} {t0 : moS} {t : moS} {a9 : Int32} (hW : sbs wM_receive_b87 W) (h : mfr W t0 t) : aw (M_receive_b87 t a9) (mfr W t0) := by
  unfold M_receive_b87
  exact (aw_bind (fM_tally (hW.of (by decide)) (by assumption)) (fun _ h => (aw_some (by first | assumption | trivial | exact True.intro))))
def wM_receive_b346 : List Nat := [12, 13, 14, 15, 23, 24, 25, 26, 44, 45, 89, 105, 106, 107, 108, 109, 110, 111, 112, 113, 114, 115, 116, 117, 118, 119, 120, 121, 122, 123, 124, 125, 126, 127, 128, 129, 130, 131, 132, 133, 134, 135, 136, 137, 138, 139, 140, 141, 142, 143, 144, 145, 146, 147, 148, 151, 152, 157, 158, 159, 160, 164, 165]
theorem fM_receive_b346 {W : List Nat} {t0 : moS} {t : moS} {p1 : Int32} {p2 : Int32} {p3 : Int64} {p5 : Int64} {a14 : Int32} (hW : sbs wM_receive_b346 W) (h : mfr W t0 t) : aw (M_receive_b346 t p1 p2 p3 p5 a14) (mfr W t0) := by
  unfold M_receive_b346
  exact (aw_if (aw_if (aw_bind (fM_answer (hW.of (by decide)) (by assumption)) (fun _ h => (aw_some (by first | assumption | trivial | exact True.intro)))) (aw_some (by first | assumption | trivial | exact True.intro))) (aw_bind (fM_takeAll (hW.of (by decide)) (by assumption)) (fun _ h => (aw_some (by first | assumption | trivial | exact True.intro)))))
def wM_receive_b313 : List Nat := [12, 13, 14, 15, 23, 24, 25, 26, 44, 45, 89, 101, 102, 103, 104, 105, 106, 107, 108, 109, 110, 111, 112, 113, 114, 115, 116, 117, 118, 119, 120, 121, 122, 123, 124, 125, 126, 127, 128, 129, 130, 131, 132, 133, 134, 135, 136, 137, 138, 139, 140, 141, 142, 143, 144, 145, 146, 147, 148, 151, 152, 157, 158, 159, 160, 162, 163, 164, 165]
theorem fM_receive_b313 {W : List Nat} {t0 : moS} {t : moS} {p1 : Int32} {p2 : Int32} {p3 : Int64} {p5 : Int64} {a9 : Int32} {a12 : Int32} {a14 : Int32} (hW : sbs wM_receive_b313 W) (h : mfr W t0 t) : aw (M_receive_b313 t p1 p2 p3 p5 a9 a12 a14) (mfr W t0) := by
  unfold M_receive_b313
  exact (aw_let (mfr.tr (by assumption) (mfr.ss (hW.m (by decide)))) (fun _ h => (aw_let (mfr.tr (by assumption) (mfr.ss (hW.m (by decide)))) (fun _ h => (aw_if (aw_bn2 (fM_keysAreGood (hW.of (by decide)) (by assumption)) (fun _ _ h => (aw_if (aw_bind (fM_tally (hW.of (by decide)) (by assumption)) (fun _ h => (aw_some (by first | assumption | trivial | exact True.intro)))) (fM_receive_b346 (hW.of (by decide)) (by assumption))))) (fM_receive_b346 (hW.of (by decide)) (by assumption)))))))
def wM_receive_b285 : List Nat := [12, 13, 14, 15, 23, 24, 25, 26, 44, 45, 89, 101, 102, 103, 104, 105, 106, 107, 108, 109, 110, 111, 112, 113, 114, 115, 116, 117, 118, 119, 120, 121, 122, 123, 124, 125, 126, 127, 128, 129, 130, 131, 132, 133, 134, 135, 136, 137, 138, 139, 140, 141, 142, 143, 144, 145, 146, 147, 148, 151, 152, 157, 158, 159, 160, 162, 163, 164, 165]
theorem fM_receive_b285 {W : List Nat} {t0 : moS} {t : moS} {p1 : Int32} {p2 : Int32} {p3 : Int64} {p5 : Int64} {p8 : Int32} {a9 : Int32} {a12 : Int32} {a14 : Int32} (hW : sbs wM_receive_b285 W) (h : mfr W t0 t) : aw (M_receive_b285 t p1 p2 p3 p5 p8 a9 a12 a14) (mfr W t0) := by
  unfold M_receive_b285
  exact (aw_if (fM_receive_b313 (hW.of (by decide)) (by assumption)) (aw_if (aw_if (fM_receive_b313 (hW.of (by decide)) (by assumption)) (aw_bind (fM_tally (hW.of (by decide)) (by assumption)) (fun _ h => (aw_some (by first | assumption | trivial | exact True.intro))))) (fM_receive_b313 (hW.of (by decide)) (by assumption))))
def wM_receive_b272 : List Nat := [12, 13, 14, 15, 23, 24, 25, 26, 44, 45, 89, 101, 102, 103, 104, 105, 106, 107, 108, 109, 110, 111, 112, 113, 114, 115, 116, 117, 118, 119, 120, 121, 122, 123, 124, 125, 126, 127, 128, 129, 130, 131, 132, 133, 134, 135, 136, 137, 138, 139, 140, 141, 142, 143, 144, 145, 146, 147, 148, 151, 152, 157, 158, 159, 160, 162, 163, 164, 165]
theorem fM_receive_b272 {W : List Nat} {t0 : moS} {t : moS} {p1 : Int32} {p2 : Int32} {p3 : Int64} {p5 : Int64} {p8 : Int32} {a9 : Int32} {a12 : Int32} {a14 : Int32} {u0 : Int32} {u1 : Int32} (hW : sbs wM_receive_b272 W) (h : mfr W t0 t) : aw (M_receive_b272 t p1 p2 p3 p5 p8 a9 a12 a14 u0 u1) (mfr W t0) := by
  unfold M_receive_b272
  exact (aw_if (fM_receive_b285 (hW.of (by decide)) (by assumption)) (aw_bind (fM_tally (hW.of (by decide)) (by assumption)) (fun _ h => (aw_some (by first | assumption | trivial | exact True.intro)))))
