/-! What the model's functions leave as it was, by program. -/
def wM_sayAddress_b312 : List Nat := [7, 8]
theorem fM_sayAddress_b312 {W : List Nat} {t0 : moS} {t : moS} {a6 : Int32} {a7 : Int32} {a8 : Int32} {a9 : Int32} {a11 : Int32} {a12 : Int32} (hW : sbs wM_sayAddress_b312 W) (h : mfr W t0 t) : aw (M_sayAddress_b312 t a6 a7 a8 a9 a11 a12) (Sum.elim (fun z => (fun z => (mfr W t0) z.2) z.2) (Sum.elim (fun z => (mfr W t0) z.2) (mfr W t0))) := by
  unfold M_sayAddress_b312
  exact (fM_sayAddress_b317 (hW.of (by decide)) (by assumption))
def wM_sayAddress_s277 : List Nat := [7, 8]
theorem fM_sayAddress_s277 {W : List Nat} {t0 : moS} {t : moS} {a6 : Int32} {a7 : Int32} {a8 : Int32} {a9 : Int32} {a10 : Int32} {a11 : Int32} (hW : sbs wM_sayAddress_s277 W) (h : mfr W t0 t) : aw (M_sayAddress_s277 t a6 a7 a8 a9 a10 a11) (Sum.elim (fun z => (fun z => (mfr W t0) z.2) z.2) (Sum.elim (fun z => (mfr W t0) z.2) (mfr W t0))) := by
  unfold M_sayAddress_s277
  exact (aw_if (aw_xo (fM_sayAddress_b339 (hW.of (by decide)) (by assumption))) (aw_bind aw_t (fun _ h => (aw_if (aw_if (fM_sayAddress_b312 (hW.of (by decide)) (by assumption)) (aw_if (fM_sayAddress_b312 (hW.of (by decide)) (by assumption)) (fM_sayAddress_b317 (hW.of (by decide)) (by assumption)))) (fM_sayAddress_b312 (hW.of (by decide)) (by assumption))))))
def wM_sayAddress_b277 : List Nat := [7, 8]
theorem fM_sayAddress_b277 {W : List Nat} {t0 : moS} {t : moS} {a6 : Int32} {a7 : Int32} {a8 : Int32} {a9 : Int32} {a10 : Int32} {a11 : Int32} (hW : sbs wM_sayAddress_b277 W) (h : mfr W t0 t) : aw (M_sayAddress_b277 t a6 a7 a8 a9 a10 a11) (Sum.elim (fun z => (mfr W t0) z.2) (mfr W t0)) := by
  unfold M_sayAddress_b277
  refine aw_lp (I := (fun z => (fun z => (mfr W t0) z.2) z.2)) ?_ ?_
  · exact h
  · intro y hy
    exact (fM_sayAddress_s277 (hW.of (by decide)) hy)
def wM_sayAddress_b270 : List Nat := [7, 8]
theorem fM_sayAddress_b270 {W : List Nat} {t0 : moS} {t : moS} {a6 : Int32} {a7 : Int32} {a8 : Int32} {a9 : Int32} (hW : sbs wM_sayAddress_b270 W) (h : mfr W t0 t) : aw (M_sayAddress_b270 t a6 a7 a8 a9) (Sum.elim (fun z => (mfr W t0) z.2) (mfr W t0)) := by
  unfold M_sayAddress_b270
  exact (fM_sayAddress_b277 (hW.of (by decide)) (by assumption))
def wM_sayAddress_b264 : List Nat := [7, 8]
theorem fM_sayAddress_b264 {W : List Nat} {t0 : moS} {t : moS} {a6 : Int32} {a7 : Int32} {a8 : Int32} {a9 : Int32} (hW : sbs wM_sayAddress_b264 W) (h : mfr W t0 t) : aw (M_sayAddress_b264 t a6 a7 a8 a9) (Sum.elim (fun z => (mfr W t0) z.2) (mfr W t0)) := by
  unfold M_sayAddress_b264
  exact (aw_bind (fM_say (hW.of (by decide)) (by assumption)) (fun _ h => (fM_sayAddress_b270 (hW.of (by decide)) (by assumption))))
def wM_sayAddress_b244 : List Nat := [7, 8]
theorem fM_sayAddress_b244 {W : List Nat} {t0 : moS} {t : moS} {a6 : Int32} {a7 : Int32} {a8 : Int32} {a9 : Int32} (hW : sbs wM_sayAddress_b244 W) (h : mfr W t0 t) : aw (M_sayAddress_b244 t a6 a7 a8 a9) (Sum.elim (fun z => (mfr W t0) z.2) (mfr W t0)) := by
  unfold M_sayAddress_b244
  exact (aw_if (aw_if (fM_sayAddress_b264 (hW.of (by decide)) (by assumption)) (aw_if (fM_sayAddress_b270 (hW.of (by decide)) (by assumption)) (fM_sayAddress_b264 (hW.of (by decide)) (by assumption)))) (fM_sayAddress_b270 (hW.of (by decide)) (by assumption)))
def wM_sayAddress_s186 : List Nat := [7, 8]
theorem fM_sayAddress_s186 {W : List Nat} {t0 : moS} {t : moS} {a6 : Int32} {a7 : Int32} {a8 : Int32} {a9 : Int32} (hW : sbs wM_sayAddress_s186 W) (h : mfr W t0 t) : aw (M_sayAddress_s186 t a6 a7 a8 a9) (Sum.elim (fun z => (mfr W t0) z.2) (mfr W t0)) := by
  unfold M_sayAddress_s186
  exact (aw_if (aw_if (fM_sayAddress_b244 (hW.of (by decide)) (by assumption)) (aw_if (fM_sayAddress_b244 (hW.of (by decide)) (by assumption)) (aw_if (aw_if (aw_bind (fM_say (hW.of (by decide)) (by assumption)) (fun _ h => (fM_sayAddress_b228 (hW.of (by decide)) (by assumption)))) (fM_sayAddress_b228 (hW.of (by decide)) (by assumption))) (fM_sayAddress_b244 (hW.of (by decide)) (by assumption))))) (aw_xo (aw_some (by first | assumption | trivial | exact True.intro))))
def wM_sayAddress_b186 : List Nat := [7, 8]
theorem fM_sayAddress_b186 {W : List Nat} {t0 : moS} {t : moS} {a6 : Int32} {a7 : Int32} {a8 : Int32} {a9 : Int32} (hW : sbs wM_sayAddress_b186 W) (h : mfr W t0 t) : aw (M_sayAddress_b186 t a6 a7 a8 a9) (mfr W t0) := by
  unfold M_sayAddress_b186
  refine aw_lp (I := (fun z => (mfr W t0) z.2)) ?_ ?_
  · exact h
  · intro y hy
    exact (fM_sayAddress_s186 (hW.of (by decide)) hy)
def wM_sayAddress_b181 : List Nat := [7, 8]
theorem fM_sayAddress_b181 {W : List Nat} {t0 : moS} {t : moS} {a6 : Int32} {a7 : Int32} {u0 : Int32} (hW : sbs wM_sayAddress_b181 W) (h : mfr W t0 t) : aw (M_sayAddress_b181 t a6 a7 u0) (mfr W t0) := by
  unfold M_sayAddress_b181
  exact (fM_sayAddress_b186 (hW.of (by decide)) (by assumption))
def wM_sayAddress_s110 : List Nat := [7, 8]
theorem fM_sayAddress_s110 {W : List Nat} {t0 : moS} {t : moS} {a6 : Int32} {a7 : Int32} {a8 : Int32} (hW : sbs wM_sayAddress_s110 W) (h : mfr W t0 t) : aw (M_sayAddress_s110 t a6 a7 a8) (Sum.elim (fun z => (fun z => (fun z => (mfr W t0) z.2) z.2) z.2) (mfr W t0)) := by
  unfold M_sayAddress_s110
  exact (aw_if (fM_sayAddress_b120 (hW.of (by decide)) (by assumption)) (aw_xo (aw_if (fM_sayAddress_b181 (hW.of (by decide)) (by assumption)) (fM_sayAddress_b181 (hW.of (by decide)) (by assumption)))))
def wM_sayAddress_b110 : List Nat := [7, 8]
theorem fM_sayAddress_b110 {W : List Nat} {t0 : moS} {t : moS} {a6 : Int32} {a7 : Int32} {a8 : Int32} (hW : sbs wM_sayAddress_b110 W) (h : mfr W t0 t) : aw (M_sayAddress_b110 t a6 a7 a8) (mfr W t0) := by
  unfold M_sayAddress_b110
  refine aw_lp (I := (fun z => (fun z => (fun z => (mfr W t0) z.2) z.2) z.2)) ?_ ?_
  · exact h
  · intro y hy
    exact (fM_sayAddress_s110 (hW.of (by decide)) hy)
def wM_sayAddress_s53 : List Nat := [7, 8, 16]
theorem fM_sayAddress_s53 {W : List Nat} {t0 : moS} {t : moS} {p2 : Int64} {p4 : Int64} {a6 : Int32} (hW : sbs wM_sayAddress_s53 W) (h : mfr W t0 t) : aw (M_sayAddress_s53 t p2 p4 a6) (Sum.elim (fun z => (mfr W t0) z.2) (mfr W t0)) := by
  unfold M_sayAddress_s53
  exact (aw_if (aw_if (fM_sayAddress_b78 (hW.of (by decide)) (by assumption)) (fM_sayAddress_b78 (hW.of (by decide)) (by assumption))) (aw_xo (fM_sayAddress_b110 (hW.of (by decide)) (by assumption))))
def wM_sayAddress_b53 : List Nat := [7, 8, 16]
theorem fM_sayAddress_b53 {W : List Nat} {t0 : moS} {t : moS} {p2 : Int64} {p4 : Int64} {a6 : Int32} (hW : sbs wM_sayAddress_b53 W) (h : mfr W t0 t) : aw (M_sayAddress_b53 t p2 p4 a6) (mfr W t0) := by
  unfold M_sayAddress_b53
  refine aw_lp (I := (fun z => (mfr W t0) z.2)) ?_ ?_
  · exact h
  · intro y hy
    exact (fM_sayAddress_s53 (hW.of (by decide)) hy)
def wM_sayAddress : List Nat := [7, 8, 16]
theorem fM_sayAddress {W : List Nat} {t0 : moS} {t : moS} {p1 : Int32} {p2 : Int64} {p4 : Int64} (hW : sbs wM_sayAddress W) (h : mfr W t0 t) : aw (M_sayAddress t p1 p2 p4) (mfr W t0) := by
  unfold M_sayAddress
  exact (aw_if (fM_sayAddress_b7 (hW.of (by decide)) (by assumption)) (fM_sayAddress_b53 (hW.of (by decide)) (by assumption)))
def wM_sayPrefix : List Nat := [7, 8, 16]
theorem fM_sayPrefix {W : List Nat} {t0 : moS} {t : moS} {p1 : Int32} {p2 : Int64} {p4 : Int64} {p6 : Int32} (hW : sbs wM_sayPrefix W) (h : mfr W t0 t) : aw (M_sayPrefix t p1 p2 p4 p6) (mfr W t0) := by
  unfold M_sayPrefix
  exact (aw_bind (fM_sayAddress (hW.of (by decide)) (by assumption)) (fun _ h => (aw_bind (fM_say (hW.of (by decide)) (by assumption)) (fun _ h => (aw_bind (fM_sayNumber (hW.of (by decide)) (by assumption)) (fun _ h => (aw_some (by first | assumption | trivial | exact True.intro))))))))
def wM_space : List Nat := [7, 8]
theorem fM_space {W : List Nat} {t0 : moS} {t : moS} (hW : sbs wM_space W) (h : mfr W t0 t) : aw (M_space t) (mfr W t0) := by
  unfold M_space
  exact (aw_bind (fM_say (hW.of (by decide)) (by assumption)) (fun _ h => (aw_some (by first | assumption | trivial | exact True.intro))))
def wM_word : List Nat := [7, 8]
theorem fM_word {W : List Nat} {t0 : moS} {t : moS} {p1 : Int64} (hW : sbs wM_word W) (h : mfr W t0 t) : aw (M_word t p1) (mfr W t0) := by
  unfold M_word
  exact (aw_bind (fM_space (hW.of (by decide)) (by assumption)) (fun _ h => (aw_bind (fM_sayName (hW.of (by decide)) (by assumption)) (fun _ h => (aw_some (by first | assumption | trivial | exact True.intro))))))
def wM_wordNumber : List Nat := [7, 8]
theorem fM_wordNumber {W : List Nat} {t0 : moS} {t : moS} {p1 : Int32} (hW : sbs wM_wordNumber W) (h : mfr W t0 t) : aw (M_wordNumber t p1) (mfr W t0) := by
  unfold M_wordNumber
  exact (aw_bind (fM_space (hW.of (by decide)) (by assumption)) (fun _ h => (aw_bind (fM_sayNumber (hW.of (by decide)) (by assumption)) (fun _ h => (aw_some (by first | assumption | trivial | exact True.intro))))))
def wM_wordPrefix : List Nat := [7, 8, 16]
theorem fM_wordPrefix {W : List Nat} {t0 : moS} {t : moS} {p1 : Int32} {p2 : Int64} {p4 : Int64} {p6 : Int32} (hW : sbs wM_wordPrefix W) (h : mfr W t0 t) : aw (M_wordPrefix t p1 p2 p4 p6) (mfr W t0) := by
  unfold M_wordPrefix
  exact (aw_bind (fM_space (hW.of (by decide)) (by assumption)) (fun _ h => (aw_bind (fM_sayPrefix (hW.of (by decide)) (by assumption)) (fun _ h => (aw_some (by first | assumption | trivial | exact True.intro))))))
def wM_sayRoute_b114 : List Nat := [7, 8]
theorem fM_sayRoute_b114 {W : List Nat} {t0 : moS} {t : moS} {p1 : Int32} (hW : sbs wM_sayRoute_b114 W) (h : mfr W t0 t) : aw (M_sayRoute_b114 t p1) (mfr W t0) := by
  unfold M_sayRoute_b114
  exact (aw_bind aw_t (fun _ h => (aw_if (aw_bind (fM_space (hW.of (by decide)) (by assumption)) (fun _ h => (aw_bind (fM_say (hW.of (by decide)) (by assumption)) (fun _ h => (aw_some (by first | assumption | trivial | exact True.intro)))))) (aw_bind aw_t (fun _ h => (aw_bind aw_t (fun _ h => (aw_bind aw_t (fun _ h => (aw_bind (fM_word (hW.of (by decide)) (by assumption)) (fun _ h => (aw_some (by first | assumption | trivial | exact True.intro)))))))))))))
def wM_sayRoute_b75 : List Nat := [7, 8, 16]
theorem fM_sayRoute_b75 {W : List Nat} {t0 : moS} {t : moS} {p1 : Int32} {u1 : Int64} (hW : sbs wM_sayRoute_b75 W) (h : mfr W t0 t) : aw (M_sayRoute_b75 t p1 u1) (mfr W t0) := by
  unfold M_sayRoute_b75
  exact (aw_bind (fM_word (hW.of (by decide)) (by assumption)) (fun _ h => (aw_bind aw_t (fun _ h => (aw_if (aw_bind (fM_space (hW.of (by decide)) (by assumption)) (fun _ h => (aw_bind aw_t (fun _ h => (aw_bind aw_t (fun _ h => (aw_bind aw_t (fun _ h => (aw_bind (fM_sayAddress (hW.of (by decide)) (by assumption)) (fun _ h => (fM_sayRoute_b114 (hW.of (by decide)) (by assumption)))))))))))) (fM_sayRoute_b114 (hW.of (by decide)) (by assumption)))))))
def wM_sayRoute : List Nat := [7, 8, 16]
theorem fM_sayRoute {W : List Nat} {t0 : moS} {t : moS} {p1 : Int32} (hW : sbs wM_sayRoute W) (h : mfr W t0 t) : aw (M_sayRoute t p1) (mfr W t0) := by
  unfold M_sayRoute
  exact (aw_bind aw_t (fun _ h => (aw_bind aw_t (fun _ h => (aw_bind aw_t (fun _ h => (aw_bind aw_t (fun _ h => (aw_bind (fM_sayPrefix (hW.of (by decide)) (by assumption)) (fun _ h => (aw_bind aw_t (fun _ h => (aw_bind (fM_wordNumber (hW.of (by decide)) (by assumption)) (fun _ h => (aw_bind aw_t (fun _ h => (aw_if (aw_bind (fM_word (hW.of (by decide)) (by assumption)) (fun _ h => (aw_some (by first | assumption | trivial | exact True.intro)))) (aw_bind aw_t (fun _ h => (aw_if (fM_sayRoute_b75 (hW.of (by decide)) (by assumption)) (fM_sayRoute_b75 (hW.of (by decide)) (by assumption))))))))))))))))))))))
def wM_sayTimes_b102 : List Nat := [7, 8]
theorem fM_sayTimes_b102 {W : List Nat} {t0 : moS} {t : moS} {p1 : Int32} (hW : sbs wM_sayTimes_b102 W) (h : mfr W t0 t) : aw (M_sayTimes_b102 t p1) (mfr W t0) := by
  unfold M_sayTimes_b102
  exact (aw_bind aw_t (fun _ h => (aw_if (aw_some (by first | assumption | trivial | exact True.intro)) (aw_bind (fM_word (hW.of (by decide)) (by assumption)) (fun _ h => (aw_some (by first | assumption | trivial | exact True.intro)))))))
def wM_sayTimes : List Nat := [7, 8, 16]
theorem fM_sayTimes {W : List Nat} {t0 : moS} {t : moS} {p1 : Int32} (hW : sbs wM_sayTimes W) (h : mfr W t0 t) : aw (M_sayTimes t p1) (mfr W t0) := by
  unfold M_sayTimes
  exact (aw_bind aw_t (fun _ h => (aw_bind aw_t (fun _ h => (aw_bind aw_t (fun _ h => (aw_bind aw_t (fun _ h => (aw_bind (fM_sayPrefix (hW.of (by decide)) (by assumption)) (fun _ h => (aw_bind aw_t (fun _ h => (aw_if (aw_bind aw_t (fun _ h => (aw_bind (fM_wordNumber (hW.of (by decide)) (by assumption)) (fun _ h => (fM_sayTimes_b102 (hW.of (by decide)) (by assumption)))))) (aw_bind aw_t (fun _ h => (aw_if (aw_bind aw_t (fun _ h => (aw_bind aw_t (fun _ h => (aw_bind (fM_wordNumber (hW.of (by decide)) (by assumption)) (fun _ h => (fM_sayTimes_b102 (hW.of (by decide)) (by assumption)))))))) (aw_bind (fM_space (hW.of (by decide)) (by assumption)) (fun _ h => (aw_bind (fM_say (hW.of (by decide)) (by assumption)) (fun _ h => (fM_sayTimes_b102 (hW.of (by decide)) (by assumption))))))))))))))))))))))
def wM_sayOwn : List Nat := [7, 8, 16]
theorem fM_sayOwn {W : List Nat} {t0 : moS} {t : moS} {p1 : Int32} (hW : sbs wM_sayOwn W) (h : mfr W t0 t) : aw (M_sayOwn t p1) (mfr W t0) := by
  unfold M_sayOwn
  exact (aw_bind aw_t (fun _ h => (aw_bind aw_t (fun _ h => (aw_bind aw_t (fun _ h => (aw_bind (fM_wordPrefix (hW.of (by decide)) (by assumption)) (fun _ h => (aw_some (by first | assumption | trivial | exact True.intro))))))))))
def wM_sayInterface_b150 : List Nat := []
theorem fM_sayInterface_b150 {W : List Nat} {t0 : moS} {t : moS} {p1 : Int32} {a2 : Int32} (hW : sbs wM_sayInterface_b150 W) (h : mfr W t0 t) : aw (M_sayInterface_b150 t p1 a2) (Sum.elim (fun z => (mfr W t0) z.2) (mfr W t0)) := by
  unfold M_sayInterface_b150
  exact (aw_some (by first | assumption | trivial | exact True.intro))
def wM_sayInterface_s127 : List Nat := [7, 8, 16]
theorem fM_sayInterface_s127 {W : List Nat} {t0 : moS} {t : moS} {p1 : Int32} {a2 : Int32} (hW : sbs wM_sayInterface_s127 W) (h : mfr W t0 t) : aw (M_sayInterface_s127 t p1 a2) (Sum.elim (fun z => (mfr W t0) z.2) (mfr W t0)) := by
  unfold M_sayInterface_s127
  exact (aw_if (aw_bind aw_t (fun _ h => (aw_if (fM_sayInterface_b150 (hW.of (by decide)) (by assumption)) (aw_bind (fM_sayOwn (hW.of (by decide)) (by assumption)) (fun _ h => (fM_sayInterface_b150 (hW.of (by decide)) (by assumption))))))) (aw_xo (aw_some (by first | assumption | trivial | exact True.intro))))
def wM_sayInterface_b127 : List Nat := [7, 8, 16]
theorem fM_sayInterface_b127 {W : List Nat} {t0 : moS} {t : moS} {p1 : Int32} {a2 : Int32} (hW : sbs wM_sayInterface_b127 W) (h : mfr W t0 t) : aw (M_sayInterface_b127 t p1 a2) (mfr W t0) := by
  unfold M_sayInterface_b127
  refine aw_lp (I := (fun z => (mfr W t0) z.2)) ?_ ?_
  · exact h
  · intro y hy
    exact (fM_sayInterface_s127 (hW.of (by decide)) hy)
def wM_sayInterface_b123 : List Nat := [7, 8, 16]
theorem fM_sayInterface_b123 {W : List Nat} {t0 : moS} {t : moS} {p1 : Int32} (hW : sbs wM_sayInterface_b123 W) (h : mfr W t0 t) : aw (M_sayInterface_b123 t p1) (mfr W t0) := by
  unfold M_sayInterface_b123
  exact (fM_sayInterface_b127 (hW.of (by decide)) (by assumption))
def wM_sayInterface_b104 : List Nat := [7, 8, 16]
theorem fM_sayInterface_b104 {W : List Nat} {t0 : moS} {t : moS} {p1 : Int32} {u1 : Int64} (hW : sbs wM_sayInterface_b104 W) (h : mfr W t0 t) : aw (M_sayInterface_b104 t p1 u1) (mfr W t0) := by
  unfold M_sayInterface_b104
  exact (aw_bind (fM_word (hW.of (by decide)) (by assumption)) (fun _ h => (aw_bind aw_t (fun _ h => (aw_if (fM_sayInterface_b123 (hW.of (by decide)) (by assumption)) (aw_bind (fM_word (hW.of (by decide)) (by assumption)) (fun _ h => (fM_sayInterface_b123 (hW.of (by decide)) (by assumption)))))))))
def wM_sayInterface_b39 : List Nat := [7, 8, 16]
theorem fM_sayInterface_b39 {W : List Nat} {t0 : moS} {t : moS} {p1 : Int32} {u1 : Int64} (hW : sbs wM_sayInterface_b39 W) (h : mfr W t0 t) : aw (M_sayInterface_b39 t p1 u1) (mfr W t0) := by
  unfold M_sayInterface_b39
  exact (aw_bind (fM_word (hW.of (by decide)) (by assumption)) (fun _ h => (aw_bind (fM_word (hW.of (by decide)) (by assumption)) (fun _ h => (aw_bind aw_t (fun _ h => (aw_bind (fM_wordNumber (hW.of (by decide)) (by assumption)) (fun _ h => (aw_bind aw_t (fun _ h => (aw_bind (fM_word (hW.of (by decide)) (by assumption)) (fun _ h => (aw_bind aw_t (fun _ h => (aw_if (fM_sayInterface_b104 (hW.of (by decide)) (by assumption)) (aw_bind aw_t (fun _ h => (aw_if (fM_sayInterface_b104 (hW.of (by decide)) (by assumption)) (fM_sayInterface_b104 (hW.of (by decide)) (by assumption))))))))))))))))))))
def wM_sayInterface : List Nat := [7, 8, 16]
theorem fM_sayInterface {W : List Nat} {t0 : moS} {t : moS} {p1 : Int32} (hW : sbs wM_sayInterface W) (h : mfr W t0 t) : aw (M_sayInterface t p1) (mfr W t0) := by
  unfold M_sayInterface
  exact (aw_bind aw_t (fun _ h => (aw_bind aw_t (fun _ h => (aw_bind (fM_sayName (hW.of (by decide)) (by assumption)) (fun _ h => (aw_bind aw_t (fun _ h => (aw_bind aw_t (fun _ h => (aw_if (fM_sayInterface_b39 (hW.of (by decide)) (by assumption)) (fM_sayInterface_b39 (hW.of (by decide)) (by assumption)))))))))))))
def wM_show_b77 : List Nat := [7, 8]
theorem fM_show_b77 {W : List Nat} {t0 : moS} {t : moS} {p1 : Int32} {p2 : Int32} {a3 : Int32} (hW : sbs wM_show_b77 W) (h : mfr W t0 t) : aw (M_show_b77 t p1 p2 a3) (Sum.elim (fun z => (mfr W t0) z.2) (fun z => (mfr W t0) z.2)) := by
  unfold M_show_b77
  exact (aw_bind (fM_say (hW.of (by decide)) (by assumption)) (fun _ h => (aw_some (by first | assumption | trivial | exact True.intro))))
def wM_show_b60 : List Nat := [7, 8, 16]
theorem fM_show_b60 {W : List Nat} {t0 : moS} {t : moS} {p1 : Int32} {p2 : Int32} {a3 : Int32} (hW : sbs wM_show_b60 W) (h : mfr W t0 t) : aw (M_show_b60 t p1 p2 a3) (Sum.elim (fun z => (mfr W t0) z.2) (fun z => (mfr W t0) z.2)) := by
  unfold M_show_b60
  exact (aw_if (aw_bind (fM_sayRoute (hW.of (by decide)) (by assumption)) (fun _ h => (fM_show_b77 (hW.of (by decide)) (by assumption)))) (aw_bind (fM_sayTimes (hW.of (by decide)) (by assumption)) (fun _ h => (fM_show_b77 (hW.of (by decide)) (by assumption)))))
def wM_show_b174 : List Nat := [5, 6, 7]
theorem fM_show_b174 {W : List Nat} {t0 : moS} {t : moS} (hW : sbs wM_show_b174 W) (h : mfr W t0 t) : aw (M_show_b174 t) (fun z => (mfr W t0) z.2) := by
  unfold M_show_b174
  exact (aw_bn2 (fM_shown (hW.of (by decide)) (by assumption)) (fun _ _ h => (aw_some (by first | assumption | trivial | exact True.intro))))
def wM_show_s131 : List Nat := [5, 6, 7, 8]
theorem fM_show_s131 {W : List Nat} {t0 : moS} {t : moS} {p1 : Int32} {p2 : Int32} {a3 : Int32} (hW : sbs wM_show_s131 W) (h : mfr W t0 t) : aw (M_show_s131 t p1 p2 a3) (Sum.elim (fun z => (mfr W t0) z.2) (fun z => (mfr W t0) z.2)) := by
  unfold M_show_s131
  exact (aw_if (aw_if (aw_bind (fM_sayNumber (hW.of (by decide)) (by assumption)) (fun _ h => (aw_bind aw_t (fun _ h => (aw_bind (fM_wordNumber (hW.of (by decide)) (by assumption)) (fun _ h => (aw_bind (fM_say (hW.of (by decide)) (by assumption)) (fun _ h => (aw_some (by first | assumption | trivial | exact True.intro)))))))))) (aw_xo (fM_show_b174 (hW.of (by decide)) (by assumption)))) (aw_xo (fM_show_b174 (hW.of (by decide)) (by assumption))))
def wM_show_b131 : List Nat := [5, 6, 7, 8]
theorem fM_show_b131 {W : List Nat} {t0 : moS} {t : moS} {p1 : Int32} {p2 : Int32} {a3 : Int32} (hW : sbs wM_show_b131 W) (h : mfr W t0 t) : aw (M_show_b131 t p1 p2 a3) (fun z => (mfr W t0) z.2) := by
  unfold M_show_b131
  refine aw_lp (I := (fun z => (mfr W t0) z.2)) ?_ ?_
  · exact h
  · intro y hy
    exact (fM_show_s131 (hW.of (by decide)) hy)
def wM_show_b129 : List Nat := [5, 6, 7, 8]
theorem fM_show_b129 {W : List Nat} {t0 : moS} {t : moS} {p1 : Int32} {p2 : Int32} (hW : sbs wM_show_b129 W) (h : mfr W t0 t) : aw (M_show_b129 t p1 p2) (fun z => (mfr W t0) z.2) := by
  unfold M_show_b129
  exact (fM_show_b131 (hW.of (by decide)) (by assumption))
def wM_show_s93 : List Nat := [5, 6, 7, 8, 16]
theorem fM_show_s93 {W : List Nat} {t0 : moS} {t : moS} {p1 : Int32} {p2 : Int32} {a3 : Int32} (hW : sbs wM_show_s93 W) (h : mfr W t0 t) : aw (M_show_s93 t p1 p2 a3) (Sum.elim (fun z => (mfr W t0) z.2) (fun z => (mfr W t0) z.2)) := by
  unfold M_show_s93
  exact (aw_bind aw_t (fun _ h => (aw_if (aw_if (aw_bind (fM_sayInterface (hW.of (by decide)) (by assumption)) (fun _ h => (aw_bind (fM_say (hW.of (by decide)) (by assumption)) (fun _ h => (aw_some (by first | assumption | trivial | exact True.intro)))))) (aw_xo (fM_show_b129 (hW.of (by decide)) (by assumption)))) (aw_xo (fM_show_b129 (hW.of (by decide)) (by assumption))))))
def wM_show_b93 : List Nat := [5, 6, 7, 8, 16]
theorem fM_show_b93 {W : List Nat} {t0 : moS} {t : moS} {p1 : Int32} {p2 : Int32} {a3 : Int32} (hW : sbs wM_show_b93 W) (h : mfr W t0 t) : aw (M_show_b93 t p1 p2 a3) (fun z => (mfr W t0) z.2) := by
  unfold M_show_b93
  refine aw_lp (I := (fun z => (mfr W t0) z.2)) ?_ ?_
  · exact h
  · intro y hy
    exact (fM_show_s93 (hW.of (by decide)) hy)
def wM_show_b89 : List Nat := [5, 6, 7, 8, 16]
theorem fM_show_b89 {W : List Nat} {t0 : moS} {t : moS} {p1 : Int32} {p2 : Int32} (hW : sbs wM_show_b89 W) (h : mfr W t0 t) : aw (M_show_b89 t p1 p2) (fun z => (mfr W t0) z.2) := by
  unfold M_show_b89
  exact (fM_show_b93 (hW.of (by decide)) (by assumption))
def wM_show_s35 : List Nat := [5, 6, 7, 8, 16]
theorem fM_show_s35 {W : List Nat} {t0 : moS} {t : moS} {p1 : Int32} {p2 : Int32} {a3 : Int32} (hW : sbs wM_show_s35 W) (h : mfr W t0 t) : aw (M_show_s35 t p1 p2 a3) (Sum.elim (fun z => (mfr W t0) z.2) (fun z => (mfr W t0) z.2)) := by
  unfold M_show_s35
  exact (aw_bind aw_t (fun _ h => (aw_if (aw_if (fM_show_b60 (hW.of (by decide)) (by assumption)) (aw_if (fM_show_b60 (hW.of (by decide)) (by assumption)) (aw_xo (fM_show_b89 (hW.of (by decide)) (by assumption))))) (aw_xo (fM_show_b89 (hW.of (by decide)) (by assumption))))))
def wM_show_b35 : List Nat := [5, 6, 7, 8, 16]
theorem fM_show_b35 {W : List Nat} {t0 : moS} {t : moS} {p1 : Int32} {p2 : Int32} {a3 : Int32} (hW : sbs wM_show_b35 W) (h : mfr W t0 t) : aw (M_show_b35 t p1 p2 a3) (fun z => (mfr W t0) z.2) := by
  unfold M_show_b35
  refine aw_lp (I := (fun z => (mfr W t0) z.2)) ?_ ?_
  · exact h
  · intro y hy
    exact (fM_show_s35 (hW.of (by decide)) hy)
def wM_show : List Nat := [0, 5, 6, 7, 8, 16]
theorem fM_show {W : List Nat} {t0 : moS} {t : moS} {p1 : Int32} {p2 : Int32} (hW : sbs wM_show W) (h : mfr W t0 t) : aw (M_show t p1 p2) (fun z => (mfr W t0) z.2) := by
  unfold M_show
  exact (aw_let (mfr.tr (by assumption) (mfr.ss (hW.m (by decide)))) (fun _ h => (aw_if (aw_some (by first | assumption | trivial | exact True.intro)) (aw_if (aw_some (by first | assumption | trivial | exact True.intro)) (aw_if (aw_some (by first | assumption | trivial | exact True.intro)) (aw_let (mfr.tr (by assumption) (mfr.ss (hW.m (by decide)))) (fun _ h => (fM_show_b35 (hW.of (by decide)) (by assumption)))))))))
def wM_sayLink : List Nat := [7, 8]
theorem fM_sayLink {W : List Nat} {t0 : moS} {t : moS} {p1 : Int32} (hW : sbs wM_sayLink W) (h : mfr W t0 t) : aw (M_sayLink t p1) (mfr W t0) := by
  unfold M_sayLink
  exact (aw_bind (fM_sayName (hW.of (by decide)) (by assumption)) (fun _ h => (aw_bind aw_t (fun _ h => (aw_bind (fM_word (hW.of (by decide)) (by assumption)) (fun _ h => (aw_bind aw_t (fun _ h => (aw_bind (fM_wordNumber (hW.of (by decide)) (by assumption)) (fun _ h => (aw_bind (fM_word (hW.of (by decide)) (by assumption)) (fun _ h => (aw_bind aw_t (fun _ h => (aw_bind (fM_wordNumber (hW.of (by decide)) (by assumption)) (fun _ h => (aw_bind (fM_word (hW.of (by decide)) (by assumption)) (fun _ h => (aw_bind aw_t (fun _ h => (aw_bind (fM_wordNumber (hW.of (by decide)) (by assumption)) (fun _ h => (aw_bind (fM_say (hW.of (by decide)) (by assumption)) (fun _ h => (aw_some (by first | assumption | trivial | exact True.intro))))))))))))))))))))))))))
def wM_sayListEntry_b121 : List Nat := [7, 8]
theorem fM_sayListEntry_b121 {W : List Nat} {t0 : moS} {t : moS} (hW : sbs wM_sayListEntry_b121 W) (h : mfr W t0 t) : aw (M_sayListEntry_b121 t) (mfr W t0) := by
  unfold M_sayListEntry_b121
  exact (aw_bind (fM_say (hW.of (by decide)) (by assumption)) (fun _ h => (aw_some (by first | assumption | trivial | exact True.intro))))
def wM_sayListEntry_b94 : List Nat := [7, 8]
theorem fM_sayListEntry_b94 {W : List Nat} {t0 : moS} {t : moS} {p2 : Int32} (hW : sbs wM_sayListEntry_b94 W) (h : mfr W t0 t) : aw (M_sayListEntry_b94 t p2) (mfr W t0) := by
  unfold M_sayListEntry_b94
  exact (aw_bind aw_t (fun _ h => (aw_if (fM_sayListEntry_b121 (hW.of (by decide)) (by assumption)) (aw_bind (fM_word (hW.of (by decide)) (by assumption)) (fun _ h => (aw_bind aw_t (fun _ h => (aw_bind (fM_wordNumber (hW.of (by decide)) (by assumption)) (fun _ h => (fM_sayListEntry_b121 (hW.of (by decide)) (by assumption)))))))))))
def wM_sayListEntry_b36 : List Nat := [7, 8, 16]
theorem fM_sayListEntry_b36 {W : List Nat} {t0 : moS} {t : moS} {p2 : Int32} {u1 : Int64} (hW : sbs wM_sayListEntry_b36 W) (h : mfr W t0 t) : aw (M_sayListEntry_b36 t p2 u1) (mfr W t0) := by
  unfold M_sayListEntry_b36
  exact (aw_bind (fM_word (hW.of (by decide)) (by assumption)) (fun _ h => (aw_bind aw_t (fun _ h => (aw_bind aw_t (fun _ h => (aw_bind aw_t (fun _ h => (aw_bind aw_t (fun _ h => (aw_bind (fM_wordPrefix (hW.of (by decide)) (by assumption)) (fun _ h => (aw_bind aw_t (fun _ h => (aw_if (fM_sayListEntry_b94 (hW.of (by decide)) (by assumption)) (aw_bind (fM_word (hW.of (by decide)) (by assumption)) (fun _ h => (aw_bind aw_t (fun _ h => (aw_bind (fM_wordNumber (hW.of (by decide)) (by assumption)) (fun _ h => (fM_sayListEntry_b94 (hW.of (by decide)) (by assumption)))))))))))))))))))))))
def wM_sayListEntry : List Nat := [7, 8, 16]
theorem fM_sayListEntry {W : List Nat} {t0 : moS} {t : moS} {p1 : Int32} {p2 : Int32} (hW : sbs wM_sayListEntry W) (h : mfr W t0 t) : aw (M_sayListEntry t p1 p2) (mfr W t0) := by
  unfold M_sayListEntry
  exact (aw_bind (fM_sayName (hW.of (by decide)) (by assumption)) (fun _ h => (aw_bind aw_t (fun _ h => (aw_bind (fM_word (hW.of (by decide)) (by assumption)) (fun _ h => (aw_bind aw_t (fun _ h => (aw_if (fM_sayListEntry_b36 (hW.of (by decide)) (by assumption)) (fM_sayListEntry_b36 (hW.of (by decide)) (by assumption)))))))))))
def wM_begin : List Nat := [7, 8]
theorem fM_begin {W : List Nat} {t0 : moS} {t : moS} {p1 : Int64} {p3 : Int32} (hW : sbs wM_begin W) (h : mfr W t0 t) : aw (M_begin t p1 p3) (mfr W t0) := by
  unfold M_begin
  exact (aw_bind (fM_sayName (hW.of (by decide)) (by assumption)) (fun _ h => (aw_bind aw_t (fun _ h => (aw_bind (fM_word (hW.of (by decide)) (by assumption)) (fun _ h => (aw_some (by first | assumption | trivial | exact True.intro))))))))
def wM_beginAt : List Nat := [7, 8]
theorem fM_beginAt {W : List Nat} {t0 : moS} {t : moS} {p1 : Int64} {p3 : Int32} (hW : sbs wM_beginAt W) (h : mfr W t0 t) : aw (M_beginAt t p1 p3) (mfr W t0) := by
  unfold M_beginAt
  exact (aw_bind (fM_begin (hW.of (by decide)) (by assumption)) (fun _ h => (aw_bind aw_t (fun _ h => (aw_bind aw_t (fun _ h => (aw_bind (fM_word (hW.of (by decide)) (by assumption)) (fun _ h => (aw_some (by first | assumption | trivial | exact True.intro))))))))))
def wM_sayOptions_b88 : List Nat := [7, 8]
theorem fM_sayOptions_b88 {W : List Nat} {t0 : moS} {t : moS} {p1 : Int32} (hW : sbs wM_sayOptions_b88 W) (h : mfr W t0 t) : aw (M_sayOptions_b88 t p1) (mfr W t0) := by
  unfold M_sayOptions_b88
  exact (aw_bind aw_t (fun _ h => (aw_if (aw_some (by first | assumption | trivial | exact True.intro)) (aw_bind (fM_word (hW.of (by decide)) (by assumption)) (fun _ h => (aw_some (by first | assumption | trivial | exact True.intro)))))))
def wM_sayOptions_s57 : List Nat := [7, 8]
theorem fM_sayOptions_s57 {W : List Nat} {t0 : moS} {t : moS} {p1 : Int32} {a2 : Int32} (hW : sbs wM_sayOptions_s57 W) (h : mfr W t0 t) : aw (M_sayOptions_s57 t p1 a2) (Sum.elim (fun z => (mfr W t0) z.2) (mfr W t0)) := by
  unfold M_sayOptions_s57
  exact (aw_bind aw_t (fun _ h => (aw_if (aw_bind aw_t (fun _ h => (aw_bind (fM_say (hW.of (by decide)) (by assumption)) (fun _ h => (aw_some (by first | assumption | trivial | exact True.intro)))))) (aw_xo (fM_sayOptions_b88 (hW.of (by decide)) (by assumption))))))
def wM_sayOptions_b57 : List Nat := [7, 8]
theorem fM_sayOptions_b57 {W : List Nat} {t0 : moS} {t : moS} {p1 : Int32} {a2 : Int32} (hW : sbs wM_sayOptions_b57 W) (h : mfr W t0 t) : aw (M_sayOptions_b57 t p1 a2) (mfr W t0) := by
  unfold M_sayOptions_b57
  refine aw_lp (I := (fun z => (mfr W t0) z.2)) ?_ ?_
  · exact h
  · intro y hy
    exact (fM_sayOptions_s57 (hW.of (by decide)) hy)
def wM_sayOptions : List Nat := [7, 8]
theorem fM_sayOptions {W : List Nat} {t0 : moS} {t : moS} {p1 : Int32} (hW : sbs wM_sayOptions W) (h : mfr W t0 t) : aw (M_sayOptions t p1) (mfr W t0) := by
  unfold M_sayOptions
  exact (aw_bind (fM_word (hW.of (by decide)) (by assumption)) (fun _ h => (aw_bind aw_t (fun _ h => (aw_bind (fM_wordNumber (hW.of (by decide)) (by assumption)) (fun _ h => (aw_bind (fM_word (hW.of (by decide)) (by assumption)) (fun _ h => (aw_bind aw_t (fun _ h => (aw_bind (fM_word (hW.of (by decide)) (by assumption)) (fun _ h => (aw_bind aw_t (fun _ h => (aw_if (aw_bind (fM_word (hW.of (by decide)) (by assumption)) (fun _ h => (aw_bind (fM_space (hW.of (by decide)) (by assumption)) (fun _ h => (fM_sayOptions_b57 (hW.of (by decide)) (by assumption)))))) (fM_sayOptions_b88 (hW.of (by decide)) (by assumption)))))))))))))))))
def wM_sayJoins_b57 : List Nat := []
theorem fM_sayJoins_b57 {W : List Nat} {t0 : moS} {t : moS} {p1 : Int32} {a2 : Int32} {a3 : Int32} (hW : sbs wM_sayJoins_b57 W) (h : mfr W t0 t) : aw (M_sayJoins_b57 t p1 a2 a3) (Sum.elim (fun z => (fun z => (mfr W t0) z.2) z.2) (mfr W t0)) := by
  unfold M_sayJoins_b57
  exact (aw_some (by first | assumption | trivial | exact True.intro))
def wM_sayJoins_b49 : List Nat := [7, 8]
theorem fM_sayJoins_b49 {W : List Nat} {t0 : moS} {t : moS} {p1 : Int32} {a3 : Int32} (hW : sbs wM_sayJoins_b49 W) (h : mfr W t0 t) : aw (M_sayJoins_b49 t p1 a3) (Sum.elim (fun z => (fun z => (mfr W t0) z.2) z.2) (mfr W t0)) := by
  unfold M_sayJoins_b49
  exact (aw_bind (fM_say (hW.of (by decide)) (by assumption)) (fun _ h => (fM_sayJoins_b57 (hW.of (by decide)) (by assumption))))
def wM_sayJoins_s138 : List Nat := [7, 8]
theorem fM_sayJoins_s138 {W : List Nat} {t0 : moS} {t : moS} {p1 : Int32} {a3 : Int32} {a4 : Int32} (hW : sbs wM_sayJoins_s138 W) (h : mfr W t0 t) : aw (M_sayJoins_s138 t p1 a3 a4) (Sum.elim (fun z => (mfr W t0) z.2) (Sum.elim (fun z => (mfr W t0) z.2) (mfr W t0))) := by
  unfold M_sayJoins_s138
  exact (aw_bind aw_t (fun _ h => (aw_if (aw_bind aw_t (fun _ h => (aw_bind (fM_say (hW.of (by decide)) (by assumption)) (fun _ h => (aw_some (by first | assumption | trivial | exact True.intro)))))) (aw_xo (aw_bind aw_t (fun _ h => (aw_bind (fM_wordNumber (hW.of (by decide)) (by assumption)) (fun _ h => (aw_bind aw_t (fun _ h => (aw_bind (fM_wordNumber (hW.of (by decide)) (by assumption)) (fun _ h => (aw_bind (fM_say (hW.of (by decide)) (by assumption)) (fun _ h => (aw_some (by first | assumption | trivial | exact True.intro))))))))))))))))
def wM_sayJoins_b138 : List Nat := [7, 8]
theorem fM_sayJoins_b138 {W : List Nat} {t0 : moS} {t : moS} {p1 : Int32} {a3 : Int32} {a4 : Int32} (hW : sbs wM_sayJoins_b138 W) (h : mfr W t0 t) : aw (M_sayJoins_b138 t p1 a3 a4) (Sum.elim (fun z => (mfr W t0) z.2) (mfr W t0)) := by
  unfold M_sayJoins_b138
  refine aw_lp (I := (fun z => (mfr W t0) z.2)) ?_ ?_
  · exact h
  · intro y hy
    exact (fM_sayJoins_s138 (hW.of (by decide)) hy)
def wM_sayJoins_b128 : List Nat := [7, 8]
theorem fM_sayJoins_b128 {W : List Nat} {t0 : moS} {t : moS} {p1 : Int32} {a3 : Int32} {u1 : Int64} (hW : sbs wM_sayJoins_b128 W) (h : mfr W t0 t) : aw (M_sayJoins_b128 t p1 a3 u1) (Sum.elim (fun z => (mfr W t0) z.2) (mfr W t0)) := by
  unfold M_sayJoins_b128
  exact (aw_bind (fM_word (hW.of (by decide)) (by assumption)) (fun _ h => (aw_bind (fM_space (hW.of (by decide)) (by assumption)) (fun _ h => (fM_sayJoins_b138 (hW.of (by decide)) (by assumption))))))
def wM_sayJoins_s67 : List Nat := [7, 8]
theorem fM_sayJoins_s67 {W : List Nat} {t0 : moS} {t : moS} {p1 : Int32} {a3 : Int32} (hW : sbs wM_sayJoins_s67 W) (h : mfr W t0 t) : aw (M_sayJoins_s67 t p1 a3) (Sum.elim (fun z => (mfr W t0) z.2) (mfr W t0)) := by
  unfold M_sayJoins_s67
  exact (aw_bind aw_t (fun _ h => (aw_if (aw_bind aw_t (fun _ h => (aw_if (aw_bind (fM_beginAt (hW.of (by decide)) (by assumption)) (fun _ h => (aw_bind aw_t (fun _ h => (aw_bind (fM_wordNumber (hW.of (by decide)) (by assumption)) (fun _ h => (aw_bind aw_t (fun _ h => (aw_if (fM_sayJoins_b128 (hW.of (by decide)) (by assumption)) (fM_sayJoins_b128 (hW.of (by decide)) (by assumption))))))))))) (aw_xo (aw_some (by first | assumption | trivial | exact True.intro)))))) (aw_xo (aw_some (by first | assumption | trivial | exact True.intro))))))
def wM_sayJoins_b67 : List Nat := [7, 8]
theorem fM_sayJoins_b67 {W : List Nat} {t0 : moS} {t : moS} {p1 : Int32} {a3 : Int32} (hW : sbs wM_sayJoins_b67 W) (h : mfr W t0 t) : aw (M_sayJoins_b67 t p1 a3) (mfr W t0) := by
  unfold M_sayJoins_b67
  refine aw_lp (I := (fun z => (mfr W t0) z.2)) ?_ ?_
  · exact h
  · intro y hy
    exact (fM_sayJoins_s67 (hW.of (by decide)) hy)
def wM_sayJoins_s6 : List Nat := [7, 8, 16]
theorem fM_sayJoins_s6 {W : List Nat} {t0 : moS} {t : moS} {p1 : Int32} {a2 : Int32} {a3 : Int32} (hW : sbs wM_sayJoins_s6 W) (h : mfr W t0 t) : aw (M_sayJoins_s6 t p1 a2 a3) (Sum.elim (fun z => (fun z => (mfr W t0) z.2) z.2) (mfr W t0)) := by
  unfold M_sayJoins_s6
  exact (aw_if (aw_bind aw_t (fun _ h => (aw_if (fM_sayJoins_b57 (hW.of (by decide)) (by assumption)) (aw_bind (fM_beginAt (hW.of (by decide)) (by assumption)) (fun _ h => (aw_bind (fM_sayOwn (hW.of (by decide)) (by assumption)) (fun _ h => (aw_if (fM_sayJoins_b49 (hW.of (by decide)) (by assumption)) (aw_bind (fM_sayOptions (hW.of (by decide)) (by assumption)) (fun _ h => (fM_sayJoins_b49 (hW.of (by decide)) (by assumption)))))))))))) (aw_xo (fM_sayJoins_b67 (hW.of (by decide)) (by assumption))))
def wM_sayJoins_b6 : List Nat := [7, 8, 16]
theorem fM_sayJoins_b6 {W : List Nat} {t0 : moS} {t : moS} {p1 : Int32} {a2 : Int32} {a3 : Int32} (hW : sbs wM_sayJoins_b6 W) (h : mfr W t0 t) : aw (M_sayJoins_b6 t p1 a2 a3) (mfr W t0) := by
  unfold M_sayJoins_b6
  refine aw_lp (I := (fun z => (fun z => (mfr W t0) z.2) z.2)) ?_ ?_
  · exact h
  · intro y hy
    exact (fM_sayJoins_s6 (hW.of (by decide)) hy)
def wM_sayJoins : List Nat := [7, 8, 16]
theorem fM_sayJoins {W : List Nat} {t0 : moS} {t : moS} {p1 : Int32} (hW : sbs wM_sayJoins W) (h : mfr W t0 t) : aw (M_sayJoins t p1) (mfr W t0) := by
  unfold M_sayJoins
  exact (fM_sayJoins_b6 (hW.of (by decide)) (by assumption))
def wM_sayStatics_s17 : List Nat := [7, 8, 16]
theorem fM_sayStatics_s17 {W : List Nat} {t0 : moS} {t : moS} {p1 : Int32} {a2 : Int32} {a3 : Int32} (hW : sbs wM_sayStatics_s17 W) (h : mfr W t0 t) : aw (M_sayStatics_s17 t p1 a2 a3) (Sum.elim (fun z => (mfr W t0) z.2) (Sum.elim (fun z => (mfr W t0) z.2) (mfr W t0))) := by
  unfold M_sayStatics_s17
  exact (aw_bind aw_t (fun _ h => (aw_if (aw_xo (aw_bind (fM_begin (hW.of (by decide)) (by assumption)) (fun _ h => (aw_bind aw_t (fun _ h => (aw_bind aw_t (fun _ h => (aw_bind aw_t (fun _ h => (aw_bind aw_t (fun _ h => (aw_bind (fM_wordPrefix (hW.of (by decide)) (by assumption)) (fun _ h => (aw_bind aw_t (fun _ h => (aw_bind (fM_wordNumber (hW.of (by decide)) (by assumption)) (fun _ h => (aw_bind (fM_word (hW.of (by decide)) (by assumption)) (fun _ h => (aw_bind aw_t (fun _ h => (aw_bind (fM_wordNumber (hW.of (by decide)) (by assumption)) (fun _ h => (aw_bind (fM_say (hW.of (by decide)) (by assumption)) (fun _ h => (aw_some (by first | assumption | trivial | exact True.intro))))))))))))))))))))))))))) (aw_some (by first | assumption | trivial | exact True.intro)))))
def wM_sayStatics_b17 : List Nat := [7, 8, 16]
theorem fM_sayStatics_b17 {W : List Nat} {t0 : moS} {t : moS} {p1 : Int32} {a2 : Int32} {a3 : Int32} (hW : sbs wM_sayStatics_b17 W) (h : mfr W t0 t) : aw (M_sayStatics_b17 t p1 a2 a3) (Sum.elim (fun z => (mfr W t0) z.2) (mfr W t0)) := by
  unfold M_sayStatics_b17
  refine aw_lp (I := (fun z => (mfr W t0) z.2)) ?_ ?_
  · exact h
  · intro y hy
    exact (fM_sayStatics_s17 (hW.of (by decide)) hy)
def wM_sayStatics_s2 : List Nat := [7, 8, 16]
theorem fM_sayStatics_s2 {W : List Nat} {t0 : moS} {t : moS} {p1 : Int32} {a2 : Int32} (hW : sbs wM_sayStatics_s2 W) (h : mfr W t0 t) : aw (M_sayStatics_s2 t p1 a2) (Sum.elim (fun z => (mfr W t0) z.2) (mfr W t0)) := by
  unfold M_sayStatics_s2
  exact (aw_bind aw_t (fun _ h => (aw_if (fM_sayStatics_b17 (hW.of (by decide)) (by assumption)) (aw_xo (aw_some (by first | assumption | trivial | exact True.intro))))))
def wM_sayStatics_b2 : List Nat := [7, 8, 16]
theorem fM_sayStatics_b2 {W : List Nat} {t0 : moS} {t : moS} {p1 : Int32} {a2 : Int32} (hW : sbs wM_sayStatics_b2 W) (h : mfr W t0 t) : aw (M_sayStatics_b2 t p1 a2) (mfr W t0) := by
  unfold M_sayStatics_b2
  refine aw_lp (I := (fun z => (mfr W t0) z.2)) ?_ ?_
  · exact h
  · intro y hy
    exact (fM_sayStatics_s2 (hW.of (by decide)) hy)
def wM_sayStatics : List Nat := [7, 8, 16]
theorem fM_sayStatics {W : List Nat} {t0 : moS} {t : moS} {p1 : Int32} (hW : sbs wM_sayStatics W) (h : mfr W t0 t) : aw (M_sayStatics t p1) (mfr W t0) := by
  unfold M_sayStatics
  exact (fM_sayStatics_b2 (hW.of (by decide)) (by assumption))
def wM_sayFilters_b125 : List Nat := []
theorem fM_sayFilters_b125 {W : List Nat} {t0 : moS} {t : moS} {p1 : Int32} {a2 : Int32} (hW : sbs wM_sayFilters_b125 W) (h : mfr W t0 t) : aw (M_sayFilters_b125 t p1 a2) (Sum.elim (fun z => (mfr W t0) z.2) (mfr W t0)) := by
  unfold M_sayFilters_b125
  exact (aw_some (by first | assumption | trivial | exact True.intro))
def wM_sayFilters_b116 : List Nat := [7, 8]
theorem fM_sayFilters_b116 {W : List Nat} {t0 : moS} {t : moS} {p1 : Int32} {a2 : Int32} {u1 : Int64} (hW : sbs wM_sayFilters_b116 W) (h : mfr W t0 t) : aw (M_sayFilters_b116 t p1 a2 u1) (Sum.elim (fun z => (mfr W t0) z.2) (mfr W t0)) := by
  unfold M_sayFilters_b116
  exact (aw_bind (fM_word (hW.of (by decide)) (by assumption)) (fun _ h => (aw_bind (fM_say (hW.of (by decide)) (by assumption)) (fun _ h => (fM_sayFilters_b125 (hW.of (by decide)) (by assumption))))))
def wM_sayFilters_b66 : List Nat := [7, 8, 16]
theorem fM_sayFilters_b66 {W : List Nat} {t0 : moS} {t : moS} {p1 : Int32} {a2 : Int32} {u1 : Int64} (hW : sbs wM_sayFilters_b66 W) (h : mfr W t0 t) : aw (M_sayFilters_b66 t p1 a2 u1) (Sum.elim (fun z => (mfr W t0) z.2) (mfr W t0)) := by
  unfold M_sayFilters_b66
  exact (aw_bind (fM_word (hW.of (by decide)) (by assumption)) (fun _ h => (aw_bind aw_t (fun _ h => (aw_bind aw_t (fun _ h => (aw_bind aw_t (fun _ h => (aw_bind aw_t (fun _ h => (aw_bind (fM_wordPrefix (hW.of (by decide)) (by assumption)) (fun _ h => (aw_bind aw_t (fun _ h => (aw_if (fM_sayFilters_b116 (hW.of (by decide)) (by assumption)) (fM_sayFilters_b116 (hW.of (by decide)) (by assumption)))))))))))))))))
def wM_sayFilters_s5 : List Nat := [7, 8, 16]
theorem fM_sayFilters_s5 {W : List Nat} {t0 : moS} {t : moS} {p1 : Int32} {a2 : Int32} (hW : sbs wM_sayFilters_s5 W) (h : mfr W t0 t) : aw (M_sayFilters_s5 t p1 a2) (Sum.elim (fun z => (mfr W t0) z.2) (mfr W t0)) := by
  unfold M_sayFilters_s5
  exact (aw_if (aw_bind aw_t (fun _ h => (aw_if (aw_bind (fM_begin (hW.of (by decide)) (by assumption)) (fun _ h => (aw_if (fM_sayFilters_b66 (hW.of (by decide)) (by assumption)) (fM_sayFilters_b66 (hW.of (by decide)) (by assumption))))) (fM_sayFilters_b125 (hW.of (by decide)) (by assumption))))) (aw_xo (aw_some (by first | assumption | trivial | exact True.intro))))
def wM_sayFilters_b5 : List Nat := [7, 8, 16]
theorem fM_sayFilters_b5 {W : List Nat} {t0 : moS} {t : moS} {p1 : Int32} {a2 : Int32} (hW : sbs wM_sayFilters_b5 W) (h : mfr W t0 t) : aw (M_sayFilters_b5 t p1 a2) (mfr W t0) := by
  unfold M_sayFilters_b5
  refine aw_lp (I := (fun z => (mfr W t0) z.2)) ?_ ?_
  · exact h
  · intro y hy
    exact (fM_sayFilters_s5 (hW.of (by decide)) hy)
def wM_sayFilters : List Nat := [7, 8, 16]
theorem fM_sayFilters {W : List Nat} {t0 : moS} {t : moS} {p1 : Int32} (hW : sbs wM_sayFilters W) (h : mfr W t0 t) : aw (M_sayFilters t p1) (mfr W t0) := by
  unfold M_sayFilters
  exact (fM_sayFilters_b5 (hW.of (by decide)) (by assumption))
def wM_sayLists_b78 : List Nat := [7, 8]
theorem fM_sayLists_b78 {W : List Nat} {t0 : moS} {t : moS} {p1 : Int32} {a2 : Int32} {u1 : Int64} (hW : sbs wM_sayLists_b78 W) (h : mfr W t0 t) : aw (M_sayLists_b78 t p1 a2 u1) (Sum.elim (fun z => (mfr W t0) z.2) (mfr W t0)) := by
  unfold M_sayLists_b78
  exact (aw_bind (fM_word (hW.of (by decide)) (by assumption)) (fun _ h => (aw_bind aw_t (fun _ h => (aw_bind aw_t (fun _ h => (aw_bind (fM_word (hW.of (by decide)) (by assumption)) (fun _ h => (aw_bind (fM_say (hW.of (by decide)) (by assumption)) (fun _ h => (aw_some (by first | assumption | trivial | exact True.intro))))))))))))
def wM_sayLists_b47 : List Nat := [7, 8]
theorem fM_sayLists_b47 {W : List Nat} {t0 : moS} {t : moS} {p1 : Int32} {a2 : Int32} {u1 : Int64} (hW : sbs wM_sayLists_b47 W) (h : mfr W t0 t) : aw (M_sayLists_b47 t p1 a2 u1) (Sum.elim (fun z => (mfr W t0) z.2) (mfr W t0)) := by
  unfold M_sayLists_b47
  exact (aw_bind (fM_word (hW.of (by decide)) (by assumption)) (fun _ h => (aw_bind aw_t (fun _ h => (aw_if (fM_sayLists_b78 (hW.of (by decide)) (by assumption)) (aw_bind aw_t (fun _ h => (aw_bind aw_t (fun _ h => (fM_sayLists_b78 (hW.of (by decide)) (by assumption)))))))))))
def wM_sayLists_b186 : List Nat := [7, 8]
theorem fM_sayLists_b186 {W : List Nat} {t0 : moS} {t : moS} {p1 : Int32} {a2 : Int32} {u1 : Int64} (hW : sbs wM_sayLists_b186 W) (h : mfr W t0 t) : aw (M_sayLists_b186 t p1 a2 u1) (Sum.elim (fun z => (mfr W t0) z.2) (mfr W t0)) := by
  unfold M_sayLists_b186
  exact (aw_bind (fM_word (hW.of (by decide)) (by assumption)) (fun _ h => (aw_bind aw_t (fun _ h => (aw_bind aw_t (fun _ h => (aw_bind (fM_word (hW.of (by decide)) (by assumption)) (fun _ h => (aw_bind aw_t (fun _ h => (aw_bind (fM_wordNumber (hW.of (by decide)) (by assumption)) (fun _ h => (aw_bind (fM_say (hW.of (by decide)) (by assumption)) (fun _ h => (aw_some (by first | assumption | trivial | exact True.intro))))))))))))))))
def wM_sayLists_b155 : List Nat := [7, 8]
theorem fM_sayLists_b155 {W : List Nat} {t0 : moS} {t : moS} {p1 : Int32} {a2 : Int32} {u1 : Int64} (hW : sbs wM_sayLists_b155 W) (h : mfr W t0 t) : aw (M_sayLists_b155 t p1 a2 u1) (Sum.elim (fun z => (mfr W t0) z.2) (mfr W t0)) := by
  unfold M_sayLists_b155
  exact (aw_bind (fM_word (hW.of (by decide)) (by assumption)) (fun _ h => (aw_bind aw_t (fun _ h => (aw_if (fM_sayLists_b186 (hW.of (by decide)) (by assumption)) (aw_bind aw_t (fun _ h => (aw_bind aw_t (fun _ h => (fM_sayLists_b186 (hW.of (by decide)) (by assumption)))))))))))
def wM_sayLists_s113 : List Nat := [7, 8]
theorem fM_sayLists_s113 {W : List Nat} {t0 : moS} {t : moS} {p1 : Int32} {a2 : Int32} (hW : sbs wM_sayLists_s113 W) (h : mfr W t0 t) : aw (M_sayLists_s113 t p1 a2) (Sum.elim (fun z => (mfr W t0) z.2) (mfr W t0)) := by
  unfold M_sayLists_s113
  exact (aw_bind aw_t (fun _ h => (aw_if (aw_bind (fM_begin (hW.of (by decide)) (by assumption)) (fun _ h => (aw_bind aw_t (fun _ h => (aw_if (fM_sayLists_b155 (hW.of (by decide)) (by assumption)) (fM_sayLists_b155 (hW.of (by decide)) (by assumption))))))) (aw_xo (aw_some (by first | assumption | trivial | exact True.intro))))))
def wM_sayLists_b113 : List Nat := [7, 8]
theorem fM_sayLists_b113 {W : List Nat} {t0 : moS} {t : moS} {p1 : Int32} {a2 : Int32} (hW : sbs wM_sayLists_b113 W) (h : mfr W t0 t) : aw (M_sayLists_b113 t p1 a2) (mfr W t0) := by
  unfold M_sayLists_b113
  refine aw_lp (I := (fun z => (mfr W t0) z.2)) ?_ ?_
  · exact h
  · intro y hy
    exact (fM_sayLists_s113 (hW.of (by decide)) hy)
def wM_sayLists_s5 : List Nat := [7, 8]
theorem fM_sayLists_s5 {W : List Nat} {t0 : moS} {t : moS} {p1 : Int32} {a2 : Int32} (hW : sbs wM_sayLists_s5 W) (h : mfr W t0 t) : aw (M_sayLists_s5 t p1 a2) (Sum.elim (fun z => (mfr W t0) z.2) (mfr W t0)) := by
  unfold M_sayLists_s5
  exact (aw_bind aw_t (fun _ h => (aw_if (aw_bind (fM_begin (hW.of (by decide)) (by assumption)) (fun _ h => (aw_bind aw_t (fun _ h => (aw_if (fM_sayLists_b47 (hW.of (by decide)) (by assumption)) (fM_sayLists_b47 (hW.of (by decide)) (by assumption))))))) (aw_xo (fM_sayLists_b113 (hW.of (by decide)) (by assumption))))))
def wM_sayLists_b5 : List Nat := [7, 8]
theorem fM_sayLists_b5 {W : List Nat} {t0 : moS} {t : moS} {p1 : Int32} {a2 : Int32} (hW : sbs wM_sayLists_b5 W) (h : mfr W t0 t) : aw (M_sayLists_b5 t p1 a2) (mfr W t0) := by
  unfold M_sayLists_b5
  refine aw_lp (I := (fun z => (mfr W t0) z.2)) ?_ ?_
  · exact h
  · intro y hy
    exact (fM_sayLists_s5 (hW.of (by decide)) hy)
def wM_sayLists : List Nat := [7, 8]
theorem fM_sayLists {W : List Nat} {t0 : moS} {t : moS} {p1 : Int32} (hW : sbs wM_sayLists W) (h : mfr W t0 t) : aw (M_sayLists t p1) (mfr W t0) := by
  unfold M_sayLists
  exact (fM_sayLists_b5 (hW.of (by decide)) (by assumption))
def wM_saySummaries_b174 : List Nat := [7, 8]
theorem fM_saySummaries_b174 {W : List Nat} {t0 : moS} {t : moS} (hW : sbs wM_saySummaries_b174 W) (h : mfr W t0 t) : aw (M_saySummaries_b174 t) (mfr W t0) := by
  unfold M_saySummaries_b174
  exact (aw_bind (fM_say (hW.of (by decide)) (by assumption)) (fun _ h => (aw_some (by first | assumption | trivial | exact True.intro))))
def wM_saySummaries_s70 : List Nat := [7, 8, 16]
theorem fM_saySummaries_s70 {W : List Nat} {t0 : moS} {t : moS} {p1 : Int32} {a2 : Int32} (hW : sbs wM_saySummaries_s70 W) (h : mfr W t0 t) : aw (M_saySummaries_s70 t p1 a2) (Sum.elim (fun z => (mfr W t0) z.2) (mfr W t0)) := by
  unfold M_saySummaries_s70
  exact (aw_bind aw_t (fun _ h => (aw_if (aw_bind (fM_beginAt (hW.of (by decide)) (by assumption)) (fun _ h => (aw_bind (fM_space (hW.of (by decide)) (by assumption)) (fun _ h => (aw_bind aw_t (fun _ h => (aw_bind aw_t (fun _ h => (aw_bind aw_t (fun _ h => (aw_bind (fM_sayAddress (hW.of (by decide)) (by assumption)) (fun _ h => (aw_bind (fM_say (hW.of (by decide)) (by assumption)) (fun _ h => (aw_some (by first | assumption | trivial | exact True.intro)))))))))))))))) (aw_xo (aw_bind aw_t (fun _ h => (aw_if (aw_some (by first | assumption | trivial | exact True.intro)) (aw_bind (fM_beginAt (hW.of (by decide)) (by assumption)) (fun _ h => (aw_bind aw_t (fun _ h => (aw_bind (fM_wordNumber (hW.of (by decide)) (by assumption)) (fun _ h => (aw_bind aw_t (fun _ h => (aw_if (fM_saySummaries_b174 (hW.of (by decide)) (by assumption)) (aw_bind (fM_word (hW.of (by decide)) (by assumption)) (fun _ h => (fM_saySummaries_b174 (hW.of (by decide)) (by assumption))))))))))))))))))))
def wM_saySummaries_b70 : List Nat := [7, 8, 16]
theorem fM_saySummaries_b70 {W : List Nat} {t0 : moS} {t : moS} {p1 : Int32} {a2 : Int32} (hW : sbs wM_saySummaries_b70 W) (h : mfr W t0 t) : aw (M_saySummaries_b70 t p1 a2) (mfr W t0) := by
  unfold M_saySummaries_b70
  refine aw_lp (I := (fun z => (mfr W t0) z.2)) ?_ ?_
  · exact h
  · intro y hy
    exact (fM_saySummaries_s70 (hW.of (by decide)) hy)
def wM_saySummaries_s4 : List Nat := [7, 8, 16]
theorem fM_saySummaries_s4 {W : List Nat} {t0 : moS} {t : moS} {p1 : Int32} {a2 : Int32} (hW : sbs wM_saySummaries_s4 W) (h : mfr W t0 t) : aw (M_saySummaries_s4 t p1 a2) (Sum.elim (fun z => (mfr W t0) z.2) (mfr W t0)) := by
  unfold M_saySummaries_s4
  exact (aw_bind aw_t (fun _ h => (aw_if (aw_bind (fM_beginAt (hW.of (by decide)) (by assumption)) (fun _ h => (aw_bind aw_t (fun _ h => (aw_bind aw_t (fun _ h => (aw_bind aw_t (fun _ h => (aw_bind aw_t (fun _ h => (aw_bind (fM_wordPrefix (hW.of (by decide)) (by assumption)) (fun _ h => (aw_bind (fM_say (hW.of (by decide)) (by assumption)) (fun _ h => (aw_some (by first | assumption | trivial | exact True.intro)))))))))))))))) (aw_xo (fM_saySummaries_b70 (hW.of (by decide)) (by assumption))))))
def wM_saySummaries_b4 : List Nat := [7, 8, 16]
theorem fM_saySummaries_b4 {W : List Nat} {t0 : moS} {t : moS} {p1 : Int32} {a2 : Int32} (hW : sbs wM_saySummaries_b4 W) (h : mfr W t0 t) : aw (M_saySummaries_b4 t p1 a2) (mfr W t0) := by
  unfold M_saySummaries_b4
  refine aw_lp (I := (fun z => (mfr W t0) z.2)) ?_ ?_
  · exact h
  · intro y hy
    exact (fM_saySummaries_s4 (hW.of (by decide)) hy)
def wM_saySummaries : List Nat := [7, 8, 16]
theorem fM_saySummaries {W : List Nat} {t0 : moS} {t : moS} {p1 : Int32} (hW : sbs wM_saySummaries W) (h : mfr W t0 t) : aw (M_saySummaries t p1) (mfr W t0) := by
  unfold M_saySummaries
  exact (fM_saySummaries_b4 (hW.of (by decide)) (by assumption))
def wM_sayRedistributed_b119 : List Nat := [7, 8]
theorem fM_sayRedistributed_b119 {W : List Nat} {t0 : moS} {t : moS} (hW : sbs wM_sayRedistributed_b119 W) (h : mfr W t0 t) : aw (M_sayRedistributed_b119 t) (mfr W t0) := by
  unfold M_sayRedistributed_b119
  exact (aw_bind (fM_say (hW.of (by decide)) (by assumption)) (fun _ h => (aw_some (by first | assumption | trivial | exact True.intro))))
def wM_sayRedistributed_b92 : List Nat := [7, 8]
theorem fM_sayRedistributed_b92 {W : List Nat} {t0 : moS} {t : moS} {p2 : Int32} (hW : sbs wM_sayRedistributed_b92 W) (h : mfr W t0 t) : aw (M_sayRedistributed_b92 t p2) (mfr W t0) := by
  unfold M_sayRedistributed_b92
  exact (aw_bind aw_t (fun _ h => (aw_if (fM_sayRedistributed_b119 (hW.of (by decide)) (by assumption)) (aw_bind (fM_word (hW.of (by decide)) (by assumption)) (fun _ h => (aw_bind aw_t (fun _ h => (aw_bind (fM_wordNumber (hW.of (by decide)) (by assumption)) (fun _ h => (fM_sayRedistributed_b119 (hW.of (by decide)) (by assumption)))))))))))
def wM_sayRedistributed_b89 : List Nat := [7, 8]
theorem fM_sayRedistributed_b89 {W : List Nat} {t0 : moS} {t : moS} {p2 : Int32} {u1 : Int64} (hW : sbs wM_sayRedistributed_b89 W) (h : mfr W t0 t) : aw (M_sayRedistributed_b89 t p2 u1) (mfr W t0) := by
  unfold M_sayRedistributed_b89
  exact (aw_bind (fM_word (hW.of (by decide)) (by assumption)) (fun _ h => (fM_sayRedistributed_b92 (hW.of (by decide)) (by assumption))))
def wM_sayRedistributed_b45 : List Nat := [7, 8]
theorem fM_sayRedistributed_b45 {W : List Nat} {t0 : moS} {t : moS} {p2 : Int32} {u1 : Int64} (hW : sbs wM_sayRedistributed_b45 W) (h : mfr W t0 t) : aw (M_sayRedistributed_b45 t p2 u1) (mfr W t0) := by
  unfold M_sayRedistributed_b45
  exact (aw_bind (fM_word (hW.of (by decide)) (by assumption)) (fun _ h => (aw_bind aw_t (fun _ h => (aw_if (aw_bind aw_t (fun _ h => (aw_bind (fM_wordNumber (hW.of (by decide)) (by assumption)) (fun _ h => (fM_sayRedistributed_b92 (hW.of (by decide)) (by assumption)))))) (aw_bind aw_t (fun _ h => (aw_if (fM_sayRedistributed_b89 (hW.of (by decide)) (by assumption)) (fM_sayRedistributed_b89 (hW.of (by decide)) (by assumption))))))))))
def wM_sayRedistributed_b21 : List Nat := [7, 8]
theorem fM_sayRedistributed_b21 {W : List Nat} {t0 : moS} {t : moS} {p1 : Int32} {p2 : Int32} (hW : sbs wM_sayRedistributed_b21 W) (h : mfr W t0 t) : aw (M_sayRedistributed_b21 t p1 p2) (mfr W t0) := by
  unfold M_sayRedistributed_b21
  exact (aw_bind (fM_begin (hW.of (by decide)) (by assumption)) (fun _ h => (aw_if (fM_sayRedistributed_b45 (hW.of (by decide)) (by assumption)) (fM_sayRedistributed_b45 (hW.of (by decide)) (by assumption)))))
def wM_sayRedistributed : List Nat := [7, 8]
theorem fM_sayRedistributed {W : List Nat} {t0 : moS} {t : moS} {p1 : Int32} {p2 : Int32} (hW : sbs wM_sayRedistributed W) (h : mfr W t0 t) : aw (M_sayRedistributed t p1 p2) (mfr W t0) := by
  unfold M_sayRedistributed
  exact (aw_bind aw_t (fun _ h => (aw_if (aw_bind aw_t (fun _ h => (aw_if (aw_some (by first | assumption | trivial | exact True.intro)) (fM_sayRedistributed_b21 (hW.of (by decide)) (by assumption))))) (fM_sayRedistributed_b21 (hW.of (by decide)) (by assumption)))))
def wM_sayRouter_s106 : List Nat := [7, 8, 16]
theorem fM_sayRouter_s106 {W : List Nat} {t0 : moS} {t : moS} {p1 : Int32} {a2 : Int32} (hW : sbs wM_sayRouter_s106 W) (h : mfr W t0 t) : aw (M_sayRouter_s106 t p1 a2) (Sum.elim (fun z => (mfr W t0) z.2) (mfr W t0)) := by
  unfold M_sayRouter_s106
  exact (aw_bind aw_t (fun _ h => (aw_if (aw_bind (fM_saySummaries (hW.of (by decide)) (by assumption)) (fun _ h => (aw_some (by first | assumption | trivial | exact True.intro)))) (aw_xo (aw_bind (fM_sayRedistributed (hW.of (by decide)) (by assumption)) (fun _ h => (aw_bind (fM_sayRedistributed (hW.of (by decide)) (by assumption)) (fun _ h => (aw_some (by first | assumption | trivial | exact True.intro))))))))))
def wM_sayRouter_b106 : List Nat := [7, 8, 16]
theorem fM_sayRouter_b106 {W : List Nat} {t0 : moS} {t : moS} {p1 : Int32} {a2 : Int32} (hW : sbs wM_sayRouter_b106 W) (h : mfr W t0 t) : aw (M_sayRouter_b106 t p1 a2) (mfr W t0) := by
  unfold M_sayRouter_b106
  refine aw_lp (I := (fun z => (mfr W t0) z.2)) ?_ ?_
  · exact h
  · intro y hy
    exact (fM_sayRouter_s106 (hW.of (by decide)) hy)
def wM_sayRouter_s62 : List Nat := [7, 8, 16]
theorem fM_sayRouter_s62 {W : List Nat} {t0 : moS} {t : moS} {p1 : Int32} {a2 : Int32} (hW : sbs wM_sayRouter_s62 W) (h : mfr W t0 t) : aw (M_sayRouter_s62 t p1 a2) (Sum.elim (fun z => (mfr W t0) z.2) (mfr W t0)) := by
  unfold M_sayRouter_s62
  exact (aw_bind aw_t (fun _ h => (aw_if (aw_bind (fM_sayJoins (hW.of (by decide)) (by assumption)) (fun _ h => (aw_some (by first | assumption | trivial | exact True.intro)))) (aw_xo (aw_bind (fM_sayStatics (hW.of (by decide)) (by assumption)) (fun _ h => (aw_bind (fM_sayFilters (hW.of (by decide)) (by assumption)) (fun _ h => (aw_bind (fM_sayLists (hW.of (by decide)) (by assumption)) (fun _ h => (fM_sayRouter_b106 (hW.of (by decide)) (by assumption))))))))))))
def wM_sayRouter_b62 : List Nat := [7, 8, 16]
theorem fM_sayRouter_b62 {W : List Nat} {t0 : moS} {t : moS} {p1 : Int32} {a2 : Int32} (hW : sbs wM_sayRouter_b62 W) (h : mfr W t0 t) : aw (M_sayRouter_b62 t p1 a2) (mfr W t0) := by
  unfold M_sayRouter_b62
  refine aw_lp (I := (fun z => (mfr W t0) z.2)) ?_ ?_
  · exact h
  · intro y hy
    exact (fM_sayRouter_s62 (hW.of (by decide)) hy)
def wM_sayRouter : List Nat := [7, 8, 16]
theorem fM_sayRouter {W : List Nat} {t0 : moS} {t : moS} {p1 : Int32} (hW : sbs wM_sayRouter W) (h : mfr W t0 t) : aw (M_sayRouter t p1) (mfr W t0) := by
  unfold M_sayRouter
  exact (aw_bind (fM_begin (hW.of (by decide)) (by assumption)) (fun _ h => (aw_bind (fM_say (hW.of (by decide)) (by assumption)) (fun _ h => (aw_bind (fM_begin (hW.of (by decide)) (by assumption)) (fun _ h => (aw_bind aw_t (fun _ h => (aw_bind (fM_wordNumber (hW.of (by decide)) (by assumption)) (fun _ h => (aw_bind aw_t (fun _ h => (aw_bind (fM_wordNumber (hW.of (by decide)) (by assumption)) (fun _ h => (aw_bind aw_t (fun _ h => (aw_bind (fM_wordNumber (hW.of (by decide)) (by assumption)) (fun _ h => (aw_bind (fM_say (hW.of (by decide)) (by assumption)) (fun _ h => (fM_sayRouter_b62 (hW.of (by decide)) (by assumption))))))))))))))))))))))
def wM_config_s46 : List Nat := [7, 8, 16]
theorem fM_config_s46 {W : List Nat} {t0 : moS} {t : moS} {a1 : Int32} {a2 : Int32} (hW : sbs wM_config_s46 W) (h : mfr W t0 t) : aw (M_config_s46 t a1 a2) (Sum.elim (fun z => (mfr W t0) z.2) (Sum.elim (fun z => (mfr W t0) z.2) (fun z => (mfr W t0) z.2))) := by
  unfold M_config_s46
  exact (aw_bind aw_t (fun _ h => (aw_if (aw_bind (fM_sayListEntry (hW.of (by decide)) (by assumption)) (fun _ h => (aw_some (by first | assumption | trivial | exact True.intro)))) (aw_xo (aw_some (by first | assumption | trivial | exact True.intro))))))
def wM_config_b46 : List Nat := [7, 8, 16]
theorem fM_config_b46 {W : List Nat} {t0 : moS} {t : moS} {a1 : Int32} {a2 : Int32} (hW : sbs wM_config_b46 W) (h : mfr W t0 t) : aw (M_config_b46 t a1 a2) (Sum.elim (fun z => (mfr W t0) z.2) (fun z => (mfr W t0) z.2)) := by
  unfold M_config_b46
  refine aw_lp (I := (fun z => (mfr W t0) z.2)) ?_ ?_
  · exact h
  · intro y hy
    exact (fM_config_s46 (hW.of (by decide)) hy)
def wM_config_s81 : List Nat := [5, 6, 7, 8, 16]
theorem fM_config_s81 {W : List Nat} {t0 : moS} {t : moS} {a1 : Int32} (hW : sbs wM_config_s81 W) (h : mfr W t0 t) : aw (M_config_s81 t a1) (Sum.elim (fun z => (mfr W t0) z.2) (fun z => (mfr W t0) z.2)) := by
  unfold M_config_s81
  exact (aw_if (aw_bind (fM_sayRouter (hW.of (by decide)) (by assumption)) (fun _ h => (aw_some (by first | assumption | trivial | exact True.intro)))) (aw_xo (aw_if (aw_some (by first | assumption | trivial | exact True.intro)) (aw_bn2 (fM_shown (hW.of (by decide)) (by assumption)) (fun _ _ h => (aw_some (by first | assumption | trivial | exact True.intro)))))))
def wM_config_b81 : List Nat := [5, 6, 7, 8, 16]
theorem fM_config_b81 {W : List Nat} {t0 : moS} {t : moS} {a1 : Int32} (hW : sbs wM_config_b81 W) (h : mfr W t0 t) : aw (M_config_b81 t a1) (fun z => (mfr W t0) z.2) := by
  unfold M_config_b81
  refine aw_lp (I := (fun z => (mfr W t0) z.2)) ?_ ?_
  · exact h
  · intro y hy
    exact (fM_config_s81 (hW.of (by decide)) hy)
def wM_config_s33 : List Nat := [5, 6, 7, 8, 16]
theorem fM_config_s33 {W : List Nat} {t0 : moS} {t : moS} {a1 : Int32} (hW : sbs wM_config_s33 W) (h : mfr W t0 t) : aw (M_config_s33 t a1) (Sum.elim (fun z => (mfr W t0) z.2) (fun z => (mfr W t0) z.2)) := by
  unfold M_config_s33
  exact (aw_if (fM_config_b46 (hW.of (by decide)) (by assumption)) (aw_xo (fM_config_b81 (hW.of (by decide)) (by assumption))))
def wM_config_b33 : List Nat := [5, 6, 7, 8, 16]
theorem fM_config_b33 {W : List Nat} {t0 : moS} {t : moS} {a1 : Int32} (hW : sbs wM_config_b33 W) (h : mfr W t0 t) : aw (M_config_b33 t a1) (fun z => (mfr W t0) z.2) := by
  unfold M_config_b33
  refine aw_lp (I := (fun z => (mfr W t0) z.2)) ?_ ?_
  · exact h
  · intro y hy
    exact (fM_config_s33 (hW.of (by decide)) hy)
def wM_config_s12 : List Nat := [5, 6, 7, 8, 16]
theorem fM_config_s12 {W : List Nat} {t0 : moS} {t : moS} {a1 : Int32} (hW : sbs wM_config_s12 W) (h : mfr W t0 t) : aw (M_config_s12 t a1) (Sum.elim (fun z => (mfr W t0) z.2) (fun z => (mfr W t0) z.2)) := by
  unfold M_config_s12
  exact (aw_if (aw_bind (fM_sayLink (hW.of (by decide)) (by assumption)) (fun _ h => (aw_some (by first | assumption | trivial | exact True.intro)))) (aw_xo (fM_config_b33 (hW.of (by decide)) (by assumption))))
def wM_config_b12 : List Nat := [5, 6, 7, 8, 16]
theorem fM_config_b12 {W : List Nat} {t0 : moS} {t : moS} {a1 : Int32} (hW : sbs wM_config_b12 W) (h : mfr W t0 t) : aw (M_config_b12 t a1) (fun z => (mfr W t0) z.2) := by
  unfold M_config_b12
  refine aw_lp (I := (fun z => (mfr W t0) z.2)) ?_ ?_
  · exact h
  · intro y hy
    exact (fM_config_s12 (hW.of (by decide)) hy)
def wM_config : List Nat := [0, 5, 6, 7, 8, 16]
theorem fM_config {W : List Nat} {t0 : moS} {t : moS} (hW : sbs wM_config W) (h : mfr W t0 t) : aw (M_config t) (fun z => (mfr W t0) z.2) := by
  unfold M_config
  exact (aw_let (mfr.tr (by assumption) (mfr.ss (hW.m (by decide)))) (fun _ h => (aw_let (mfr.tr (by assumption) (mfr.ss (hW.m (by decide)))) (fun _ h => (fM_config_b12 (hW.of (by decide)) (by assumption))))))
def wM_takeAddress : List Nat := [3, 12, 13, 14, 16]
theorem fM_takeAddress {W : List Nat} {t0 : moS} {t : moS} (hW : sbs wM_takeAddress W) (h : mfr W t0 t) : aw (M_takeAddress t) (fun z => (mfr W t0) z.2) := by
  unfold M_takeAddress
  exact (aw_let (mfr.tr (by assumption) (mfr.ss (hW.m (by decide)))) (fun _ h => (aw_bn2 (fM_readAddress (hW.of (by decide)) (by assumption)) (fun _ _ h => (aw_okZ (aw_some (by first | assumption | trivial | exact True.intro)))))))
def wM_oracle_b133 : List Nat := []
theorem fM_oracle_b133 {W : List Nat} {t0 : moS} {t : moS} {p1 : Int32} {a3 : Int32} {a4 : Int64} {a6 : Int64} {a8 : Int32} {a9 : Int32} (hW : sbs wM_oracle_b133 W) (h : mfr W t0 t) : aw (M_oracle_b133 t p1 a3 a4 a6 a8 a9) (Sum.elim (fun z => (mfr W t0) z.2) (fun z => (mfr W t0) z.2)) := by
  unfold M_oracle_b133
  exact (aw_some (by first | assumption | trivial | exact True.intro))
def wM_oracle_b290 : List Nat := []
theorem fM_oracle_b290 {W : List Nat} {t0 : moS} {t : moS} {p1 : Int32} {a3 : Int32} {a4 : Int64} {a6 : Int64} {a8 : Int32} {a9 : Int32} {a10 : Int32} {a13 : Int32} {u0 : Int64} (hW : sbs wM_oracle_b290 W) (h : mfr W t0 t) : aw (M_oracle_b290 t p1 a3 a4 a6 a8 a9 a10 a13 u0) (Sum.elim (fun z => (fun z => (mfr W t0) z.2) z.2) (Sum.elim (fun z => (fun z => (mfr W t0) z.2) z.2) (Sum.elim (fun z => (mfr W t0) z.2) (fun z => (mfr W t0) z.2)))) := by
  unfold M_oracle_b290
  exact (aw_some (by first | assumption | trivial | exact True.intro))
