/-! A route dies, whatever the next deadline is. -/
section Dc
variable {s : cS} {g a rr tm cnt x : Nat} {u u' v : Int32}
theorem cSI_ow : cSI (cSI s g a u) g a u' = cSI s g a u' := by
  refine cSI_ext rfl (funext fun k => funext fun b => ?_) rfl rfl rfl rfl
  rw [evI, evI, evI]
  by_cases c : k = g ∧ b = a
  · rw [if_pos c, if_pos c]
  · rw [if_neg c, if_neg c, if_neg c]
theorem dl_cm : cSI (dlS s rr a v) 199 rr (-2147483648) = dlS (cSI s 199 rr (-2147483648)) rr a v := by
  unfold dlS
  rw [cSI_s, if_neg lt_mn]
  split
  · rw [cSI_ow, cSI_cm (by decide)]
  · rw [cSI_cm (by decide)]
theorem mk_cm : cSI (mkS s rr cnt x a) 199 rr u = mkS (cSI s 199 rr u) rr cnt x a := by
  unfold mkS
  rw [show (cSI s 199 rr u).I 198 rr = s.I 198 rr from cSI_g (by decide), show (cSI s 199 rr u).I 225 x = s.I 225 x from cSI_g (by decide), show (cSI s 199 rr u).I 182 rr = s.I 182 rr from cSI_g (by decide)]
  have e : ∀ z : cS, cSE (cSI (cSI z 199 rr u) 167 a 1) cnt 7 (z.E cnt 7 + 1) = cSI (cSE (cSI z 167 a 1) cnt 7 (z.E cnt 7 + 1)) 199 rr u := fun z => by
    rw [cSI_cm (show 199 ≠ 167 by decide)]
    rfl
  have e2 : (cSI s 199 rr u).E = s.E := rfl
  rw [e2]
  split
  · rw [cSI_cm (show 198 ≠ 199 by decide), ← e s]
  · rw [← e s]
theorem die_cm : cSI (dieS s rr tm cnt x a) 199 rr (-2147483648) = dieS (cSI s 199 rr (-2147483648)) rr tm cnt x a := by
  unfold dieS
  rw [mk_cm, dl_cm, cSI_cm (show 164 ≠ 199 by decide), show (cSI s 199 rr (-2147483648)).I 225 x = s.I 225 x from cSI_g (by decide)]
  rfl
end Dc
