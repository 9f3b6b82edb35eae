/-! A row that begins: its values. -/
section Bg
variable {G H : Nat → Nat → Nat} {r w a b g p p1 p2 p3 : Nat} {s : cS} {tag metric F B n : Int32} {h l : Int64}
def bg1 (s : cS) (p1 p2 p3 : Nat) (F : Int32) (h l : Int64) (n B : Int32) : cS := cSpf (cSpf (cSpf s p1 F h l n) p2 F 0 0 B) p3 F 0 0 B
def bg2 (s : cS) (a : Nat) (tag metric : Int32) : cS := cSI (cSI (cSI (cSP (cSI s 163 a 2) 166 a none) 165 a tag) 164 a metric) 167 a 0
theorem bgS_e : bgS s a p p1 p2 p3 tag metric = bg2 (bg1 s p1 p2 p3 (s.I 100 p) (s.J 101 p) (s.J 102 p) (s.I 103 p) (bts (s.I 100 p))) a tag metric := rfl
theorem cJI {v : Int32} : (cSI s g a v).J = s.J := rfl
theorem cJP {v : Option Nat} : (cSP s g a v).J = s.J := rfl
theorem bg1_I : (bg1 s p1 p2 p3 F h l n B).I g b = if g = 103 ∧ b = p3 then B else if g = 100 ∧ b = p3 then F else if g = 103 ∧ b = p2 then B else if g = 100 ∧ b = p2 then F else if g = 103 ∧ b = p1 then n else if g = 100 ∧ b = p1 then F else s.I g b := by
  unfold bg1
  rw [evSI, evSI, evSI]
theorem bg1_J : (bg1 s p1 p2 p3 F h l n B).J g b = if g = 102 ∧ b = p3 then 0 else if g = 101 ∧ b = p3 then 0 else if g = 102 ∧ b = p2 then 0 else if g = 101 ∧ b = p2 then 0 else if g = 102 ∧ b = p1 then l else if g = 101 ∧ b = p1 then h else s.J g b := by
  unfold bg1
  rw [evSJ, evSJ, evSJ]
theorem bg2_I : (bg2 s a tag metric).I g b = if g = 167 ∧ b = a then 0 else if g = 164 ∧ b = a then metric else if g = 165 ∧ b = a then tag else if g = 163 ∧ b = a then 2 else s.I g b := by
  unfold bg2
  rw [evI, evI, evI, evIP, evI]
theorem bg2_J : (bg2 s a tag metric).J = s.J := by
  unfold bg2
  rw [cJI, cJI, cJI, cJP, cJI]
theorem bgI : (bgS s a p p1 p2 p3 tag metric).I g b = if g = 167 ∧ b = a then 0 else if g = 164 ∧ b = a then metric else if g = 165 ∧ b = a then tag else if g = 163 ∧ b = a then 2 else if g = 103 ∧ b = p3 then bts (s.I 100 p) else if g = 100 ∧ b = p3 then s.I 100 p else if g = 103 ∧ b = p2 then bts (s.I 100 p) else if g = 100 ∧ b = p2 then s.I 100 p else if g = 103 ∧ b = p1 then s.I 103 p else if g = 100 ∧ b = p1 then s.I 100 p else s.I g b := by
  rw [bgS_e, bg2_I, bg1_I]
theorem bgJ : (bgS s a p p1 p2 p3 tag metric).J g b = if g = 102 ∧ b = p3 then 0 else if g = 101 ∧ b = p3 then 0 else if g = 102 ∧ b = p2 then 0 else if g = 101 ∧ b = p2 then 0 else if g = 102 ∧ b = p1 then s.J 102 p else if g = 101 ∧ b = p1 then s.J 101 p else s.J g b := by
  rw [bgS_e, bg2_J, bg1_J]
theorem rwC.b1 : rwC G H r a w s (bg1 s (H 160 a) (H 161 a) (H 162 a) F h l n B) := by
  unfold bg1
  have c1 : rwC G H r a w s (cSpf s (H 160 a) F h l n) := rwC.pf (Or.inl rfl)
  generalize cSpf s (H 160 a) F h l n = s1 at c1 ⊢
  have c2 : rwC G H r a w s1 (cSpf s1 (H 161 a) F 0 0 B) := rwC.pf (Or.inr (Or.inl rfl))
  generalize cSpf s1 (H 161 a) F 0 0 B = s2 at c2 ⊢
  exact (c1.tr c2).tr (rwC.pf (Or.inr (Or.inr (Or.inl rfl))))
theorem rwC.b2 : rwC G H r a w s (bg2 s a tag metric) := by
  unfold bg2
  have c1 : rwC G H r a w s (cSI s 163 a 2) := rwC.i (Or.inr (Or.inl rfl))
  generalize cSI s 163 a 2 = s1 at c1 ⊢
  have c2 : rwC G H r a w s1 (cSP s1 166 a none) := rwC.p
  generalize cSP s1 166 a none = s2 at c2 ⊢
  have c3 : rwC G H r a w s2 (cSI s2 165 a tag) := rwC.i (Or.inr (Or.inl rfl))
  generalize cSI s2 165 a tag = s3 at c3 ⊢
  have c4 : rwC G H r a w s3 (cSI s3 164 a metric) := rwC.i (Or.inr (Or.inl rfl))
  generalize cSI s3 164 a metric = s4 at c4 ⊢
  exact (((c1.tr c2).tr c3).tr c4).tr (rwC.i (Or.inr (Or.inl rfl)))
theorem rwC.bg : rwC G H r a w s (bgS s a p (H 160 a) (H 161 a) (H 162 a) tag metric) := by
  rw [bgS_e]
  exact rwC.b1.tr rwC.b2
end Bg
