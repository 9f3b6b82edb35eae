/-! The tape is emptied. Links' rows, all together. -/
def plT (s : cS) (G H : Nat → Nat → Nat) (n : Nat) : Nat := sm (plC s G H) n
section Tc
variable {G H : Nat → Nat → Nat} {sa : Nat → Nat} {x kc ks : Nat} {s s' : cS} {t t' : moS}
theorem tp_clr (hR : RR G H sa x s t) (hM : MV t) : MV (clT t) ∧ RR G H sa x (cSI s 1 (H 220 x) 0) (clT t) ∧ fr [1] [] [] s (cSI s 1 (H 220 x) 0) := by
  obtain ⟨hq, ⟨cap, hc, hb⟩, -⟩ := hR.q
  have h220 := hq.ty.p hq.1.1 220 1
  have m : mfr [0, 2, 3] t (clT t) := (mfr.ss (by decide)).tr (mfr.ss (by decide))
  have f : fr [1, 101] [(0, 1)] [] s (cSI s 1 (H 220 x) 0) := fr.si (by rw [h220.2]; decide)
  have f1 : fr [1] [] [] s (cSI s 1 (H 220 x) 0) := fr.si (by rw [h220.2]; decide)
  have e3 : (clT t).S 3 = nI 0 := moSS_s
  refine ⟨hM.fr m rfl (hM.1.tp m e3 (by decide)), tp_end hR hM (hq.1.v rfl rfl f rfl rfl rfl) f m hc ?_, f1⟩
  obtain ⟨a1, a2, d, a3, a4, a5, a6, a7, a8, a9⟩ := hb
  rw [e3, show (nI 0).toNatClampNeg = 0 from rfl]
  exact ⟨a1, a2, d, a3, a4, cSI_s, Nat.zero_le _, a7, a8, fun i hi => absurd hi (Nat.not_lt_zero i)⟩
theorem c_clear {Q : cS → Nat → Nat → Prop} {b : Nat} (hb : okO s 0 b) (q : Q (cSI s 1 b 0) kc ks) : C_By_clear sa b s kc ks Q := by
  unfold C_By_clear
  exact ⟨_, gd_to hb, q⟩
/-- a prefix is read from bytes -/
def tkS (s : cS) (a f : Nat) (g : Nat → Int32) (i : Nat) : cS := cSJ (cSJ (cSI (cSI s 100 a (fam (nI f))) 103 a (if f = 0 then 32 else 128)) 101 a (hiF g i f)) 102 a (loF g i f)
theorem tk_s {a f i : Nat} {g : Nat → Int32} : PF (tkS s a f g i) a (fam (nI f)) (hiF g i f) (loF g i f) (if f = 0 then 32 else 128) := by
  refine ⟨?_, ?_, ?_, ?_⟩
  · show (cSI (cSI s 100 a (fam (nI f))) 103 a (if f = 0 then 32 else 128)).I 100 a = _
    rw [cSI_g (by decide), cSI_s]
  · show (cSJ (cSJ _ 101 a _) 102 a _).J 101 a = _
    rw [cSJ_g (by decide), cSJ_s]
  · exact cSJ_s
  · show (cSI (cSI s 100 a (fam (nI f))) 103 a (if f = 0 then 32 else 128)).I 103 a = _
    rw [cSI_s]
theorem tk_o {a f i e : Nat} {g : Nat → Int32} (ne : e ≠ a) : (∀ k, (tkS s a f g i).I k e = s.I k e) ∧ ∀ k, (tkS s a f g i).J k e = s.J k e := by
  refine ⟨fun k => ?_, fun k => ?_⟩
  · show (cSI (cSI s 100 a (fam (nI f))) 103 a (if f = 0 then 32 else 128)).I k e = _
    rw [cSI_o ne, cSI_o ne]
  · show (cSJ (cSJ _ 101 a _) 102 a _).J k e = _
    rw [cSJ_o ne, cSJ_o ne]; rfl
theorem c_take {Q : cS → Nat → Nat → Prop} {a f i b w cap : Nat} {l : List Int32} (ha : okO s 5 a) (hb : BL s b w l cap) (hne : b ≠ a) (hf : f = 0 ∨ f = 1) (hi : i + 16 < 2 ^ 31) (q : Q (tkS s a f (fun j => l.getD j 0) i) kc ks) : C_Pr_takeBytes sa a (some b) (nI i) (fam (nI f)) s kc ks Q := by
  have keep : ∀ {s' : cS}, s'.K = s.K → s'.P = s.P → s'.E = s.E → s'.I 1 b = s.I 1 b → BL s' b w l cap := fun {s'} hK hP hE hI => by
    obtain ⟨o, hw, d, b1, b2, b3, b4⟩ := hb
    refine ⟨by unfold okO at *; rw [hK]; exact o, hw, d, by rw [hP]; exact b1, by rw [hK]; exact b2, hI.trans b3, ?_⟩
    rw [hE]; exact b4
  unfold C_Pr_takeBytes
  refine ⟨_, gd_to ha, ?_⟩
  unfold C_Pr_bitsOf
  rcases hf with rfl | rfl
  · refine ifT rfl ⟨_, gd_to ha, ifT rfl ?_⟩
    have hb3 : BL (cSI (cSI s 100 a (fam (nI 0))) 103 a 32) b w l cap := keep rfl rfl rfl (by rw [cSI_o hne, cSI_o hne])
    exact ⟨b, rfl, hb3.1, w_numAt (n := 4) hb3 (by omega) ⟨_, gd_to ha, _, gd_to ha, q⟩⟩
  · refine ifF (by decide) ⟨_, gd_to ha, ifF (by decide) ?_⟩
    have hb3 : BL (cSI (cSI s 100 a (fam (nI 1))) 103 a 128) b w l cap := keep rfl rfl rfl (by rw [cSI_o hne, cSI_o hne])
    refine ⟨b, rfl, hb3.1, w_numAt (n := 8) hb3 (by omega) ⟨_, gd_to ha, ?_⟩⟩
    have hb4 : ∀ v, BL (cSJ (cSI (cSI s 100 a (fam (nI 1))) 103 a 128) 101 a v) b w l cap := fun v => keep rfl rfl rfl (by show (cSI (cSI s 100 a (fam (nI 1))) 103 a 128).I 1 b = _; rw [cSI_o hne, cSI_o hne])
    refine ⟨(hb4 _).1, ?_⟩
    rw [show nI i + 8 = nI (i + 8) from nI_add _ 8]
    exact w_numAt (n := 8) (hb4 _) (by omega) ⟨_, gd_to ha, q⟩
end Tc
