/-! What stays: states that differ at some addresses alone. -/
/-- at every address of ours but those of A nothing has changed -/
def cEx (s s' : cS) (A : Nat → Prop) : Prop := ∀ a, (s.K a).1 ≠ 0 → ¬ A a → s'.K a = s.K a ∧ (∀ g, s'.I g a = s.I g a) ∧ (∀ g, s'.J g a = s.J g a) ∧ (∀ g, s'.P g a = s.P g a) ∧ s'.E a = s.E a ∧ s'.Q a = s.Q a
section Ext
variable {s s' s1 s2 : cS} {A B : Nat → Prop}
theorem cEx.rf : cEx s s A := fun _ _ _ => ⟨rfl, fun _ => rfl, fun _ => rfl, fun _ => rfl, rfl, rfl⟩
theorem cEx.tr (h : cEx s s1 A) (g : cEx s1 s2 A) : cEx s s2 A := by
  intro a ha hA
  obtain ⟨a1, a2, a3, a4, a5, a6⟩ := h a ha hA
  obtain ⟨b1, b2, b3, b4, b5, b6⟩ := g a (by rw [a1]; exact ha) hA
  exact ⟨b1.trans a1, fun g => (b2 g).trans (a2 g), fun g => (b3 g).trans (a3 g), fun g => (b4 g).trans (a4 g), b5.trans a5, b6.trans a6⟩
theorem cEx.wk (h : cEx s s1 A) (hAB : ∀ a, A a → B a) : cEx s s1 B := fun a ha hb => h a ha (fun x => hb (hAB a x))
theorem cEx.si {g a : Nat} {v : Int32} (hA : A a) : cEx s (cSI s g a v) A := fun b _ hb => by
  have hba : b ≠ a := fun e => hb (e ▸ hA)
  refine ⟨rfl, fun g' => ?_, fun _ => rfl, fun _ => rfl, rfl, rfl⟩
  show (if g' = g then (if b = a then v else s.I g' b) else s.I g' b) = _
  rw [if_neg hba, ite_self]
theorem cEx.sj {g a : Nat} {v : Int64} (hA : A a) : cEx s (cSJ s g a v) A := fun b _ hb => by
  have hba : b ≠ a := fun e => hb (e ▸ hA)
  refine ⟨rfl, fun _ => rfl, fun g' => ?_, fun _ => rfl, rfl, rfl⟩
  show (if g' = g then (if b = a then v else s.J g' b) else s.J g' b) = _
  rw [if_neg hba, ite_self]
theorem cEx.sp {g a : Nat} {v : Option Nat} (hA : A a) : cEx s (cSP s g a v) A := fun b _ hb => by
  have hba : b ≠ a := fun e => hb (e ▸ hA)
  refine ⟨rfl, fun _ => rfl, fun _ => rfl, fun g' => ?_, rfl, rfl⟩
  show (if g' = g then (if b = a then v else s.P g' b) else s.P g' b) = _
  rw [if_neg hba, ite_self]
theorem cEx.se {a i : Nat} {v : Int32} (hA : A a) : cEx s (cSE s a i v) A := fun b _ hb => ⟨rfl, fun _ => rfl, fun _ => rfl, fun _ => rfl, cSE_a (fun e => hb (e ▸ hA)), rfl⟩
theorem cEx.sq {a i : Nat} {v : Option Nat} (hA : A a) : cEx s (cSQ s a i v) A := fun b _ hb => ⟨rfl, fun _ => rfl, fun _ => rfl, fun _ => rfl, rfl, cSQ_a (fun e => hb (e ▸ hA))⟩
theorem cEx.spf {x : Nat} {a1 a4 : Int32} {a2 a3 : Int64} (hA : A x) : cEx s (cSpf s x a1 a2 a3 a4) A := (((cEx.si hA).tr (cEx.sj hA)).tr (cEx.sj hA)).tr (cEx.si hA)
theorem cEx.nw {q : Nat} {t : Nat × Nat} (hq : (s.K q).1 = 0) : cEx s (cNw s q t) A := fun b hb _ => by
  have hbq : b ≠ q := fun e => hb (e ▸ hq)
  exact ⟨cNw_kn hbq, fun _ => cNw_in hbq, fun _ => cNw_jn hbq, fun _ => cNw_pn hbq, cNw_en hbq, cNw_qn hbq⟩
theorem cEx.sb {b d d' cap' n : Nat} {f : Nat → Int32} (h1 : A b) (h2 : A d) (h3 : d' = d ∨ (s.K d').1 = 0) : cEx s (cSb s b d d' cap' n f) A := fun a ha hA => by
  have e1 : a ≠ b := fun e => hA (e ▸ h1)
  have e2 : a ≠ d := fun e => hA (e ▸ h2)
  have e3 : a ≠ d' := by
    rcases h3 with h | h
    · exact fun e => e2 (e.trans h)
    · exact fun e => ha (e ▸ h)
  exact ⟨cSb_k e3 e2, fun _ => cSb_i e1, fun _ => rfl, fun _ => cSb_p e1, cSb_e e3, rfl⟩
theorem cEx.o (h : cEx s s' A) {u a : Nat} (ha : isO s u a) (hu : Nat.ble 1 u = true) (hA : ¬ A a) : isO s' u a := by
  have h0 : (s.K a).1 = u := ha
  have hu := Nat.le_of_ble_eq_true hu
  show (s'.K a).1 = u
  rw [(h a (by omega) hA).1]
  exact ha
theorem cEx.a (h : cEx s s' A) {t n a : Nat} (ha : isA s t n a) (ht : Nat.ble 1 t = true) (hA : ¬ A a) : isA s' t n a := by
  have h0 : s.K a = (t, n) := ha
  have ht := Nat.le_of_ble_eq_true ht
  exact (h a (by rw [h0]; show t ≠ 0; omega) hA).1.trans ha
theorem vBs.ex {u b d cap : Nat} {l : List Int32} (h : vBs s u b l d cap) (hE : cEx s s' A) (hb : ¬ A b) (hd : ¬ A d) : vBs s' u b l d cap := by
  obtain ⟨g0, g1, g2, g3, g4, g5, g6, g7, g8, g9⟩ := h
  have k1 : (s.K b).1 ≠ 0 := by
    have h0 : (s.K b).1 = u := g1
    have := Nat.le_of_ble_eq_true g0.1
    omega
  have k2 : (s.K d).1 ≠ 0 := by
    have h0 : s.K d = (101, cap) := g4
    rw [h0]
    show (101 : Nat) ≠ 0
    decide
  obtain ⟨a1, a2, a3, a4, a5, a6⟩ := hE b k1 hb
  obtain ⟨b1, b2, b3, b4, b5, b6⟩ := hE d k2 hd
  exact ⟨g0, hE.o g1 g0.1 hb, (a4 0).trans g2, (a2 1).trans g3, hE.a g4 rfl hd, g5, g6, g7, by rw [b5]; exact g8, g9⟩
end Ext
section Make
variable {R : pmM} {s : cS} {base : Nat} {Rt : pmR} {kc ks : Nat}
theorem cB_si {g a : Nat} {v : Int32} (h : cB base s) : cB base (cSI s g a v) := h
theorem cB_sj {g a : Nat} {v : Int64} (h : cB base s) : cB base (cSJ s g a v) := h
theorem cB_sp {g a : Nat} {v : Option Nat} (h : cB base s) : cB base (cSP s g a v) := h
theorem cB_se {a i : Nat} {v : Int32} (h : cB base s) : cB base (cSE s a i v) := h
theorem cB_sq {a i : Nat} {v : Option Nat} (h : cB base s) : cB base (cSQ s a i v) := h
theorem cB_spf {x : Nat} {a1 a4 : Int32} {a2 a3 : Int64} (h : cB base s) : cB base (cSpf s x a1 a2 a3 a4) := h
theorem g_PrInit (sa : Nat → Nat) {u q : Nat} (hB : cB base s) (h : isO s u q) (hu : Nat.ble 1 u = true) (hv : Nat.ble (u + 1) 100 = true) (hc : cKn u = 5) (k : Rt none (cM R (cSpf s q 4 0 0 0)) kc ks) : kP_Pr_init base sa [.ref q] (cM R s) kc ks Rt := by
  have e : pm_up (cM R s) q (.inr (5, [.int (s.I 100 q), .long (s.J 101 q), .long (s.J 102 q), .int (s.I 103 q)])) = cM R s := pm_sf (cM_pf h hu hv hc)
  rw [← e]
  refine s_Pr_init base sa (h.b hB hu) ?_
  have e2 := cM_spf (R := R) (a1 := 4) (a2 := 0) (a3 := 0) (a4 := 0) h hu hv hc
  unfold pfx at e2
  rw [e2]
  exact k
end Make
