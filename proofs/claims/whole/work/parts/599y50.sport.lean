/-! The networks of one interface are settled. -/
/-- from where a settling began to where it is -/
def SPI (G H : Nat → Nat → Nat) (sa : Nat → Nat) (x : Nat) (s : cS) (t : moS) (r : Nat) (K : List Pf) (kc ks : Nat) (G1 H1 : Nat → Nat → Nat) (s1 : cS) (t1 : moS) (kc1 ks1 : Nat) : Prop := RR G1 H1 sa x s1 t1 ∧ SQ K t r t1 ∧ (∀ b, b ≠ 4 → b ≠ 13 → G1 b = G b) ∧ (∀ r', r' ≠ r → G1 13 r' = G 13 r') ∧ hA H H1 s ∧ fr Rtb Ptb Qtb s s1 ∧ (∀ b g, b ≠ H 186 (G 1 r) → (s.K b).1 ≠ 0 → g ≠ 166 → s1.P g b = s.P g b) ∧ kc + potC G1 r ≤ kc1 + potC G r ∧ ks + potS s1 G1 H1 r ≤ ks1 + potS s G H r
theorem px_and {a m : Int64} : (a &&& m) &&& ~~~ m = 0 := by
  rw [i64_0, Int64.toBitVec_and, Int64.toBitVec_and, Int64.toBitVec_not]
  apply BitVec.eq_of_getLsbD_eq
  intro i hi
  simp only [BitVec.getLsbD_and, BitVec.getLsbD_not, BitVec.getLsbD_zero, hi, decide_true, Bool.true_and]
  cases a.toBitVec.getLsbD i <;> cases m.toBitVec.getLsbD i <;> rfl
section Sp
variable {G H G1 H1 : Nat → Nat → Nat} {sa : Nat → Nat} {x r p kc ks kc1 ks1 : Nat} {s s1 s2 : cS} {t t1 : moS} {K : List Pf}
/-- a place for prefixes of the field's own is another -/
theorem rr_18 (hR : RR G H sa x s t) (hM : MV t) (hK : s2.K = s.K) (hP : s2.P = s.P) (f : fr [18] [] [] s s2) : RR G H sa x s2 t := rr_fr hR hM (hR.q.1.1.v hK hP f rfl rfl rfl) f (mfr.rf (W := [])) rfl rfl rfl rfl rfl rfl rfl
theorem SAs_ap : ∀ (L M : List Pf) (t : moS), SAs t r (L ++ M) = Option.bind (SAs t r L) fun t' => SAs t' r M
  | [], M, t => rfl
  | P :: L, M, t => by
    show Option.bind (SA t r P.1 P.2.1 P.2.2.1 P.2.2.2) (fun t' => SAs t' r (L ++ M)) = Option.bind (Option.bind (SA t r P.1 P.2.1 P.2.2.1 P.2.2.2) fun t' => SAs t' r L) fun t' => SAs t' r M
    cases SA t r P.1 P.2.1 P.2.2.1 P.2.2.2 with
    | none => rfl
    | some y => exact SAs_ap L M y
/-- the prefix of an address, in the field's own place -/
theorem w_entry {Q : cS → Nat → Nat → Prop} {rr e pa : Nat} {f : Int32} {h l : Int64} {n : Int32} (o9 : okO s 9 rr) (ox : okO s 11 x) (h180 : s.P 180 rr = some x) (h238 : s.P 238 x = some e) (ke : (s.K e).1 = 18) (o5 : okO s 5 pa) (hpa : PF s pa f h l n) (kk : ∀ s2, s2.K = s.K → s2.P = s.P → fr [18] [] [] s s2 → PF s2 e f (h &&& mskH n) (l &&& mskL n) n → C_Rr_settle sa rr (some e) s2 kc ks Q) : ob (gP s 9 0 rr) (fun v3 => (ob v3 (fun b4 => (ob (gP s 11 18 b4) (fun v5 => (ob v5 (fun b6 => (okO s 5 b6 ∧ C_Pr_copy sa b6 (some pa) s kc ks (fun sr7 cr7 dr7 => (ob (gP sr7 9 0 rr) (fun v8 => (ob v8 (fun b9 => (ob (gP sr7 11 18 b9) (fun v10 => (ob v10 (fun b11 => (okO sr7 5 b11 ∧ C_Pr_dropBitsBehind sa b11 sr7 cr7 dr7 (fun sr12 cr12 dr12 => (ob (gP sr12 9 0 rr) (fun v13 => (ob v13 (fun b14 => (ob (gP sr12 11 18 b14) (fun v15 => (okO sr12 9 rr ∧ C_Rr_settle sa rr v15 sr12 cr12 dr12 Q)))))))))))))))))))))))))) := by
  have oe : okO s 5 e := okr ke 5
  refine ⟨_, gd_to o9, _, h180, _, gd_to ox, _, h238, oe, w_copy oe o5 ?_⟩
  obtain ⟨p1, p2, p3, p4⟩ := hpa
  rw [p1, p2, p3, p4]
  have v := cSpf_v (s := s) (a := e) (a1 := f) (a2 := h) (a3 := l) (a4 := n)
  have f1 : fr [18] [] [] s (cSpf s e f h l n) := fr.spf (by rw [ke]; decide)
  have hK : (cSpf s e f h l n).K = s.K := rfl
  have hP : (cSpf s e f h l n).P = s.P := rfl
  generalize cSpf s e f h l n = s1 at v f1 hK hP ⊢
  have ok1 : ∀ c b, okO s c b → okO s1 c b := fun c b hb => by unfold okO at hb ⊢; rw [hK]; exact hb
  refine ⟨_, gd_to (ok1 9 _ o9), x, by rw [hP]; exact h180, _, gd_to (ok1 11 _ ox), e, by rw [hP]; exact h238, ok1 5 _ oe, w_drop (ok1 5 _ oe) ?_⟩
  obtain ⟨v1, v2, v3, v4⟩ := v
  rw [v2, v3, v4]
  have f2 : fr [18] [] [] s1 (cSJ (cSJ s1 101 e (h &&& mskH n)) 102 e (l &&& mskL n)) := (fr.sj (by rw [hK, ke]; decide)).tr (fr.sj (by show (s1.K e).1 ∈ _; rw [hK, ke]; decide))
  have w : PF (cSJ (cSJ s1 101 e (h &&& mskH n)) 102 e (l &&& mskL n)) e f (h &&& mskH n) (l &&& mskL n) n := ⟨v1, by rw [cSJ_g (by decide)]; exact cSJ_s, cSJ_s, v4⟩
  have hK2 : (cSJ (cSJ s1 101 e (h &&& mskH n)) 102 e (l &&& mskL n)).K = s.K := hK
  have hP2 : (cSJ (cSJ s1 101 e (h &&& mskH n)) 102 e (l &&& mskL n)).P = s.P := hP
  generalize cSJ (cSJ s1 101 e (h &&& mskH n)) 102 e (l &&& mskL n) = s2 at f2 w hK2 hP2 ⊢
  have ok2 : ∀ c b, okO s c b → okO s2 c b := fun c b hb => by unfold okO at hb ⊢; rw [hK2]; exact hb
  refine ⟨_, gd_to (ok2 9 _ o9), x, by rw [hP2]; exact h180, _, gd_to (ok2 11 _ ox), ok2 9 _ o9, ?_⟩
  rw [show s2.P (20 * 11 + 18) x = some e by rw [hP2]; exact h238]
  exact kk s2 hK2 hP2 (f1.tr f2) w
end Sp
