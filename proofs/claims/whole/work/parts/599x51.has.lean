/-! Options of two sorts, of one sort: the class. -/
section Ho
variable {G H : Nat → Nat → Nat} {sa : Nat → Nat} {rd x kc ks : Nat} {s : cS} {t : moS} {l : List Int32} {ws : List (Nat × Nat)} {Q : Int32 → cS → Nat → Nat → Prop}
theorem w_has2 (h : LX G H sa x rd s t l ws) {f k k' : Nat} (a b : Int64) (hf : f + 4 < 24) (hab : a ≠ b) (k0 : oP (wC l ws) a b ws.length f = none → ∀ s', fo rd s s' → Q 0 s' kc ks) (k1 : ∀ p q, oP (wC l ws) a b ws.length f = some (p, q) → ∀ s', fo rd s s' → s'.I 144 rd = nI p → s'.I 145 rd = nI q → Q 1 s' kc ks) (hk : kOk k = true ∧ cdL (cT k) = a := by decide +kernel) (hk' : kOk k' = true ∧ cdL (cT k') = b := by decide +kernel) : C_Re_hasOptions sa rd (nI f) (some (sa k)) (some (sa k')) s kc ks Q := by
  have hn := h.nw
  have f1 : fo rd s (cSI s 144 rd 0) := fo.si (by decide)
  have f2 : fo rd s (cSI (cSI s 144 rd 0) 145 rd 0) := f1.tr (fo.si (by decide))
  have L2 := h.fo f2
  unfold C_Re_hasOptions
  refine ⟨_, gd_to h.or, _, gd_to (f1.o h.or), _, gd_to L2.or, ?_⟩
  rw [show (cSI (cSI s (20 * 7 + 4) rd 0) (20 * 7 + 5) rd 0).I (20 * 7 + 3) rd = nI ws.length from L2.wt]
  by_cases c1 : ws.length < f
  · exact ifT (nI_lt c1 (by omega)) (k0 (by unfold oP; rw [if_neg (by omega), if_neg (by omega), if_neg (by omega)]) _ f2)
  refine ifF (nI_nlt (by omega) (by omega)) ⟨_, gd_to L2.or, ?_⟩
  rw [show (cSI (cSI s (20 * 7 + 4) rd 0) (20 * 7 + 5) rd 0).I (20 * 7 + 3) rd = nI ws.length from L2.wt, show (4 : Int32) = nI 4 from rfl, nI_add]
  by_cases c2 : f + 4 < ws.length
  · exact ifT (nI_lt c2 (by omega)) (k0 (by unfold oP; rw [if_neg (by omega), if_neg (by omega), if_neg (by omega)]) _ f2)
  refine ifF (nI_nlt (by omega) (by omega)) ⟨_, gd_to L2.or, ?_⟩
  rw [show (cSI (cSI s (20 * 7 + 4) rd 0) (20 * 7 + 5) rd 0).I (20 * 7 + 3) rd = nI ws.length from L2.wt]
  show if rem_I (nI ws.length - nI f) 2 = 0 then _ else _
  rw [pk_sub (by omega)]
  have er : rem_I (nI (ws.length - f)) 2 = nI ((ws.length - f) % 2) := by
    show nI (ws.length - f) - nI (ws.length - f) / nI 2 * nI 2 = _
    rw [pk_rem (by omega) (by decide) (by decide)]
  rw [er]
  by_cases c3 : (ws.length - f) % 2 = 0
  rotate_left
  · exact ifF (fun z => c3 ((nI_eq (b := 0) (by omega) (by decide)).mp z)) (k0 (by unfold oP; rw [if_neg (by omega), if_neg (by omega), if_neg (by omega)]) _ f2)
  refine ifT (by rw [c3]; rfl) ?_
  unfold C_Re_hasOptions_b44
  intro P hP
  have fin : ∀ st p q, fo rd s st → st.I 144 rd = nI p → st.I 145 rd = nI q → oP (wC l ws) a b ws.length f = some (p, q) → P (nI ws.length) st kc ks := by
    intro st p q hs h4 h5 ho
    apply hP
    unfold C_Re_hasOptions_s44
    refine ⟨_, gd_to (h.fo hs).or, ?_⟩
    rw [show st.I (20 * 7 + 3) rd = nI ws.length from (h.fo hs).wt]
    exact ifF (nI_nlt (by omega) (by omega)) (k1 p q ho st hs h4 h5)
  have stp : ∀ i st p q, i < ws.length → fo rd s st → st.I 144 rd = nI p → st.I 145 rd = nI q → p < 2 ^ 31 → q < 2 ^ 31 → (wC l ws i = a → p = 0 → P (nI (i + 2)) (cSI st 144 rd (nI (i + 1))) kc ks) → (wC l ws i = b → q = 0 → P (nI (i + 2)) (cSI st 145 rd (nI (i + 1))) kc ks) → (¬ (wC l ws i = a ∧ p = 0) → ¬ (wC l ws i = b ∧ q = 0) → Q 0 st kc ks) → P (nI i) st kc ks := by
    intro i st p q hi hs h4 h5 hp hq ka kb ko
    have L := h.fo hs
    apply hP
    unfold C_Re_hasOptions_s44
    refine ⟨_, gd_to L.or, ?_⟩
    rw [show st.I (20 * 7 + 3) rd = nI ws.length from L.wt]
    have b81 : ¬ (wC l ws i = a ∧ p = 0) → C_Re_hasOptions_b81 sa rd (some (sa k)) (some (sa k')) (nI i) st kc ks Q P := by
      intro hna
      unfold C_Re_hasOptions_b81
      refine ⟨L.or, w_isK L.rc L.tk b hi (by omega) (fun eb => ifF (by decide) ⟨_, gd_to L.or, ?_⟩) (fun eb => ifT rfl (ko hna (fun z => eb z.1))) hk'⟩
      rw [show st.I (20 * 7 + 5) rd = nI q from h5]
      by_cases q0 : q = 0
      · refine ifT (by rw [q0]; rfl) ⟨_, gd_to L.or, ?_⟩
        unfold C_Re_hasOptions_b111
        rw [nI_1, show (2 : Int32) = nI 2 from rfl, nI_add]
        exact kb eb q0
      · exact ifF (fun z => q0 ((nI_eq (b := 0) hq (by decide)).mp z)) (ko hna (fun z => q0 z.2))
    refine ifT (nI_lt hi (by omega)) ⟨L.or, w_isK L.rc L.tk a hi (by omega) (fun ea => ifF (by decide) ⟨_, gd_to L.or, ?_⟩) (fun ea => ifT rfl (b81 (fun z => ea z.1))) hk⟩
    rw [show st.I (20 * 7 + 4) rd = nI p from h4]
    by_cases p0 : p = 0
    · refine ifT (by rw [p0]; rfl) ⟨_, gd_to L.or, ?_⟩
      unfold C_Re_hasOptions_b111
      rw [nI_1, show (2 : Int32) = nI 2 from rfl, nI_add]
      exact ka ea p0
    · exact ifF (fun z => p0 ((nI_eq (b := 0) hp (by decide)).mp z)) (b81 (fun z => p0 z.2))
  have i4 : (cSI (cSI s 144 rd 0) 145 rd 0).I 144 rd = nI 0 := (cSI_g (by decide)).trans cSI_s
  have i5 : (cSI (cSI s 144 rd 0) 145 rd 0).I 145 rd = nI 0 := cSI_s
  have se : ∀ {st : cS} {v : Nat}, (cSI st 144 rd (nI v)).I 144 rd = nI v ∧ (cSI st 145 rd (nI v)).I 145 rd = nI v := fun {st v} => ⟨cSI_s, cSI_s⟩
  have sf : ∀ {st : cS} {v : Int32}, (cSI st 144 rd v).I 145 rd = st.I 145 rd ∧ (cSI st 145 rd v).I 144 rd = st.I 144 rd := fun {st v} => ⟨cSI_g (by decide), cSI_g (by decide)⟩
  have fa : ∀ {st : cS} {v : Int32}, fo rd s st → fo rd s (cSI st 144 rd v) ∧ fo rd s (cSI st 145 rd v) := fun {st v} hs => ⟨hs.tr (fo.si (by decide)), hs.tr (fo.si (by decide))⟩
  unfold oP at k0 fin
  by_cases e0 : ws.length = f
  · rw [← e0]
    rw [if_pos e0] at fin
    exact fin _ 0 0 f2 i4 i5 rfl
  rw [if_neg e0] at k0 fin
  by_cases e2 : ws.length = f + 2
  · rw [if_pos e2] at k0 fin
    refine stp f _ 0 0 (by omega) f2 i4 i5 (by decide) (by decide) (fun ea _ => ?_) (fun eb _ => ?_) (fun na nb => ?_)
    · rw [if_pos ea] at fin
      rw [← e2]
      exact fin _ (f + 1) 0 (fa f2).1 se.1 (sf.1.trans i5) rfl
    · rw [if_neg (fun z => hab (z.symm.trans eb)), if_pos eb] at fin
      rw [← e2]
      exact fin _ 0 (f + 1) (fa f2).2 (sf.2.trans i4) se.2 rfl
    · rw [if_neg (fun z => na ⟨z, rfl⟩), if_neg (fun z => nb ⟨z, rfl⟩)] at k0
      exact k0 rfl _ f2
  have e4 : ws.length = f + 4 := by omega
  rw [if_neg e2, if_pos e4] at k0 fin
  refine stp f _ 0 0 (by omega) f2 i4 i5 (by decide) (by decide) (fun ea _ => ?_) (fun eb _ => ?_) (fun na nb => ?_)
  · have nb : ¬ wC l ws f = b := fun z => hab (ea.symm.trans z)
    refine stp (f + 2) _ (f + 1) 0 (by omega) (fa f2).1 se.1 (sf.1.trans i5) (by omega) (by decide) (fun _ z => absurd z (by omega)) (fun eb _ => ?_) (fun _ nb2 => ?_)
    · rw [if_pos (show wC l ws f = a ∧ wC l ws (f + 2) = b from ⟨ea, eb⟩)] at fin
      have := fin _ (f + 1) (f + 3) (fa (fa f2).1).2 (sf.2.trans se.1) se.2 rfl
      rw [e4] at this
      exact this
    · rw [if_neg (show ¬ (wC l ws f = a ∧ wC l ws (f + 2) = b) from fun z => nb2 ⟨z.2, rfl⟩), if_neg (show ¬ (wC l ws f = b ∧ wC l ws (f + 2) = a) from fun z => nb z.1)] at k0
      exact k0 rfl _ (fa f2).1
  · have na : ¬ wC l ws f = a := fun z => hab (z.symm.trans eb)
    rw [if_neg (fun z => na z.1)] at k0 fin
    refine stp (f + 2) _ 0 (f + 1) (by omega) (fa f2).2 (sf.2.trans i4) se.2 (by decide) (by omega) (fun ea _ => ?_) (fun _ z => absurd z (by omega)) (fun na2 _ => ?_)
    · rw [if_pos ⟨eb, ea⟩] at fin
      have := fin _ (f + 3) (f + 1) (fa (fa f2).2).1 se.1 (sf.1.trans se.2) rfl
      rw [e4] at this
      exact this
    · rw [if_neg (fun z => na2 ⟨z.2, rfl⟩)] at k0
      exact k0 rfl _ (fa f2).2
  · rw [if_neg (fun z => na ⟨z.1, rfl⟩), if_neg (fun z => nb ⟨z.1, rfl⟩)] at k0
    exact k0 rfl _ f2
/-- a tag, or nothing -/
theorem w_tag (h : LX G H sa x rd s t l ws) {f : Nat} (hf : f < 20) (k0 : ¬ (ws.length = f ∨ ws.length = f + 2 ∧ wC l ws f = 32047) → ∀ s', fo rd s s' → Q 0 s' kc ks) (k1 : ws.length = f → ∀ s', fo rd s s' → s'.I 144 rd = 0 → Q 1 s' kc ks) (k2 : ws.length = f + 2 → wC l ws f = 32047 → ∀ s', fo rd s s' → s'.I 144 rd = nI (f + 1) → Q 1 s' kc ks) : C_Re_hasTagOption sa rd (nI f) s kc ks Q := by
  have hn := h.nw
  have f1 : fo rd s (cSI s 144 rd 0) := fo.si (by decide)
  have L1 := h.fo f1
  have b32 : ∀ st, fo rd s st → st.I 144 rd = 0 → ¬ (ws.length = f + 2 ∧ wC l ws f = 32047) → C_Re_hasTagOption_b32 sa rd (nI f) st kc ks Q := by
    intro st hs h4 hno
    unfold C_Re_hasTagOption_b32
    refine ⟨_, gd_to (h.fo hs).or, ?_⟩
    rw [show st.I (20 * 7 + 3) rd = nI ws.length from (h.fo hs).wt]
    by_cases c : ws.length = f
    · exact ifT (by rw [c]) (k1 c st hs h4)
    · refine ifF (fun z => c ((nI_eq (by omega) (by omega)).mp z)) ⟨_, gd_to (h.fo hs).or, ?_⟩
      rw [show st.I (20 * 7 + 4) rd = 0 from h4]
      exact ifF (by decide) (k0 (fun z => z.elim c hno) st hs)
  unfold C_Re_hasTagOption
  refine ⟨_, gd_to h.or, _, gd_to L1.or, ?_⟩
  rw [show (cSI s (20 * 7 + 4) rd 0).I (20 * 7 + 3) rd = nI ws.length from L1.wt, show (2 : Int32) = nI 2 from rfl, nI_add]
  by_cases c2 : ws.length = f + 2
  · refine ifT (by rw [c2]) ⟨L1.or, w_isK L1.rc L1.tk 32047 (by omega) (by omega) (fun e => ifF (by decide) ⟨_, gd_to L1.or, ?_⟩) (fun e => ifT rfl (b32 _ f1 cSI_s (fun z => e z.2)))⟩
    rw [nI_1]
    have f2 : fo rd s (cSI (cSI s 144 rd 0) 144 rd (nI (f + 1))) := f1.tr (fo.si (by decide))
    unfold C_Re_hasTagOption_b32
    refine ⟨_, gd_to (h.fo f2).or, ?_⟩
    rw [show (cSI (cSI s 144 rd 0) 144 rd (nI (f + 1))).I (20 * 7 + 3) rd = nI ws.length from (h.fo f2).wt]
    refine ifF (fun z => absurd ((nI_eq (by omega) (by omega)).mp z) (by omega)) ⟨_, gd_to (h.fo f2).or, ?_⟩
    rw [show (cSI (cSI s 144 rd 0) 144 rd (nI (f + 1))).I (20 * 7 + 4) rd = nI (f + 1) from cSI_s]
    exact ifT (nI_lt (a := 0) (by omega) (by omega)) (k2 c2 e _ f2 cSI_s)
  · exact ifF (fun z => c2 ((nI_eq (by omega) (by omega)).mp z)) (b32 _ f1 cSI_s (fun z => c2 z.1))
end Ho
