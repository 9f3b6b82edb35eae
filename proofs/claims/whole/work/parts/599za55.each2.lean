/-! A request is answered entry by entry: the class's loop. -/
section Al
variable {G H : Nat → Nat → Nat} {sa : Nat → Nat} {x kc ks r A f : Nat} {s1 : cS} {t1 : moS} {po ho : Int32} {h l : Int64} {L : List Int32} {Q : cS → Nat → Nat → Prop}
theorem ae_loop {D b d gp i0 n msz : Nat} {a3 : Int32} {hd : List Int32} {M : Nat → Int32} {P : Int32 → cS → Nat → Nat → Prop} (hP : ∀ (a6 : Int32) (s : cS) (kc ks : Nat), C_Rr_answerEach_s51 sa (G 1 r) (some A) (some gp) a3 (some b) (nI msz) a6 s kc ks Q P → P a6 s kc ks) (hR1 : RR G H sa x s1 t1) (hM1 : MV t1) (hr : r < cR t1) (hH1 : HE H s1 A L f h l po ho) (i51 : s1.I 51 A = nI (i0 + 20 * n)) (hD : G 11 999 = D) (hb : b = H 40 D) (kD : (s1.K D).1 = 6) (nA : A ≠ D) (hB : ∀ j, L.getD j 0 = nI (vc L j)) (hn : i0 + 20 * n ≤ L.length) (hms : msz = if f = 0 then 4 else 1) (hlen : hd.length + 20 * n ≤ 600) (hMk : ∀ k, M k = aeM t1 r (fun j => L.getD j 0) f (i0 + 20 * k)) (hfin : ∀ u s3, fr [18] [] [] s1 u → u.K = s1.K → u.P = s1.P → FW b d u (hd ++ tl (anF L f i0 M n) (20 * n)) s3 → (if a3 = ((-1) : Int32) then ((C_Rr_answerEach_b162 sa (G 1 r) (some A) (some gp) s3 kc ks Q)) else (ob (some gp) (fun b3 => (ob (gP s3 4 6 b3) (fun v4 => (ob v4 (fun b5 => (okO s3 1 b5 ∧ C_Ch_seal sa b5 (some b) a3 s3 kc ks (fun sr6 cr6 dr6 => ((C_Rr_answerEach_b162 sa (G 1 r) (some A) (some b3) sr6 cr6 dr6 Q)))))))))))) : ∀ w k u s, k + w = n → fr [18] [] [] s1 u → u.K = s1.K → u.P = s1.P → FW b d u (hd ++ tl (anF L f i0 M n) (20 * k)) s → P (nI (i0 + 20 * k)) s kc ks := by
  have hf := hH1.2.2.2.2
  have kA := hH1.1
  have hl6 : L.length ≤ 600 := by obtain ⟨-, -, d, -, -, -, e, -⟩ := hH1.2.1; exact e
  have hq1 := hR1.q.1
  have hT1 := hq1.ty
  have kb3 : (s1.K b).1 = 3 := by rw [hb]; exact (hT1.p kD 40 3).2
  have nb : H 40 A ≠ b := fun z => nA (hT1.i kA kD 40 (by decide) (by rw [z, hb]))
  have ms : msz ≤ 8 ∧ 1 ≤ msz := by rw [hms]; split <;> omega
  -- what holds in between
  have att : ∀ u s l', fr [18] [] [] s1 u → u.K = s1.K → u.P = s1.P → FW b d u l' s → RR G H sa x s t1 ∧ HE H s A L f h l po ho ∧ s.I 51 A = nI (i0 + 20 * n) ∧ s.K = s1.K ∧ s.P = s1.P := fun u s l' fu uK uP hw => by
    have Ru : RR G H sa x u t1 := rr_fr hR1 hM1 (hq1.1.v uK uP fu rfl rfl rfl) fu (mfr.rf (W := [])) rfl rfl rfl rfl rfl rfl rfl
    have hpd : u.P 0 (H 40 D) = some d := by rw [← hb]; exact hw.2.2.2.1.2.1
    have kd : (u.K d).1 = 129 := by rw [hw.2.2.2.1.2.2]
    have df : DF H D d u s := FW.df (by rw [← hb]; exact hw)
    have kDu : (u.K D).1 = 6 := by rw [uK]; exact kD
    have kAu : (u.K A).1 = 6 := by rw [uK]; exact kA
    have X : hdF H A s1 s := (hdF.fr fu hT1 kA rfl (nin6 rfl) (by decide)).tr (hdF.df df Ru.q.1.ty kDu hpd kAu nA)
    exact ⟨rr_dr Ru hM1 hD hpd kd df ⟨_, by rw [← hb]; exact hw.bl⟩, hH1.hx (hdX.of X) (by rw [hw.1.1, uK]; exact kA), by rw [X.1]; exact i51, hw.1.1.trans uK, hw.1.2.1.trans uP⟩
  intro w
  induction w with
  | zero =>
    intro k u s hk fu uK uP hw
    have ek : k = n := by omega
    subst ek
    obtain ⟨Rs, Hs, j51, eK, eP⟩ := att u s _ fu uK uP hw
    apply hP
    unfold C_Rr_answerEach_s51
    refine ⟨A, rfl, _, gd_to (okr Hs.1 2), ?_⟩
    rw [show s.I (20 * 2 + 11) A = nI (i0 + 20 * k) from j51, show nI (i0 + 20 * k) + (20 : Int32) = nI (i0 + 20 * k + 20) from nI_add _ 20]
    exact ifT (nI_lt (by omega) (by omega)) (hfin u s fu uK uP hw)
  | succ w ih =>
    intro k u s hk fu uK uP hw
    obtain ⟨Rs, Hs, j51, eK, eP⟩ := att u s _ fu uK uP hw
    have nx : nI (i0 + 20 * k) + (20 : Int32) = nI (i0 + 20 * (k + 1)) := by
      rw [show (20 : Int32) = nI 20 from rfl, nI_add]
      congr 1
    have he : i0 + 20 * k + 20 ≤ L.length := by omega
    obtain ⟨m, em, m1, m2⟩ := aeM_r (g := fun j => L.getD j 0) (f := f) (e := i0 + 20 * k) hM1 hr
    have Mk : M k = nI m := (hMk k).trans em
    have te := tl_ent (L := L) (M := M) (k := k) (n := n) hf (by omega) he Mk (by omega)
    rw [← hms] at te
    -- the bytes of an entry
    have part : ∀ u' s' (a7 : Option Nat), fr [18] [] [] s1 u' → u'.K = s1.K → u'.P = s1.P → FW b d u' (hd ++ tl (anF L f i0 M n) (20 * k)) s' → (a7 = none ∧ M k = 16 ∨ ∃ a, a7 = some a ∧ (s1.K a).1 = 23 ∧ u'.I 164 a = M k) → C_Rr_answerEach_b98 sa (G 1 r) (some A) (some gp) a3 (some b) (nI msz) (nI (i0 + 20 * k)) a7 s' kc ks Q P := fun u' s' a7 fu' uK' uP' hw' h7 => by
      obtain ⟨Rs', Hs', -, eK', eP'⟩ := att u' s' _ fu' uK' uP' hw'
      have p40 := Rs'.q.1.ty.p Hs'.1 40 3
      have ll : (hd ++ tl (anF L f i0 M n) (20 * k)).length = hd.length + 20 * k := by rw [List.length_append, tl_len]
      unfold C_Rr_answerEach_b98
      refine ⟨A, rfl, _, gd_to (okr Hs'.1 2), b, rfl, hw'.o, ?_⟩
      rw [show s'.P (20 * 2 + 0) A = some (H 40 A) from p40.1, show nI (i0 + 20 * k) + (20 : Int32) - nI msz = nI (i0 + 20 * k + (20 - msz)) by
        rw [show nI (i0 + 20 * k) + (20 : Int32) = nI (i0 + 20 * k + 20) from nI_add _ 20, pk_sub (by omega)]
        congr 1
        omega]
      refine fw_part hw' Hs'.2.1 nb (fun e he' z => ?_) (by omega) (by omega) (by rw [ll]; omega) fun s4 h4 => ?_
      · have hpd : s'.P 0 b = some d := by rw [hw'.1.2.1]; exact hw'.2.2.2.1.2.1
        rw [z] at he'
        exact nb (Rs'.q.1.ty.2.2 _ _ d (okr p40.2 0) hw'.o he' hpd)
      rw [show i0 + 20 * k + (20 - msz) - (i0 + 20 * k) = 20 - msz by omega] at h4
      have l4 : ((hd ++ tl (anF L f i0 M n) (20 * k)) ++ (L.drop (i0 + 20 * k)).take (20 - msz)).length ≤ hd.length + 20 * k + (20 - msz) := by
        rw [List.length_append, ll, List.length_take]
        omega
      -- its metric
      have fin : C_Rr_answerEach_b136 sa (G 1 r) (some A) (some gp) a3 (some b) (nI msz) (nI (i0 + 20 * k)) (some b) (Int32.toInt64 (M k)) s4 kc ks Q P := by
        unfold C_Rr_answerEach_b136
        refine ⟨b, rfl, h4.o, fw_number msz rfl h4 ms.1 (by omega) fun s5 h5 => ?_⟩
        rw [nx]
        refine ih (k + 1) u' s5 (by omega) fu' uK' uP' ?_
        rw [te]
        rw [List.append_assoc, List.append_assoc] at h5
        exact h5
      rcases h7 with ⟨e7, e16⟩ | ⟨a, e7, ka, ea⟩
      · rw [e16] at fin
        exact ifT e7 fin
      · rw [e7]
        have k4 : s4.K = s1.K := h4.1.1.trans uK'
        refine ifF (by simp) ⟨a, rfl, _, gd_to (okr (show (s4.K a).1 = 23 by rw [k4]; exact ka) 8), ?_⟩
        rw [show s4.I (20 * 8 + 4) a = M k from (h4.2.1 164 a (fun z => absurd z.1 (by decide))).trans ea]
        exact fin
    have k26 := (Rs.q.1.rt hr).1.1
    have kx := Rs.q.1.1.1
    have p180 : s.P 180 (G 1 r) = some x := by rw [(Rs.q.1.ty.p k26 180 30).1, (Rs.q.1.rt hr).1.2.2]
    have p238 := Rs.q.1.ty.p kx 238 18
    have p40 := Rs.q.1.ty.p Hs.1 40 3
    have p186 := Rs.q.1.ty.p k26 186 27
    have kbs : (s.K b).1 = 3 := by rw [eK]; exact kb3
    apply hP
    unfold C_Rr_answerEach_s51
    refine ⟨A, rfl, _, gd_to (okr Hs.1 2), ?_⟩
    rw [show s.I (20 * 2 + 11) A = nI (i0 + 20 * n) from j51, show nI (i0 + 20 * k) + (20 : Int32) = nI (i0 + 20 * k + 20) from nI_add _ 20]
    refine ifF (nI_nlt (by omega) (by omega)) ⟨_, gd_to (okr k26 9), _, p180, _, gd_to (okr kx 11), okr Hs.1 2, ?_⟩
    rw [show s.P (20 * 11 + 18) x = some (H 238 x) from p238.1]
    refine c_tkp Hs.1 hf Hs.2.2.2.1.1 p40.1 p40.2 Hs.2.1 p238.2 he (fun cK s' eK' eP' f' pf => ifF (by decide) ?_) (fun cK s' eK' eP' f' => ifT rfl ?_)
    rotate_left
    · obtain ⟨u', hw', fu', uK', uP'⟩ := fw_18 hw eK' eP' f' kbs
      exact part u' s' none (fu.tr fu') (uK'.trans uK) (uP'.trans uP) hw' (Or.inl ⟨rfl, (hMk k).trans (aeM_n fun j _ h2 => absurd h2 cK)⟩)
    obtain ⟨u', hw', fu', uK', uP'⟩ := fw_18 hw eK' eP' f' kbs
    obtain ⟨Rs', Hs', -, eK1', eP1'⟩ := att u' s' _ (fu.tr fu') (uK'.trans uK) (uP'.trans uP) hw'
    have ok : ∀ {c e}, okO s c e → okO s' c e := fun {c e} z => by unfold okO at z ⊢; rw [eK']; exact z
    have lo := pe_ok hB hf cK
    refine ⟨_, gd_to (ok (okr k26 9)), _, gd_to (ok (okr k26 9)), x, by show s'.P 180 _ = _; rw [eP']; exact p180, _, gd_to (ok (okr kx 11)), H 186 (G 1 r), by show s'.P 186 _ = _; rw [eP']; exact p186.1, ok (okr p186.2 10), ?_⟩
    rw [show s'.P (20 * 11 + 18) x = some (H 238 x) by show s'.P 238 x = _; rw [eP']; exact p238.1]
    obtain ⟨w1, cap, ht, -⟩ := tbo_t Rs'.q.1 hM1 hr
    have ey : cPk s' (H 238 x) = kyV (nI f) (peH (fun j => L.getD j 0) f (i0 + 20 * k)) (peL (fun j => L.getD j 0) f (i0 + 20 * k)) (peN (fun j => L.getD j 0) f (i0 + 20 * k)) := pf.key
    have ek : ∀ j, j < cN t1 r → cPk s' (H 160 (G 4 (2700 * r + j))) = kyR t1 (2700 * r + j) := fun j hj => ((Rs'.q.1.tb hr).2.1 j hj).1.key
    refine w_find ht (pf.ok lo (ok (okr p238.2 5))) (fun z => ?_) fun j hj z => ?_
    · exact part u' s' none (fu.tr fu') (uK'.trans uK) (uP'.trans uP) hw' (Or.inl ⟨rfl, (hMk k).trans (aeM_n fun j hj _ e => z j hj (by rw [ek j hj, ey]; exact e))⟩)
    · have rw' := Rs'.q.1.row hr hj
      refine part u' s' (some (G 4 (2700 * r + j))) (fu.tr fu') (uK'.trans uK) (uP'.trans uP) hw' (Or.inr ⟨_, rfl, by rw [← eK1']; exact rw'.1, ?_⟩)
      rw [← hw'.2.1 164 _ (fun z => absurd z.1 (by decide)), hMk k, aeM_p hM1 hr hj cK (by rw [← ek j hj, ← ey]; exact z)]
      exact rw'.2.2.1.2.1
end Al
