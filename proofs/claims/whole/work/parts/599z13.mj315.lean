/-! A join sets what it tells: the model. -/
theorem spV_s {c : Int64} (h : spV c ≠ -1) : spl (spV c) c := by
  unfold spV at h ⊢
  by_cases c1 : c = 24246
  · rw [if_pos c1]; exact Or.inl ⟨rfl, c1⟩
  rw [if_neg c1] at h ⊢
  by_cases c2 : c = 1969498085
  · rw [if_pos c2]; exact Or.inr (Or.inl ⟨rfl, c2⟩)
  rw [if_neg c2] at h ⊢
  by_cases c3 : c = 1677407014
  · rw [if_pos c3]; exact Or.inr (Or.inr ⟨rfl, c3⟩)
  rw [if_neg c3] at h
  exact absurd rfl h
section Mj
variable {G H : Nat → Nat → Nat} {sa : Nat → Nat} {x rd q f : Nat} {s : cS} {t : moS} {l : List Int32} {ws : List (Nat × Nat)} {P : List (Nat × Nat)} {a6 a7 : Int32} {V : chV}
theorem m_optW (h : WX t l ws) {k : Nat} (hk : 1 ≤ k) (hk7 : k < 7) : ∀ u w m P, m < 64 → jP (wC l ws) ws.length u w m = some P → lp (fun y : Int32 => M_option_s3 t (cdO k) y) (nI w) = some (nI (jW k P))
  | 0, _, _, _, _, h' => by cases h'
  | u + 1, w, m, P, hm, h' => by
    have hn := h.2.2.2.2
    have hb := (jP_k (u + 1) w m P hm h').1
    unfold jP at h'
    by_cases c : w < ws.length
    · rw [if_pos c] at h'
      by_cases c0 : kOp (wC l ws w) = 0
      · rw [if_pos c0] at h'; cases h'
      rw [if_neg c0] at h'
      by_cases c1 : m.testBit (kOp (wC l ws w) - 1) = true
      · rw [if_pos c1] at h'; cases h'
      rw [if_neg c1] at h'
      have hl := kOp_le (wC l ws w)
      obtain ⟨-, -, b3, -, -⟩ := jbit m hm (kOp (wC l ws w)) (by omega) (by omega)
      cases e : jP (wC l ws) ws.length u (w + szO (kOp (wC l ws w))) (m ||| 2 ^ (kOp (wC l ws w) - 1)) with
      | none => rw [e] at h'; cases h'
      | some P' =>
        rw [e] at h'
        cases h'
        have ec := kOp_cd c0
        by_cases ck : kOp (wC l ws w) = k
        · show _ = some (nI (if kOp (wC l ws w) = k then w + 1 else jW k P'))
          rw [if_pos ck]
          refine lp_x ?_
          show M_option_s3 t (cdO k) (nI w) = _
          unfold M_option_s3
          rw [h.1.1, if_pos (nI_lt c (by omega)), h.code c]
          show (if wC l ws w = cdO k then _ else _) = _
          rw [if_pos (by rw [ec, ck]), nI_1]
        · show _ = some (nI (if kOp (wC l ws w) = k then w + 1 else jW k P'))
          rw [if_neg ck]
          have st : M_option_s3 t (cdO k) (nI w) = some (.inl (nI (w + szO (kOp (wC l ws w))))) := by
            unfold M_option_s3
            rw [h.1.1, if_pos (nI_lt c (by omega)), h.code c]
            show (if wC l ws w = cdO k then _ else Option.bind (some (wC l ws w)) _) = _
            rw [if_neg (fun z => ck (by rw [z]; exact cd_kOp k hk7 hk))]
            show some (Sum.inl (nI w + (1 + M_own (wC l ws w)))) = _
            rw [show M_own (wC l ws w) = M_own (cdO (kOp (wC l ws w))) by rw [← ec], own_sz _ (by omega) (by omega), nI_add]
          rw [lp_l (show (fun y : Int32 => M_option_s3 t (cdO k) y) (nI w) = _ from st)]
          exact m_optW h hk hk7 u _ _ P' b3 e
    · rw [if_neg c] at h'
      by_cases c2 : w = ws.length
      · rw [if_pos c2] at h'
        cases h'
        refine lp_x ?_
        show M_option_s3 t (cdO k) (nI w) = _
        unfold M_option_s3
        rw [h.1.1, if_neg (nI_nlt (by omega) (by omega))]
        rfl
      · rw [if_neg c2] at h'; cases h'
/-- what stands behind -/
def JM (t tm : moS) (q f : Nat) (hh ll : Int64) (nn co sp pas : Int32) : Prop := mfr [72, 73, 74, 75, 76, 77, 78] t tm ∧ (∀ i, i ≠ 2 * q + f → tm.I 75 i = t.I 75 i ∧ tm.J 76 i = t.J 76 i ∧ tm.J 77 i = t.J 77 i ∧ tm.I 78 i = t.I 78 i) ∧ (tm.I 75 (2 * q + f) = 1 ∧ tm.J 76 (2 * q + f) = hh ∧ tm.J 77 (2 * q + f) = ll ∧ tm.I 78 (2 * q + f) = nn) ∧ (∀ i, i ≠ q → tm.I 72 i = t.I 72 i ∧ tm.J 73 i = t.J 73 i ∧ tm.I 74 i = t.I 74 i) ∧ (tm.I 72 q = if co = -1 then t.I 72 q else co) ∧ (if sp = -1 then tm.J 73 q = t.J 73 q else spl sp (tm.J 73 q)) ∧ tm.I 74 q = t.I 74 q ||| pas
theorem m_j315 (hN : mN t) (hW : WX t l ws) (hP : jP (wC l ws) ws.length ws.length 4 0 = some P) (hg : ∀ e, e ∈ P → gdE l ws e) (ok : jOk (wC l ws) P) (hq : q < 24) (hf : f = 0 ∨ f = 1) (h12 : t.S 12 = nI f) (b74 : bit (t.I 74 q)) : ∃ tm, M_lineJoin_b315 t (nI (jW 1 P)) (nI (jW 2 P)) (nI (jW 3 P)) (nI (jW 4 P)) (nI (jW 5 P)) a6 a7 (nI q) = M_lineJoin_b418 tm (nI (jW 3 P)) (nI (jW 4 P)) (nI (jW 5 P)) a6 a7 (nI q) (nI (2 * q + f)) ∧ JM t tm q f (t.Z 13) (t.Z 14) (t.S 15) (if jW 1 P = 0 then -1 else oI (nmR (wN l ws (jW 1 P)) 1 15)) (if jW 2 P = 0 then -1 else spV (wC l ws (jW 2 P))) (if jW 6 P = 0 then 0 else 1) := by
  have hn := hW.2.2.2.2
  have lt := fun {k : Nat} (z : jW k P ≠ 0) => jW_lt (k := k) hP z
  have gd := (gd_all hP).mp hg
  have ex : (2 : Int32) * nI q + t.S 12 = nI (2 * q + f) := by rw [h12, show (2 : Int32) = nI 2 from rfl, pk_mul, nI_add]
  have hx : 2 * q + f < 48 := by omega
  have pos : ∀ {k : Nat}, (k = 1 ∨ k = 2 ∨ k = 6) → ((0 : Int32) < nI (jW k P) ↔ jW k P ≠ 0) := fun {k} hk => by
    by_cases z : jW k P = 0
    · rw [z]; exact ⟨fun y => absurd y (by decide), fun y => absurd rfl y⟩
    · exact ⟨fun _ => z, fun _ => nI_lt (a := 0) (by omega) (by have := lt z; omega)⟩
  -- the address
  generalize hta : moSI (moSJ (moSJ (moSI t 75 (2 * q + f) 1) 76 (2 * q + f) (t.Z 13)) 77 (2 * q + f) (t.Z 14)) 78 (2 * q + f) (t.S 15) = ta
  have ma : mfr [75, 76, 77, 78] t ta := by
    rw [← hta]
    exact (mfr.si (by decide)).tr ((mfr.sj (by decide)).tr ((mfr.sj (by decide)).tr (mfr.si (by decide))))
  have Na : mN ta := hN.fr ma rfl
  have Wa : WX ta l ws := hW.mf ma rfl
  have a75 : ∀ i, ta.I 75 i = if i = 2 * q + f then 1 else t.I 75 i := fun i => by
    rw [← hta, moSI_n (by decide)]
    show (moSI t 75 (2 * q + f) 1).I 75 i = _
    rw [moSI_s]; rfl
  have a78 : ∀ i, ta.I 78 i = if i = 2 * q + f then t.S 15 else t.I 78 i := fun i => by
    rw [← hta, moSI_s]; rfl
  have a76 : ∀ i, ta.J 76 i = if i = 2 * q + f then t.Z 13 else t.J 76 i := fun i => by
    rw [← hta]
    show (moSJ (moSJ (moSI t 75 (2 * q + f) 1) 76 (2 * q + f) (t.Z 13)) 77 (2 * q + f) (t.Z 14)).J 76 i = _
    rw [moSJ_n (by decide), moSJ_s]; rfl
  have a77 : ∀ i, ta.J 77 i = if i = 2 * q + f then t.Z 14 else t.J 77 i := fun i => by
    rw [← hta]
    show (moSJ (moSJ (moSI t 75 (2 * q + f) 1) 76 (2 * q + f) (t.Z 13)) 77 (2 * q + f) (t.Z 14)).J 77 i = _
    rw [moSJ_s, moSJ_n (by decide)]; rfl
  -- the cost
  have cost : ∃ tb, (if (0 : Int32) < nI (jW 1 P) then Option.bind (M_number ta (nI (jW 1 P))) (fun x5 => Option.bind (wrI ta 72 (nI q) x5) (fun s6 => M_lineJoin_b383 s6 (nI (jW 2 P)) (nI (jW 3 P)) (nI (jW 4 P)) (nI (jW 5 P)) a6 a7 (nI q) (nI (2 * q + f)))) else M_lineJoin_b383 ta (nI (jW 2 P)) (nI (jW 3 P)) (nI (jW 4 P)) (nI (jW 5 P)) a6 a7 (nI q) (nI (2 * q + f))) = M_lineJoin_b383 tb (nI (jW 2 P)) (nI (jW 3 P)) (nI (jW 4 P)) (nI (jW 5 P)) a6 a7 (nI q) (nI (2 * q + f)) ∧ mfr [72] ta tb ∧ (∀ i, i ≠ q → tb.I 72 i = ta.I 72 i) ∧ tb.I 72 q = if (if jW 1 P = 0 then (-1 : Int32) else oI (nmR (wN l ws (jW 1 P)) 1 15)) = -1 then ta.I 72 q else (if jW 1 P = 0 then -1 else oI (nmR (wN l ws (jW 1 P)) 1 15)) := by
    by_cases z : jW 1 P = 0
    · rw [if_neg (fun y => (pos (Or.inl rfl)).mp y z)]
      exact ⟨ta, rfl, mfr.rf, fun _ _ => rfl, by rw [if_pos z, if_pos rfl]⟩
    · rw [if_pos ((pos (Or.inl rfl)).mpr z)]
      have hw : jW 1 P < ws.length := by have := lt z; rw [show szO 1 = 2 from rfl] at this; omega
      obtain ⟨n, en⟩ := Option.isSome_iff_exists.mp (gd.1 z)
      have hb := nmR_b en
      have ewn : wN l ws (jW 1 P) = some n := by
        unfold nmR at en
        split at en
        · rename_i v hv
          split at en
          · cases en; exact hv
          · cases en
        · cases en
      refine ⟨moSI ta 72 q (nI n), ?_, mfr.si (by decide), fun i hi => by rw [moSI_s, upd_n hi], ?_⟩
      · rw [Wa.num hw, ewn]
        exact sw_I (Na.n 72 24) hq (by decide)
      · rw [moSI_s, upd_s, if_neg z, en, if_neg (oI_n1 n (by omega))]; rfl
  obtain ⟨tb, eb, mb, ob, vb⟩ := cost
  have Nb : mN tb := Na.fr mb rfl
  have Wb : WX tb l ws := Wa.mf mb rfl
  have split' : ∃ tc, M_lineJoin_b383 tb (nI (jW 2 P)) (nI (jW 3 P)) (nI (jW 4 P)) (nI (jW 5 P)) a6 a7 (nI q) (nI (2 * q + f)) = M_lineJoin_b399 tc (nI (jW 3 P)) (nI (jW 4 P)) (nI (jW 5 P)) a6 a7 (nI q) (nI (2 * q + f)) ∧ mfr [73] tb tc ∧ (∀ i, i ≠ q → tc.J 73 i = tb.J 73 i) ∧ (if (if jW 2 P = 0 then (-1 : Int32) else spV (wC l ws (jW 2 P))) = -1 then tc.J 73 q = tb.J 73 q else spl (if jW 2 P = 0 then -1 else spV (wC l ws (jW 2 P))) (tc.J 73 q)) := by
    unfold M_lineJoin_b383
    by_cases z : jW 2 P = 0
    · rw [if_neg (fun y => (pos (Or.inr (Or.inl rfl))).mp y z)]
      exact ⟨tb, rfl, mfr.rf, fun _ _ => rfl, by rw [if_pos z, if_pos rfl]⟩
    · rw [if_pos ((pos (Or.inr (Or.inl rfl))).mpr z)]
      have hw : jW 2 P < ws.length := by have := lt z; rw [show szO 2 = 2 from rfl] at this; omega
      obtain ⟨e, q1, q2, q3⟩ := jW_m z
      have sv : spV (wC l ws (jW 2 P)) ≠ -1 := by rw [q3]; exact ok e q1 q2
      refine ⟨moSJ tb 73 q (wC l ws (jW 2 P)), ?_, mfr.sj (by decide), fun i hi => ?_, ?_⟩
      · rw [Wb.code hw]
        exact sw_J (Nb.n 73 24) hq (by decide)
      · rw [moSJ_s]
        exact if_neg hi
      · rw [if_neg z, if_neg sv, moSJ_s, show vp_updL (tb.J 73) q (wC l ws (jW 2 P)) q = wC l ws (jW 2 P) from if_pos rfl]
        exact spV_s sv
  obtain ⟨tc, ec, mc, oc, vc'⟩ := split'
  have Nc : mN tc := Nb.fr mc rfl
  have Wc' : WX tc l ws := Wb.mf mc rfl
  have opt : M_option tc 65688271285 4 = some (nI (jW 6 P)) := m_optW Wc' (k := 6) (by decide) (by decide) ws.length 4 0 P (by decide) hP
  have e74 : tc.I 74 = t.I 74 := by rw [mc.I 74 (by decide), mb.I 74 (by decide), ma.I 74 (by decide)]
  have pas : ∃ tm, M_lineJoin_b399 tc (nI (jW 3 P)) (nI (jW 4 P)) (nI (jW 5 P)) a6 a7 (nI q) (nI (2 * q + f)) = M_lineJoin_b418 tm (nI (jW 3 P)) (nI (jW 4 P)) (nI (jW 5 P)) a6 a7 (nI q) (nI (2 * q + f)) ∧ mfr [74] tc tm ∧ (∀ i, i ≠ q → tm.I 74 i = tc.I 74 i) ∧ tm.I 74 q = tc.I 74 q ||| (if jW 6 P = 0 then 0 else 1) := by
    unfold M_lineJoin_b399
    rw [opt]
    show ∃ tm, (if (0 : Int32) < nI (jW 6 P) then Option.bind (wrZ tc 74 (nI q) 1) (fun s2 => M_lineJoin_b418 s2 (nI (jW 3 P)) (nI (jW 4 P)) (nI (jW 5 P)) a6 a7 (nI q) (nI (2 * q + f))) else M_lineJoin_b418 tc (nI (jW 3 P)) (nI (jW 4 P)) (nI (jW 5 P)) a6 a7 (nI q) (nI (2 * q + f))) = _ ∧ _
    rw [← e74] at b74
    by_cases z : jW 6 P = 0
    · rw [if_neg (fun y => (pos (Or.inr (Or.inr rfl))).mp y z)]
      refine ⟨tc, rfl, mfr.rf, fun _ _ => rfl, ?_⟩
      rw [if_pos z]
      rcases b74 with e | e <;> rw [e] <;> decide
    · rw [if_pos ((pos (Or.inr (Or.inr rfl))).mpr z)]
      refine ⟨moSI tc 74 q 1, sw_Z (Or.inr rfl) (Nc.n 74 24) hq (by decide), mfr.si (by decide), fun i hi => by rw [moSI_s, upd_n hi], ?_⟩
      rw [moSI_s, upd_s, if_neg z]
      rcases b74 with e | e <;> rw [e] <;> decide
  obtain ⟨tm, em, mm, om, vm⟩ := pas
  refine ⟨tm, ?_, (ma.wk (by decide)).tr ((mb.wk (by decide)).tr ((mc.wk (by decide)).tr (mm.wk (by decide)))), fun i hi => ?_, ⟨?_, ?_, ?_, ?_⟩, fun i hi => ?_, ?_, ?_, ?_⟩
  · unfold M_lineJoin_b315
    rw [ex]
    refine (sw_Z (Or.inr rfl) (hN.n 75 48) hx (by decide)).trans ?_
    refine (sw_J (n := 48) (by exact hN.n 76 48) hx (by decide)).trans ?_
    refine (sw_J (n := 48) (by exact hN.n 77 48) hx (by decide)).trans ?_
    refine (sw_I (n := 48) (by exact hN.n 78 48) hx (by decide)).trans ?_
    rw [show moSI (moSJ (moSJ (moSI t 75 (2 * q + f) 1) 76 (2 * q + f) ((moSI t 75 (2 * q + f) 1).Z 13)) 77 (2 * q + f) ((moSJ (moSI t 75 (2 * q + f) 1) 76 (2 * q + f) ((moSI t 75 (2 * q + f) 1).Z 13)).Z 14)) 78 (2 * q + f) ((moSJ (moSJ (moSI t 75 (2 * q + f) 1) 76 (2 * q + f) ((moSI t 75 (2 * q + f) 1).Z 13)) 77 (2 * q + f) ((moSJ (moSI t 75 (2 * q + f) 1) 76 (2 * q + f) ((moSI t 75 (2 * q + f) 1).Z 13)).Z 14)).S 15) = ta from hta, eb, ec, em]
  · rw [mm.I 75 (by decide), mc.I 75 (by decide), mb.I 75 (by decide), mm.J 76 (by decide), mc.J 76 (by decide), mb.J 76 (by decide), mm.J 77 (by decide), mc.J 77 (by decide), mb.J 77 (by decide), mm.I 78 (by decide), mc.I 78 (by decide), mb.I 78 (by decide), a75, a76, a77, a78, if_neg hi, if_neg hi, if_neg hi, if_neg hi]
    exact ⟨rfl, rfl, rfl, rfl⟩
  · rw [mm.I 75 (by decide), mc.I 75 (by decide), mb.I 75 (by decide), a75, if_pos rfl]
  · rw [mm.J 76 (by decide), mc.J 76 (by decide), mb.J 76 (by decide), a76, if_pos rfl]
  · rw [mm.J 77 (by decide), mc.J 77 (by decide), mb.J 77 (by decide), a77, if_pos rfl]
  · rw [mm.I 78 (by decide), mc.I 78 (by decide), mb.I 78 (by decide), a78, if_pos rfl]
  · rw [mm.I 72 (by decide), mc.I 72 (by decide), ob i hi, ma.I 72 (by decide), mm.J 73 (by decide), oc i hi, mb.J 73 (by decide), ma.J 73 (by decide), om i hi, e74]
    exact ⟨rfl, rfl, rfl⟩
  · rw [mm.I 72 (by decide), mc.I 72 (by decide), vb, ma.I 72 (by decide)]
  · rw [mm.J 73 (by decide)]
    rw [mb.J 73 (by decide), ma.J 73 (by decide)] at vc'
    exact vc'
  · rw [vm, e74]
end Mj
