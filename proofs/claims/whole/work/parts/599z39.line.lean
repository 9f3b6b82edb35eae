/-! A line by its first word. -/
def dLn (sa : Nat → Nat) (p0 : Nat) (sr10 : cS) (cr10 dr10 : Nat) (Q : Int32 → cS → Nat → Nat → Prop) : Prop := (okO sr10 7 p0 ∧ C_Re_is sa p0 (0 : Int32) (some (sa 0)) sr10 cr10 dr10 (fun r11 sr11 cr11 dr11 => (if r11 = 0 then (okO sr11 7 p0 ∧ C_Re_is sa p0 (0 : Int32) (some (sa 4)) sr11 cr11 dr11 (fun r12 sr12 cr12 dr12 => (if r12 = 0 then (okO sr12 7 p0 ∧ C_Re_is sa p0 (0 : Int32) (some (sa 5)) sr12 cr12 dr12 (fun r13 sr13 cr13 dr13 => (if r13 = 0 then (okO sr13 7 p0 ∧ C_Re_is sa p0 (0 : Int32) (some (sa 15)) sr13 cr13 dr13 (fun r14 sr14 cr14 dr14 => (if r14 = 0 then (okO sr14 7 p0 ∧ C_Re_is sa p0 (0 : Int32) (some (sa 16)) sr14 cr14 dr14 (fun r15 sr15 cr15 dr15 => (if r15 = 0 then (okO sr15 7 p0 ∧ C_Re_is sa p0 (0 : Int32) (some (sa 17)) sr15 cr15 dr15 (fun r16 sr16 cr16 dr16 => (if r16 = 0 then (okO sr16 7 p0 ∧ C_Re_is sa p0 (0 : Int32) (some (sa 19)) sr16 cr16 dr16 (fun r17 sr17 cr17 dr17 => (if r17 = 0 then (okO sr17 7 p0 ∧ C_Re_is sa p0 (0 : Int32) (some (sa 20)) sr17 cr17 dr17 (fun r18 sr18 cr18 dr18 => (if r18 = 0 then (okO sr18 7 p0 ∧ C_Re_is sa p0 (0 : Int32) (some (sa 25)) sr18 cr18 dr18 (fun r19 sr19 cr19 dr19 => (if r19 = 0 then (okO sr19 7 p0 ∧ C_Re_is sa p0 (0 : Int32) (some (sa 28)) sr19 cr19 dr19 (fun r20 sr20 cr20 dr20 => (if r20 = 0 then (okO sr20 7 p0 ∧ C_Re_is sa p0 (0 : Int32) (some (sa 30)) sr20 cr20 dr20 (fun r21 sr21 cr21 dr21 => (if r21 = 0 then (okO sr21 7 p0 ∧ C_Re_is sa p0 (0 : Int32) (some (sa 31)) sr21 cr21 dr21 (fun r22 sr22 cr22 dr22 => (if r22 = 0 then (okO sr22 7 p0 ∧ C_Re_is sa p0 (0 : Int32) (some (sa 32)) sr22 cr22 dr22 (fun r23 sr23 cr23 dr23 => (if r23 = 0 then (okO sr23 7 p0 ∧ C_Re_is sa p0 (0 : Int32) (some (sa 33)) sr23 cr23 dr23 (fun r24 sr24 cr24 dr24 => (if r24 = 0 then (okO sr24 7 p0 ∧ C_Re_is sa p0 (0 : Int32) (some (sa 36)) sr24 cr24 dr24 (fun r25 sr25 cr25 dr25 => (if r25 = 0 then (okO sr25 7 p0 ∧ C_Re_is sa p0 (0 : Int32) (some (sa 38)) sr25 cr25 dr25 (fun r26 sr26 cr26 dr26 => (if r26 = 0 then (Q (1 : Int32) sr26 cr26 dr26) else (okO sr26 7 p0 ∧ C_Re_timersLine sa p0 sr26 cr26 dr26 (fun r27 sr27 cr27 dr27 => (Q r27 sr27 cr27 dr27)))))) else (okO sr25 7 p0 ∧ C_Re_defaultLine sa p0 sr25 cr25 dr25 (fun r28 sr28 cr28 dr28 => (Q r28 sr28 cr28 dr28)))))) else (okO sr24 7 p0 ∧ C_Re_redistributeLine sa p0 sr24 cr24 dr24 (fun r29 sr29 cr29 dr29 => (Q r29 sr29 cr29 dr29)))))) else (okO sr23 7 p0 ∧ C_Re_neighborLine sa p0 sr23 cr23 dr23 (fun r30 sr30 cr30 dr30 => (Q r30 sr30 cr30 dr30)))))) else (okO sr22 7 p0 ∧ C_Re_summaryLine sa p0 sr22 cr22 dr22 (fun r31 sr31 cr31 dr31 => (Q r31 sr31 cr31 dr31)))))) else (okO sr21 7 p0 ∧ C_Re_offsetLine sa p0 sr21 cr21 dr21 (fun r32 sr32 cr32 dr32 => (Q r32 sr32 cr32 dr32)))))) else (okO sr20 7 p0 ∧ C_Re_distributeLine sa p0 sr20 cr20 dr20 (fun r33 sr33 cr33 dr33 => (Q r33 sr33 cr33 dr33)))))) else (okO sr19 7 p0 ∧ C_Re_listLine sa p0 sr19 cr19 dr19 (fun r34 sr34 cr34 dr34 => (Q r34 sr34 cr34 dr34)))))) else (okO sr18 7 p0 ∧ C_Re_filterLine sa p0 sr18 cr18 dr18 (fun r35 sr35 cr35 dr35 => (Q r35 sr35 cr35 dr35)))))) else (okO sr17 7 p0 ∧ C_Re_nostaticLine sa p0 sr17 cr17 dr17 (fun r36 sr36 cr36 dr36 => (Q r36 sr36 cr36 dr36)))))) else (okO sr16 7 p0 ∧ C_Re_staticLine sa p0 sr16 cr16 dr16 (fun r37 sr37 cr37 dr37 => (Q r37 sr37 cr37 dr37)))))) else (okO sr15 7 p0 ∧ C_Re_nokeyLine sa p0 sr15 cr15 dr15 (fun r38 sr38 cr38 dr38 => (Q r38 sr38 cr38 dr38)))))) else (okO sr14 7 p0 ∧ C_Re_keyLine sa p0 sr14 cr14 dr14 (fun r39 sr39 cr39 dr39 => (Q r39 sr39 cr39 dr39)))))) else (okO sr13 7 p0 ∧ C_Re_joinLine sa p0 sr13 cr13 dr13 (fun r40 sr40 cr40 dr40 => (Q r40 sr40 cr40 dr40)))))) else (okO sr12 7 p0 ∧ C_Re_routerLine sa p0 sr12 cr12 dr12 (fun r41 sr41 cr41 dr41 => (Q r41 sr41 cr41 dr41)))))) else (okO sr11 7 p0 ∧ C_Re_linkLine sa p0 sr11 cr11 dr11 (fun r42 sr42 cr42 dr42 => (Q r42 sr42 cr42 dr42))))))
section Ln
variable {G H : Nat → Nat → Nat} {sa : Nat → Nat} {rd x kc ks : Nat} {s : cS} {t : moS} {l : List Int32} {ws : List (Nat × Nat)} {Os : Nat → List Pf} {B : Int32 → Prop}
theorem LU.is {k : Nat} (c : Int64) {o1 o2 : Option (Int32 × moS)} {C1 C2 : cS → Nat → Nat → (Int32 → cS → Nat → Nat → Prop) → Prop} (h : LX G H sa x rd s t l ws) (h0 : 0 < ws.length) (hk : kOk k = true ∧ cdL (cT k) = c) (a : wC l ws 0 = c → LU G H sa x s t kc ks Os B o1 (C1 s kc ks)) (b : ¬ wC l ws 0 = c → LU G H sa x s t kc ks Os B o2 (C2 s kc ks)) : LU G H sa x s t kc ks Os B (if wC l ws 0 = c then bn2 o1 (fun x s => some (x, s)) else o2) (fun Q => okO s 7 rd ∧ C_Re_is sa rd (0 : Int32) (some (sa k)) s kc ks (fun r sr cr dr => if r = 0 then C2 sr cr dr Q else okO sr 7 rd ∧ C1 sr cr dr (fun r1 s1 c1 d1 => Q r1 s1 c1 d1))) := by
  by_cases e : wC l ws 0 = c
  · obtain ⟨r, t', Os', e1, e2, e3, e4, e5, e6, e7⟩ := a e
    refine ⟨r, t', Os', by rw [if_pos e, e1]; rfl, e2, e3, e4, e5, e6, fun Q k => ⟨h.or, w_isK h.rc h.tk c h0 (by decide) (fun _ => ifF (by decide) ⟨h.or, e7 Q k⟩) (fun z => absurd e z) hk⟩⟩
  · obtain ⟨r, t', Os', e1, e2, e3, e4, e5, e6, e7⟩ := b e
    refine ⟨r, t', Os', by rw [if_neg e, e1], e2, e3, e4, e5, e6, fun Q k => ⟨h.or, w_isK h.rc h.tk c h0 (by decide) (fun z => absurd z e) (fun _ => ifT rfl (e7 Q k)) hk⟩⟩
theorem U_line (h : LX G H sa x rd s t l ws) (h0 : 0 < ws.length) (hE : EX Os t) (hO : ∀ r, (Os r).length < 760) (hs : ∀ i, i < cL t → ¬ t.I 23 i + 1 < 0) (hkc : PoC s G H t + 64 ≤ kc) (hks : PoS s G H t + 1200 ≤ ks) (hgap : ∀ j, j + 1 < ws.length → (ws.getD j (0, 0)).2 < (ws.getD (j + 1) (0, 0)).1) : LU G H sa x s t kc ks Os (fun c => c = 0 → (ws.getD 0 (0, 0)).1 + 13 ≤ (ws.getD (ws.length - 1) (0, 0)).2) (M_line t) (dLn sa rd s kc ks) := by
  have e : M_code t 0 = some (wC l ws 0) := h.code (i := 0) h0
  have hb : ∀ j, j < ws.length → (ws.getD j (0, 0)).1 < (ws.getD j (0, 0)).2 := fun j hj => (h.b hj).1
  have last : ∀ i, i < ws.length → (ws.getD i (0, 0)).2 ≤ (ws.getD (ws.length - 1) (0, 0)).2 := fun i hi => by
    have := gap_mo hgap hb (ws.length - 1 - i) i (by omega)
    rw [show i + (ws.length - 1 - i) = ws.length - 1 by omega] at this
    exact this
  have bj : wC l ws 0 = 664374 → 4 ≤ ws.length → (ws.getD 3 (0, 0)).1 + 4 ≤ (ws.getD 3 (0, 0)).2 → ∀ c : Int32, c = 0 → (ws.getD 0 (0, 0)).1 + 13 ≤ (ws.getD (ws.length - 1) (0, 0)).2 := fun z h4 w c _ => by
    have y0 := wC_len (k := 5) (by decide +kernel) z
    rw [show (cT 5).length = 4 by decide +kernel] at y0
    have := last 3 (by omega)
    have : (ws.getD 0 (0, 0)).2 < (ws.getD 1 (0, 0)).1 := hgap 0 (by omega)
    have : (ws.getD 1 (0, 0)).2 < (ws.getD 2 (0, 0)).1 := hgap 1 (by omega)
    have : (ws.getD 2 (0, 0)).2 < (ws.getD 3 (0, 0)).1 := hgap 2 (by omega)
    have := hb 0 (by omega)
    have := hb 1 (by omega)
    have := hb 2 (by omega)
    omega
  have bs : wC l ws 0 = 1996896363 → ∀ c : Int32, (c = 0 → 4 ≤ ws.length ∧ (ws.getD 2 (0, 0)).1 + 4 ≤ (ws.getD 2 (0, 0)).2) → c = 0 → (ws.getD 0 (0, 0)).1 + 13 ≤ (ws.getD (ws.length - 1) (0, 0)).2 := fun z c w hc => by
    have y0 := wC_len (k := 17) (by decide +kernel) z
    rw [show (cT 17).length = 6 by decide +kernel] at y0
    obtain ⟨w1, w2⟩ := w hc
    have := last 2 (by omega)
    have : (ws.getD 0 (0, 0)).2 < (ws.getD 1 (0, 0)).1 := hgap 0 (by omega)
    have : (ws.getD 1 (0, 0)).2 < (ws.getD 2 (0, 0)).1 := hgap 1 (by omega)
    have := hb 0 (by omega)
    have := hb 1 (by omega)
    omega
  have bn : wC l ws 0 = 2357196896363 → ∀ c : Int32, (c = 0 → 3 ≤ ws.length ∧ (ws.getD 2 (0, 0)).1 + 4 ≤ (ws.getD 2 (0, 0)).2) → c = 0 → (ws.getD 0 (0, 0)).1 + 13 ≤ (ws.getD (ws.length - 1) (0, 0)).2 := fun z c w hc => by
    have y0 := wC_len (k := 19) (by decide +kernel) z
    rw [show (cT 19).length = 8 by decide +kernel] at y0
    obtain ⟨w1, w2⟩ := w hc
    have := last 2 (by omega)
    have : (ws.getD 0 (0, 0)).2 < (ws.getD 1 (0, 0)).1 := hgap 0 (by omega)
    have : (ws.getD 1 (0, 0)).2 < (ws.getD 2 (0, 0)).1 := hgap 1 (by omega)
    have := hb 0 (by omega)
    have := hb 1 (by omega)
    omega
  unfold M_line dLn
  rw [e]
  simp only [Option.bind_some]
  exact LU.is 782971 h h0 (by decide +kernel) (fun _ => U_link h hE (by omega) (by omega)) fun _ =>
    LU.is 1882976218 h h0 (by decide +kernel) (fun _ => U_router h hE (by omega) (by omega)) fun _ =>
    LU.is 664374 h h0 (by decide +kernel) (fun z => P_join h hE hO hs hkc hks (bj z)) fun _ =>
    LU.is 17825 h h0 (by decide +kernel) (fun _ => U_key h hE) fun _ =>
    LU.is 36817825 h h0 (by decide +kernel) (fun _ => U_nokey h hE) fun _ =>
    LU.is 1996896363 h h0 (by decide +kernel) (fun z => U_static h hE hO (by omega) (by omega) (bs z)) fun _ =>
    LU.is 2357196896363 h h0 (by decide +kernel) (fun z => U_nostatic h hE hO (by omega) (by omega) (bn z)) fun _ =>
    LU.is 638240218 h h0 (by decide +kernel) (fun _ => U_filter h hE (by omega) (by omega)) fun _ =>
    LU.is 783180 h h0 (by decide +kernel) (fun z => U_list h hE z (by omega) (by omega)) fun _ =>
    LU.is 1110755146402405 h h0 (by decide +kernel) (fun _ => U_distribute h hE) fun _ =>
    LU.is 1551774620 h h0 (by decide +kernel) (fun _ => U_offset h hE) fun _ =>
    LU.is 80008514345 h h0 (by decide +kernel) (fun _ => U_summary h hE (by omega) (by omega)) fun _ =>
    LU.is 2315180035818 h h0 (by decide +kernel) (fun _ => U_neighbor h hE (by omega) (by omega)) fun _ =>
    LU.is 7603286755146402405 h h0 (by decide +kernel) (fun _ => U_redistribute h hE) fun _ =>
    LU.is 16911458100 h h0 (by decide +kernel) (fun _ => U_default h hE) fun _ =>
    LU.is 2071880739 h h0 (by decide +kernel) (C2 := fun sr cr dr Q => Q 1 sr cr dr) (fun _ => U_timers h hE) fun _ =>
    LU.no h hE mfr.rf 1 rfl fun Q kq => kq s fp.rf
end Ln
