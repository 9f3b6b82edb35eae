set_option maxRecDepth 100000 in
theorem ki_Rr_sendDraft : Cond.instanceMethod ⟨"RoutingField$Router", "sendDraft", "(LRoutingField$Port;LRoutingField$Prefix;)V"⟩ ∈ pw_T := (pw_in 1213 (by decide +kernel) rfl)
set_option maxRecDepth 100000 in
theorem ks_Rr_sendDraft : Cond.selects "RoutingField$Router" ⟨"RoutingField$Router", "sendDraft", "(LRoutingField$Port;LRoutingField$Prefix;)V"⟩ ⟨"RoutingField$Router", "sendDraft", "(LRoutingField$Port;LRoutingField$Prefix;)V"⟩ ∈ pw_T := (pw_sel 41 (q := (⟨"RoutingField$Router", "sendDraft", "(LRoutingField$Port;LRoutingField$Prefix;)V"⟩, 20)) (by decide +kernel))
set_option maxRecDepth 100000 in
theorem ko_Rr_sendDraft : Cond.code ⟨"RoutingField$Router", "sendDraft", "(LRoutingField$Port;LRoutingField$Prefix;)V"⟩ prog_11_method_27_code 5 none ∈ pw_T := (pw_in 1214 rfl rfl)
set_option maxRecDepth 100000 in
theorem kD_Rr_sendDraft : ∀ q ∈ kC_Rr_sendDraft, decode prog_11_method_27_code q.1 = .ok (q.2, pm_len q.1 q.2) := by decide +kernel
set_option maxRecDepth 100000 in
theorem kW_Rr_sendDraft (l : Launch) (D : va_G) (base : Nat) (sa : Nat → Nat) : pm_Met l D kcl base (kZ sa) ⟨"RoutingField$Router", "sendDraft", "(LRoutingField$Port;LRoutingField$Prefix;)V"⟩ (.code ⟨"RoutingField$Router", "sendDraft", "(LRoutingField$Port;LRoutingField$Prefix;)V"⟩ prog_11_method_27_code 5 none :: pw_T) 4 83 (kP_Rr_sendDraft base sa) := by
  refine pm_met (by decide) rfl rfl ?_
  intro mc ms p e s m args below meth c hx hb hml hown hnm hts hbs hZ
  have ht : ∀ w ∈ pw_T, w.before args s = true := fun w h => hts w (List.mem_cons_of_mem _ h)
  exact ⟨hx, hb, hown, hbs, pm_look_all kD_Rr_sendDraft, kf_ok (init := false) ht hZ kF_Rr_ok (fun h => by cases h), km_ok ht kM_Rr_ok, kci_ok ht kI_Rr_ok, kli_ok ht kJ_Rr_ok, kar_ok ht hZ kA_Rr_ok,
    pm_look_all (List.forall_mem_cons.mpr ⟨pm_cokV hbs hZ ⟨hx, hb, hml, hown, hts⟩ (kW_Po_addressOf l D base sa) (fun mc ms => cwV 1 hts (pw_gV (pw_in 978 (w := .methodLink "RoutingField$Router" 133 ⟨"RoutingField$Port", "addressOf", "(I)LRoutingField$Prefix;"⟩) (by decide +kernel) rfl) ki_Po_addressOf ks_Po_addressOf kn_Po ko_Po_addressOf) rfl rfl rfl (by decide +kernel) ⟨Nat.le_of_ble_eq_true rfl, Nat.le_of_ble_eq_true rfl⟩) (ci := 4) rfl, List.forall_mem_cons.mpr ⟨pm_cokV hbs hZ ⟨hx, hb, hml, hown, hts⟩ (kW_Pr_copy l D base sa) (fun mc ms => cwV 1 hts (pw_gV (pw_in 979 (w := .methodLink "RoutingField$Router" 185 ⟨"RoutingField$Prefix", "copy", "(LRoutingField$Prefix;)V"⟩) (by decide +kernel) rfl) ki_Pr_copy ks_Pr_copy kn_Pr ko_Pr_copy) rfl rfl rfl (by decide +kernel) ⟨Nat.le_of_ble_eq_true rfl, Nat.le_of_ble_eq_true rfl⟩) (ci := 5) rfl, List.forall_mem_cons.mpr ⟨pm_cokS hbs hZ ⟨hx, hb, hml, hown, hts⟩ (kW_Pr_bitsOf l D base sa) (fun mc ms => va_cwS 1 hts (pw_gS (pw_in 1215 (w := .methodLink "RoutingField$Router" 376 ⟨"RoutingField$Prefix", "bitsOf", "(I)I"⟩) (by decide +kernel) rfl) kv_Pr_bitsOf kn_Pr ko_Pr_bitsOf) rfl rfl rfl (by decide +kernel) ⟨Nat.le_of_ble_eq_true rfl, Nat.le_of_ble_eq_true rfl⟩) (Nat.le_of_ble_eq_true rfl), List.forall_mem_cons.mpr ⟨pm_cokS hbs hZ ⟨hx, hb, hml, hown, hts⟩ (kW_Da_portOf l D base sa) (fun mc ms => va_cwS 1 hts (pw_gS (pw_in 1216 (w := .methodLink "RoutingField$Router" 385 ⟨"RoutingField$Datagram", "portOf", "(I)I"⟩) (by decide +kernel) rfl) kv_Da_portOf kn_Da ko_Da_portOf) rfl rfl rfl (by decide +kernel) ⟨Nat.le_of_ble_eq_true rfl, Nat.le_of_ble_eq_true rfl⟩) (Nat.le_of_ble_eq_true rfl), List.forall_mem_cons.mpr ⟨pm_cokVN hbs hZ ⟨hx, hb, hml, hown, hts⟩ (kW_Rf_launch l D base sa) (fun mc ms => ⟨va_cnB 1 hts (pw_gC ko_Rf_launch) rfl rfl rfl (hZ.2.2.2.1 _ (List.mem_of_getElem? (i := 1) rfl)) (ht _ kn_Rf) (by decide +kernel) ⟨Nat.le_of_ble_eq_true rfl, Nat.le_of_ble_eq_true rfl⟩, ht _ ki_Rf_launch, ht _ ks_Rf_launch⟩) (ci := 11) rfl, fun _ h => absurd h List.not_mem_nil⟩⟩⟩⟩⟩),
    hZ, kst_ok ht hZ (kS_Rr_ok sa), knar_ok ht, ktx_ok (kE_Rr_ok sa)⟩
set_option maxRecDepth 100000 in
theorem ki_Rr_ask : Cond.instanceMethod ⟨"RoutingField$Router", "ask", "(LRoutingField$Port;I)V"⟩ ∈ pw_T := (pw_in 1112 (by decide +kernel) rfl)
set_option maxRecDepth 100000 in
theorem ks_Rr_ask : Cond.selects "RoutingField$Router" ⟨"RoutingField$Router", "ask", "(LRoutingField$Port;I)V"⟩ ⟨"RoutingField$Router", "ask", "(LRoutingField$Port;I)V"⟩ ∈ pw_T := (pw_in 1113 (by decide +kernel) rfl)
set_option maxRecDepth 100000 in
theorem ko_Rr_ask : Cond.code ⟨"RoutingField$Router", "ask", "(LRoutingField$Port;I)V"⟩ prog_11_method_29_code 4 none ∈ pw_T := (pw_in 1114 rfl rfl)
set_option maxRecDepth 100000 in
theorem kD_Rr_ask : ∀ q ∈ kC_Rr_ask, decode prog_11_method_29_code q.1 = .ok (q.2, pm_len q.1 q.2) := by decide +kernel
set_option maxRecDepth 100000 in
theorem kW_Rr_ask (l : Launch) (D : va_G) (base : Nat) (sa : Nat → Nat) : pm_Met l D kcl base (kZ sa) ⟨"RoutingField$Router", "ask", "(LRoutingField$Port;I)V"⟩ (.code ⟨"RoutingField$Router", "ask", "(LRoutingField$Port;I)V"⟩ prog_11_method_29_code 4 none :: pw_T) 5 107 (kP_Rr_ask base sa) := by
  refine pm_met (by decide) rfl rfl ?_
  intro mc ms p e s m args below meth c hx hb hml hown hnm hts hbs hZ
  have ht : ∀ w ∈ pw_T, w.before args s = true := fun w h => hts w (List.mem_cons_of_mem _ h)
  exact ⟨hx, hb, hown, hbs, pm_look_all kD_Rr_ask, kf_ok (init := false) ht hZ kF_Rr_ok (fun h => by cases h), km_ok ht kM_Rr_ok, kci_ok ht kI_Rr_ok, kli_ok ht kJ_Rr_ok, kar_ok ht hZ kA_Rr_ok,
    pm_look_all (List.forall_mem_cons.mpr ⟨pm_cokV hbs hZ ⟨hx, hb, hml, hown, hts⟩ (kW_Rr_openDraft l D base sa) (fun mc ms => cwV 3 hts (pw_gV (pw_in 1115 (w := .methodLink "RoutingField$Router" 399 ⟨"RoutingField$Router", "openDraft", "(LRoutingField$Port;II)I"⟩) (by decide +kernel) rfl) ki_Rr_openDraft ks_Rr_openDraft kn_Rr ko_Rr_openDraft) rfl rfl rfl (by decide +kernel) ⟨Nat.le_of_ble_eq_true rfl, Nat.le_of_ble_eq_true rfl⟩) (ci := 9) rfl, List.forall_mem_cons.mpr ⟨pm_cokV hbs hZ ⟨hx, hb, hml, hown, hts⟩ (kW_By_addZeros l D base sa) (fun mc ms => cwV 1 hts (pw_gV (pw_in 1128 (w := .methodLink "RoutingField$Router" 356 ⟨"RoutingField$Bytes", "addZeros", "(I)V"⟩) (by decide +kernel) rfl) ki_By_addZeros ks_By_addZeros kn_By ko_By_addZeros) rfl rfl rfl (by decide +kernel) ⟨Nat.le_of_ble_eq_true rfl, Nat.le_of_ble_eq_true rfl⟩) (ci := 0) rfl, List.forall_mem_cons.mpr ⟨pm_cokV hbs hZ ⟨hx, hb, hml, hown, hts⟩ (kW_By_add l D base sa) (fun mc ms => cwV 1 hts (pw_gV (pw_in 1127 (w := .methodLink "RoutingField$Router" 354 ⟨"RoutingField$Bytes", "add", "(I)V"⟩) (by decide +kernel) rfl) ki_By_add ks_By_add kn_By ko_By_add) rfl rfl rfl (by decide +kernel) ⟨Nat.le_of_ble_eq_true rfl, Nat.le_of_ble_eq_true rfl⟩) (ci := 0) rfl, List.forall_mem_cons.mpr ⟨pm_cokV hbs hZ ⟨hx, hb, hml, hown, hts⟩ (kW_Ch_seal l D base sa) (fun mc ms => cwV 2 hts (pw_gV (pw_in 1146 (w := .methodLink "RoutingField$Router" 410 ⟨"RoutingField$Chain", "seal", "(LRoutingField$Bytes;I)V"⟩) (by decide +kernel) rfl) ki_Ch_seal ks_Ch_seal kn_Ch ko_Ch_seal) rfl rfl rfl (by decide +kernel) ⟨Nat.le_of_ble_eq_true rfl, Nat.le_of_ble_eq_true rfl⟩) (ci := 1) rfl, List.forall_mem_cons.mpr ⟨pm_cokV hbs hZ ⟨hx, hb, hml, hown, hts⟩ (kW_Rr_sendDraft l D base sa) (fun mc ms => cwV 2 hts (pw_gV (pw_in 1211 (w := .methodLink "RoutingField$Router" 414 ⟨"RoutingField$Router", "sendDraft", "(LRoutingField$Port;LRoutingField$Prefix;)V"⟩) (by decide +kernel) rfl) ki_Rr_sendDraft ks_Rr_sendDraft kn_Rr ko_Rr_sendDraft) rfl rfl rfl (by decide +kernel) ⟨Nat.le_of_ble_eq_true rfl, Nat.le_of_ble_eq_true rfl⟩) (ci := 9) rfl, fun _ h => absurd h List.not_mem_nil⟩⟩⟩⟩⟩),
    hZ, kst_ok ht hZ (kS_Rr_ok sa), knar_ok ht, ktx_ok (kE_Rr_ok sa)⟩
set_option maxRecDepth 100000 in
theorem ki_Re_joinLine : Cond.instanceMethod ⟨"RoutingField$Reader", "joinLine", "()I"⟩ ∈ pw_T := (pw_in 737 (by decide +kernel) rfl)
set_option maxRecDepth 100000 in
theorem ks_Re_joinLine : Cond.selects "RoutingField$Reader" ⟨"RoutingField$Reader", "joinLine", "()I"⟩ ⟨"RoutingField$Reader", "joinLine", "()I"⟩ ∈ pw_T := (pw_sel 11 (q := (⟨"RoutingField$Reader", "joinLine", "()I"⟩, 12)) (by decide +kernel))
set_option maxRecDepth 100000 in
theorem ko_Re_joinLine : Cond.code ⟨"RoutingField$Reader", "joinLine", "()I"⟩ prog_9_method_20_code 5 (some .int) ∈ pw_T := (pw_in 738 rfl rfl)
set_option maxRecDepth 100000 in
theorem kD_Re_joinLine_0 : ∀ q ∈ kC_Re_joinLine_0, decode prog_9_method_20_code q.1 = .ok (q.2, pm_len q.1 q.2) := by decide +kernel
set_option maxRecDepth 100000 in
theorem kD_Re_joinLine_1 : ∀ q ∈ kC_Re_joinLine_1, decode prog_9_method_20_code q.1 = .ok (q.2, pm_len q.1 q.2) := by decide +kernel
theorem kD_Re_joinLine : ∀ q ∈ kC_Re_joinLine, decode prog_9_method_20_code q.1 = .ok (q.2, pm_len q.1 q.2) := List.forall_mem_append.mpr ⟨kD_Re_joinLine_0, kD_Re_joinLine_1⟩
set_option maxRecDepth 100000 in
theorem kW_Re_joinLine (l : Launch) (D : va_G) (base : Nat) (sa : Nat → Nat) : pm_Met l D kcl base (kZ sa) ⟨"RoutingField$Reader", "joinLine", "()I"⟩ (.code ⟨"RoutingField$Reader", "joinLine", "()I"⟩ prog_9_method_20_code 5 (some .int) :: pw_T) 8 191 (kP_Re_joinLine base sa) := by
  refine pm_met (by decide) rfl rfl ?_
  intro mc ms p e s m args below meth c hx hb hml hown hnm hts hbs hZ
  have ht : ∀ w ∈ pw_T, w.before args s = true := fun w h => hts w (List.mem_cons_of_mem _ h)
  exact ⟨hx, hb, hown, hbs, pm_look_all kD_Re_joinLine, kf_ok (init := false) ht hZ kF_Re_ok (fun h => by cases h), km_ok ht kM_Re_ok, kci_ok ht kI_Re_ok, kli_ok ht kJ_Re_ok, kar_ok ht hZ kA_Re_ok,
    pm_look_all (List.forall_mem_cons.mpr ⟨pm_cokV hbs hZ ⟨hx, hb, hml, hown, hts⟩ (kW_Re_hasJoinOptions l D base sa) (fun mc ms => cwV 0 hts (pw_gV (pw_in 739 (w := .methodLink "RoutingField$Reader" 269 ⟨"RoutingField$Reader", "hasJoinOptions", "()Z"⟩) (by decide +kernel) rfl) ki_Re_hasJoinOptions ks_Re_hasJoinOptions kn_Re ko_Re_hasJoinOptions) rfl rfl rfl (by decide +kernel) ⟨Nat.le_of_ble_eq_true rfl, Nat.le_of_ble_eq_true rfl⟩) (ci := 7) rfl, List.forall_mem_cons.mpr ⟨pm_cokV hbs hZ ⟨hx, hb, hml, hown, hts⟩ (kW_Re_routerNamed l D base sa) (fun mc ms => cwV 1 hts (pw_gV (pw_in 592 (w := .methodLink "RoutingField$Reader" 227 ⟨"RoutingField$Reader", "routerNamed", "(I)LRoutingField$Router;"⟩) (by decide +kernel) rfl) ki_Re_routerNamed ks_Re_routerNamed kn_Re ko_Re_routerNamed) rfl rfl rfl (by decide +kernel) ⟨Nat.le_of_ble_eq_true rfl, Nat.le_of_ble_eq_true rfl⟩) (ci := 7) rfl, List.forall_mem_cons.mpr ⟨pm_cokV hbs hZ ⟨hx, hb, hml, hown, hts⟩ (kW_Re_linkNamed l D base sa) (fun mc ms => cwV 1 hts (pw_gV (pw_in 468 (w := .methodLink "RoutingField$Reader" 231 ⟨"RoutingField$Reader", "linkNamed", "(I)I"⟩) (by decide +kernel) rfl) ki_Re_linkNamed ks_Re_linkNamed kn_Re ko_Re_linkNamed) rfl rfl rfl (by decide +kernel) ⟨Nat.le_of_ble_eq_true rfl, Nat.le_of_ble_eq_true rfl⟩) (ci := 7) rfl, List.forall_mem_cons.mpr ⟨pm_cokVN hbs hZ ⟨hx, hb, hml, hown, hts⟩ (kW_Rf_linkAt l D base sa) (fun mc ms => ⟨va_cnB 1 hts (pw_gC ko_Rf_linkAt) rfl rfl rfl (hZ.2.2.2.1 _ (List.mem_of_getElem? (i := 0) rfl)) (ht _ kn_Rf) (by decide +kernel) ⟨Nat.le_of_ble_eq_true rfl, Nat.le_of_ble_eq_true rfl⟩, ht _ ki_Rf_linkAt, ht _ ks_Rf_linkAt⟩) (ci := 11) rfl, List.forall_mem_cons.mpr ⟨pm_cokV hbs hZ ⟨hx, hb, hml, hown, hts⟩ (kW_Re_takePrefix l D base sa) (fun mc ms => cwV 2 hts (pw_gV (pw_in 767 (w := .methodLink "RoutingField$Reader" 272 ⟨"RoutingField$Reader", "takePrefix", "(IZ)Z"⟩) (by decide +kernel) rfl) ki_Re_takePrefix ks_Re_takePrefix kn_Re ko_Re_takePrefix) rfl rfl rfl (by decide +kernel) ⟨Nat.le_of_ble_eq_true rfl, Nat.le_of_ble_eq_true rfl⟩) (ci := 7) rfl, List.forall_mem_cons.mpr ⟨pm_cokV hbs hZ ⟨hx, hb, hml, hown, hts⟩ (kW_Rr_portOn l D base sa) (fun mc ms => cwV 1 hts (pw_gV (pw_in 816 (w := .methodLink "RoutingField$Reader" 238 ⟨"RoutingField$Router", "portOn", "(LRoutingField$Link;)LRoutingField$Port;"⟩) (by decide +kernel) rfl) ki_Rr_portOn ks_Rr_portOn kn_Rr ko_Rr_portOn) rfl rfl rfl (by decide +kernel) ⟨Nat.le_of_ble_eq_true rfl, Nat.le_of_ble_eq_true rfl⟩) (ci := 9) rfl, List.forall_mem_cons.mpr ⟨pm_cokV hbs hZ ⟨hx, hb, hml, hown, hts⟩ (kW_Po_addressOf l D base sa) (fun mc ms => cwV 1 hts (pw_gV (pw_in 820 (w := .methodLink "RoutingField$Reader" 279 ⟨"RoutingField$Port", "addressOf", "(I)LRoutingField$Prefix;"⟩) (by decide +kernel) rfl) ki_Po_addressOf ks_Po_addressOf kn_Po ko_Po_addressOf) rfl rfl rfl (by decide +kernel) ⟨Nat.le_of_ble_eq_true rfl, Nat.le_of_ble_eq_true rfl⟩) (ci := 4) rfl, List.forall_mem_cons.mpr ⟨pm_cokV hbs hZ ⟨hx, hb, hml, hown, hts⟩ (kW_Re_takeJoinOptions l D base sa) (fun mc ms => cwV 1 hts (pw_gV (pw_in 824 (w := .methodLink "RoutingField$Reader" 285 ⟨"RoutingField$Reader", "takeJoinOptions", "(LRoutingField$Port;)I"⟩) (by decide +kernel) rfl) ki_Re_takeJoinOptions ks_Re_takeJoinOptions kn_Re ko_Re_takeJoinOptions) rfl rfl rfl (by decide +kernel) ⟨Nat.le_of_ble_eq_true rfl, Nat.le_of_ble_eq_true rfl⟩) (ci := 7) rfl, List.forall_mem_cons.mpr ⟨pm_cokV hbs hZ ⟨hx, hb, hml, hown, hts⟩ (kW_Rr_addPort l D base sa) (fun mc ms => cwV 1 hts (pw_gV (pw_in 858 (w := .methodLink "RoutingField$Reader" 292 ⟨"RoutingField$Router", "addPort", "(LRoutingField$Link;)LRoutingField$Port;"⟩) (by decide +kernel) rfl) ki_Rr_addPort ks_Rr_addPort kn_Rr ko_Rr_addPort) rfl rfl rfl (by decide +kernel) ⟨Nat.le_of_ble_eq_true rfl, Nat.le_of_ble_eq_true rfl⟩) (ci := 9) rfl, List.forall_mem_cons.mpr ⟨pm_cokV hbs hZ ⟨hx, hb, hml, hown, hts⟩ (kW_Re_setJoined l D base sa) (fun mc ms => cwV 1 hts (pw_gV (pw_in 961 (w := .methodLink "RoutingField$Reader" 295 ⟨"RoutingField$Reader", "setJoined", "(LRoutingField$Port;)V"⟩) (by decide +kernel) rfl) ki_Re_setJoined ks_Re_setJoined kn_Re ko_Re_setJoined) rfl rfl rfl (by decide +kernel) ⟨Nat.le_of_ble_eq_true rfl, Nat.le_of_ble_eq_true rfl⟩) (ci := 7) rfl, List.forall_mem_cons.mpr ⟨pm_cokV hbs hZ ⟨hx, hb, hml, hown, hts⟩ (kW_Rr_settlePort l D base sa) (fun mc ms => cwV 1 hts (pw_gV (pw_in 974 (w := .methodLink "RoutingField$Reader" 305 ⟨"RoutingField$Router", "settlePort", "(LRoutingField$Port;)V"⟩) (by decide +kernel) rfl) ki_Rr_settlePort ks_Rr_settlePort kn_Rr ko_Rr_settlePort) rfl rfl rfl (by decide +kernel) ⟨Nat.le_of_ble_eq_true rfl, Nat.le_of_ble_eq_true rfl⟩) (ci := 9) rfl, List.forall_mem_cons.mpr ⟨pm_cokV hbs hZ ⟨hx, hb, hml, hown, hts⟩ (kW_Rr_ask l D base sa) (fun mc ms => cwV 2 hts (pw_gV (pw_in 1111 (w := .methodLink "RoutingField$Reader" 308 ⟨"RoutingField$Router", "ask", "(LRoutingField$Port;I)V"⟩) (by decide +kernel) rfl) ki_Rr_ask ks_Rr_ask kn_Rr ko_Rr_ask) rfl rfl rfl (by decide +kernel) ⟨Nat.le_of_ble_eq_true rfl, Nat.le_of_ble_eq_true rfl⟩) (ci := 9) rfl, fun _ h => absurd h List.not_mem_nil⟩⟩⟩⟩⟩⟩⟩⟩⟩⟩⟩⟩),
    hZ, kst_ok ht hZ (kS_Re_ok sa), knar_ok ht, ktx_ok (kE_Re_ok sa)⟩
set_option maxRecDepth 100000 in
theorem ki_Re_isEither : Cond.instanceMethod ⟨"RoutingField$Reader", "isEither", "(ILjava/lang/String;Ljava/lang/String;)Z"⟩ ∈ pw_T := (pw_in 1238 (by decide +kernel) rfl)
set_option maxRecDepth 100000 in
theorem ks_Re_isEither : Cond.selects "RoutingField$Reader" ⟨"RoutingField$Reader", "isEither", "(ILjava/lang/String;Ljava/lang/String;)Z"⟩ ⟨"RoutingField$Reader", "isEither", "(ILjava/lang/String;Ljava/lang/String;)Z"⟩ ∈ pw_T := (pw_sel 44 (q := (⟨"RoutingField$Reader", "isEither", "(ILjava/lang/String;Ljava/lang/String;)Z"⟩, 12)) (by decide +kernel))
set_option maxRecDepth 100000 in
theorem ko_Re_isEither : Cond.code ⟨"RoutingField$Reader", "isEither", "(ILjava/lang/String;Ljava/lang/String;)Z"⟩ prog_9_method_15_code 4 (some .boolean) ∈ pw_T := (pw_in 1239 rfl rfl)
set_option maxRecDepth 100000 in
theorem kD_Re_isEither : ∀ q ∈ kC_Re_isEither, decode prog_9_method_15_code q.1 = .ok (q.2, pm_len q.1 q.2) := by decide +kernel
set_option maxRecDepth 100000 in
theorem kW_Re_isEither (l : Launch) (D : va_G) (base : Nat) (sa : Nat → Nat) : pm_Met l D kcl base (kZ sa) ⟨"RoutingField$Reader", "isEither", "(ILjava/lang/String;Ljava/lang/String;)Z"⟩ (.code ⟨"RoutingField$Reader", "isEither", "(ILjava/lang/String;Ljava/lang/String;)Z"⟩ prog_9_method_15_code 4 (some .boolean) :: pw_T) 6 145 (kP_Re_isEither base sa) := by
  refine pm_met (by decide) rfl rfl ?_
  intro mc ms p e s m args below meth c hx hb hml hown hnm hts hbs hZ
  have ht : ∀ w ∈ pw_T, w.before args s = true := fun w h => hts w (List.mem_cons_of_mem _ h)
  exact ⟨hx, hb, hown, hbs, pm_look_all kD_Re_isEither, kf_ok (init := false) ht hZ kF_Re_ok (fun h => by cases h), km_ok ht kM_Re_ok, kci_ok ht kI_Re_ok, kli_ok ht kJ_Re_ok, kar_ok ht hZ kA_Re_ok,
    pm_look_all (List.forall_mem_cons.mpr ⟨pm_cokV hbs hZ ⟨hx, hb, hml, hown, hts⟩ (kW_Re_is l D base sa) (fun mc ms => cwV 2 hts (pw_gV (pw_in 398 (w := .methodLink "RoutingField$Reader" 76 ⟨"RoutingField$Reader", "is", "(ILjava/lang/String;)Z"⟩) (by decide +kernel) rfl) ki_Re_is ks_Re_is kn_Re ko_Re_is) rfl rfl rfl (by decide +kernel) ⟨Nat.le_of_ble_eq_true rfl, Nat.le_of_ble_eq_true rfl⟩) (ci := 7) rfl, fun _ h => absurd h List.not_mem_nil⟩),
    hZ, kst_ok ht hZ (kS_Re_ok sa), knar_ok ht, ktx_ok (kE_Re_ok sa)⟩
set_option maxRecDepth 100000 in
theorem ki_Re_portNamed : Cond.instanceMethod ⟨"RoutingField$Reader", "portNamed", "()LRoutingField$Port;"⟩ ∈ pw_T := (pw_in 1242 (by decide +kernel) rfl)
set_option maxRecDepth 100000 in
theorem ks_Re_portNamed : Cond.selects "RoutingField$Reader" ⟨"RoutingField$Reader", "portNamed", "()LRoutingField$Port;"⟩ ⟨"RoutingField$Reader", "portNamed", "()LRoutingField$Port;"⟩ ∈ pw_T := (pw_sel 45 (q := (⟨"RoutingField$Reader", "portNamed", "()LRoutingField$Port;"⟩, 12)) (by decide +kernel))
set_option maxRecDepth 100000 in
theorem ko_Re_portNamed : Cond.code ⟨"RoutingField$Reader", "portNamed", "()LRoutingField$Port;"⟩ prog_9_method_14_code 3 (some (.object "RoutingField$Port")) ∈ pw_T := (pw_in 1243 rfl rfl)
set_option maxRecDepth 100000 in
theorem kD_Re_portNamed : ∀ q ∈ kC_Re_portNamed, decode prog_9_method_14_code q.1 = .ok (q.2, pm_len q.1 q.2) := by decide +kernel
set_option maxRecDepth 100000 in
theorem kW_Re_portNamed (l : Launch) (D : va_G) (base : Nat) (sa : Nat → Nat) : pm_Met l D kcl base (kZ sa) ⟨"RoutingField$Reader", "portNamed", "()LRoutingField$Port;"⟩ (.code ⟨"RoutingField$Reader", "portNamed", "()LRoutingField$Port;"⟩ prog_9_method_14_code 3 (some (.object "RoutingField$Port")) :: pw_T) 7 167 (kP_Re_portNamed base sa) := by
  refine pm_met (by decide) rfl rfl ?_
  intro mc ms p e s m args below meth c hx hb hml hown hnm hts hbs hZ
  have ht : ∀ w ∈ pw_T, w.before args s = true := fun w h => hts w (List.mem_cons_of_mem _ h)
  exact ⟨hx, hb, hown, hbs, pm_look_all kD_Re_portNamed, kf_ok (init := false) ht hZ kF_Re_ok (fun h => by cases h), km_ok ht kM_Re_ok, kci_ok ht kI_Re_ok, kli_ok ht kJ_Re_ok, kar_ok ht hZ kA_Re_ok,
    pm_look_all (List.forall_mem_cons.mpr ⟨pm_cokV hbs hZ ⟨hx, hb, hml, hown, hts⟩ (kW_Re_routerNamed l D base sa) (fun mc ms => cwV 1 hts (pw_gV (pw_in 592 (w := .methodLink "RoutingField$Reader" 227 ⟨"RoutingField$Reader", "routerNamed", "(I)LRoutingField$Router;"⟩) (by decide +kernel) rfl) ki_Re_routerNamed ks_Re_routerNamed kn_Re ko_Re_routerNamed) rfl rfl rfl (by decide +kernel) ⟨Nat.le_of_ble_eq_true rfl, Nat.le_of_ble_eq_true rfl⟩) (ci := 7) rfl, List.forall_mem_cons.mpr ⟨pm_cokV hbs hZ ⟨hx, hb, hml, hown, hts⟩ (kW_Re_linkNamed l D base sa) (fun mc ms => cwV 1 hts (pw_gV (pw_in 468 (w := .methodLink "RoutingField$Reader" 231 ⟨"RoutingField$Reader", "linkNamed", "(I)I"⟩) (by decide +kernel) rfl) ki_Re_linkNamed ks_Re_linkNamed kn_Re ko_Re_linkNamed) rfl rfl rfl (by decide +kernel) ⟨Nat.le_of_ble_eq_true rfl, Nat.le_of_ble_eq_true rfl⟩) (ci := 7) rfl, List.forall_mem_cons.mpr ⟨pm_cokVN hbs hZ ⟨hx, hb, hml, hown, hts⟩ (kW_Rf_linkAt l D base sa) (fun mc ms => ⟨va_cnB 1 hts (pw_gC ko_Rf_linkAt) rfl rfl rfl (hZ.2.2.2.1 _ (List.mem_of_getElem? (i := 0) rfl)) (ht _ kn_Rf) (by decide +kernel) ⟨Nat.le_of_ble_eq_true rfl, Nat.le_of_ble_eq_true rfl⟩, ht _ ki_Rf_linkAt, ht _ ks_Rf_linkAt⟩) (ci := 11) rfl, List.forall_mem_cons.mpr ⟨pm_cokV hbs hZ ⟨hx, hb, hml, hown, hts⟩ (kW_Rr_portOn l D base sa) (fun mc ms => cwV 1 hts (pw_gV (pw_in 816 (w := .methodLink "RoutingField$Reader" 238 ⟨"RoutingField$Router", "portOn", "(LRoutingField$Link;)LRoutingField$Port;"⟩) (by decide +kernel) rfl) ki_Rr_portOn ks_Rr_portOn kn_Rr ko_Rr_portOn) rfl rfl rfl (by decide +kernel) ⟨Nat.le_of_ble_eq_true rfl, Nat.le_of_ble_eq_true rfl⟩) (ci := 9) rfl, fun _ h => absurd h List.not_mem_nil⟩⟩⟩⟩),
    hZ, kst_ok ht hZ (kS_Re_ok sa), knar_ok ht, ktx_ok (kE_Re_ok sa)⟩
set_option maxRecDepth 100000 in
theorem ki_Re_keyLine : Cond.instanceMethod ⟨"RoutingField$Reader", "keyLine", "()I"⟩ ∈ pw_T := (pw_in 1234 (by decide +kernel) rfl)
set_option maxRecDepth 100000 in
theorem ks_Re_keyLine : Cond.selects "RoutingField$Reader" ⟨"RoutingField$Reader", "keyLine", "()I"⟩ ⟨"RoutingField$Reader", "keyLine", "()I"⟩ ∈ pw_T := (pw_sel 43 (q := (⟨"RoutingField$Reader", "keyLine", "()I"⟩, 12)) (by decide +kernel))
set_option maxRecDepth 100000 in
theorem ko_Re_keyLine : Cond.code ⟨"RoutingField$Reader", "keyLine", "()I"⟩ prog_9_method_28_code 6 (some .int) ∈ pw_T := (pw_in 1235 rfl rfl)
set_option maxRecDepth 100000 in
theorem kD_Re_keyLine_0 : ∀ q ∈ kC_Re_keyLine_0, decode prog_9_method_28_code q.1 = .ok (q.2, pm_len q.1 q.2) := by decide +kernel
set_option maxRecDepth 100000 in
theorem kD_Re_keyLine_1 : ∀ q ∈ kC_Re_keyLine_1, decode prog_9_method_28_code q.1 = .ok (q.2, pm_len q.1 q.2) := by decide +kernel
theorem kD_Re_keyLine : ∀ q ∈ kC_Re_keyLine, decode prog_9_method_28_code q.1 = .ok (q.2, pm_len q.1 q.2) := List.forall_mem_append.mpr ⟨kD_Re_keyLine_0, kD_Re_keyLine_1⟩
set_option maxRecDepth 100000 in
theorem kW_Re_keyLine (l : Launch) (D : va_G) (base : Nat) (sa : Nat → Nat) : pm_Met l D kcl base (kZ sa) ⟨"RoutingField$Reader", "keyLine", "()I"⟩ (.code ⟨"RoutingField$Reader", "keyLine", "()I"⟩ prog_9_method_28_code 6 (some .int) :: pw_T) 8 189 (kP_Re_keyLine base sa) := by
  refine pm_met (by decide) rfl rfl ?_
  intro mc ms p e s m args below meth c hx hb hml hown hnm hts hbs hZ
  have ht : ∀ w ∈ pw_T, w.before args s = true := fun w h => hts w (List.mem_cons_of_mem _ h)
  exact ⟨hx, hb, hown, hbs, pm_look_all kD_Re_keyLine, kf_ok (init := false) ht hZ kF_Re_ok (fun h => by cases h), km_ok ht kM_Re_ok, kci_ok ht kI_Re_ok, kli_ok ht kJ_Re_ok, kar_ok ht hZ kA_Re_ok,
    pm_look_all (List.forall_mem_cons.mpr ⟨pm_cokV hbs hZ ⟨hx, hb, hml, hown, hts⟩ (kW_Re_isEither l D base sa) (fun mc ms => cwV 3 hts (pw_gV (pw_in 1236 (w := .methodLink "RoutingField$Reader" 366 ⟨"RoutingField$Reader", "isEither", "(ILjava/lang/String;Ljava/lang/String;)Z"⟩) (by decide +kernel) rfl) ki_Re_isEither ks_Re_isEither kn_Re ko_Re_isEither) rfl rfl rfl (by decide +kernel) ⟨Nat.le_of_ble_eq_true rfl, Nat.le_of_ble_eq_true rfl⟩) (ci := 7) rfl, List.forall_mem_cons.mpr ⟨pm_cokV hbs hZ ⟨hx, hb, hml, hown, hts⟩ (kW_Re_portNamed l D base sa) (fun mc ms => cwV 0 hts (pw_gV (pw_in 1240 (w := .methodLink "RoutingField$Reader" 369 ⟨"RoutingField$Reader", "portNamed", "()LRoutingField$Port;"⟩) (by decide +kernel) rfl) ki_Re_portNamed ks_Re_portNamed kn_Re ko_Re_portNamed) rfl rfl rfl (by decide +kernel) ⟨Nat.le_of_ble_eq_true rfl, Nat.le_of_ble_eq_true rfl⟩) (ci := 7) rfl, List.forall_mem_cons.mpr ⟨pm_cokV hbs hZ ⟨hx, hb, hml, hown, hts⟩ (kW_Re_number l D base sa) (fun mc ms => cwV 3 hts (pw_gV (pw_in 472 (w := .methodLink "RoutingField$Reader" 255 ⟨"RoutingField$Reader", "number", "(III)I"⟩) (by decide +kernel) rfl) ki_Re_number ks_Re_number kn_Re ko_Re_number) rfl rfl rfl (by decide +kernel) ⟨Nat.le_of_ble_eq_true rfl, Nat.le_of_ble_eq_true rfl⟩) (ci := 7) rfl, List.forall_mem_cons.mpr ⟨pm_cokV hbs hZ ⟨hx, hb, hml, hown, hts⟩ (kW_Re_takeSecret l D base sa) (fun mc ms => cwV 1 hts (pw_gV (pw_in 843 (w := .methodLink "RoutingField$Reader" 347 ⟨"RoutingField$Reader", "takeSecret", "(I)Z"⟩) (by decide +kernel) rfl) ki_Re_takeSecret ks_Re_takeSecret kn_Re ko_Re_takeSecret) rfl rfl rfl (by decide +kernel) ⟨Nat.le_of_ble_eq_true rfl, Nat.le_of_ble_eq_true rfl⟩) (ci := 7) rfl, List.forall_mem_cons.mpr ⟨pm_cokV hbs hZ ⟨hx, hb, hml, hown, hts⟩ (kW_Re_is l D base sa) (fun mc ms => cwV 2 hts (pw_gV (pw_in 398 (w := .methodLink "RoutingField$Reader" 76 ⟨"RoutingField$Reader", "is", "(ILjava/lang/String;)Z"⟩) (by decide +kernel) rfl) ki_Re_is ks_Re_is kn_Re ko_Re_is) rfl rfl rfl (by decide +kernel) ⟨Nat.le_of_ble_eq_true rfl, Nat.le_of_ble_eq_true rfl⟩) (ci := 7) rfl, List.forall_mem_cons.mpr ⟨pm_cokV hbs hZ ⟨hx, hb, hml, hown, hts⟩ (kW_Ch_setKey l D base sa) (fun mc ms => cwV 5 hts (pw_gV (pw_in 853 (w := .methodLink "RoutingField$Reader" 355 ⟨"RoutingField$Chain", "setKey", "(II[BII)Z"⟩) (by decide +kernel) rfl) ki_Ch_setKey ks_Ch_setKey kn_Ch ko_Ch_setKey) rfl rfl rfl (by decide +kernel) ⟨Nat.le_of_ble_eq_true rfl, Nat.le_of_ble_eq_true rfl⟩) (ci := 1) rfl, fun _ h => absurd h List.not_mem_nil⟩⟩⟩⟩⟩⟩),
    hZ, kst_ok ht hZ (kS_Re_ok sa), knar_ok ht, ktx_ok (kE_Re_ok sa)⟩
set_option maxRecDepth 100000 in
theorem ki_Re_nokeyLine : Cond.instanceMethod ⟨"RoutingField$Reader", "nokeyLine", "()I"⟩ ∈ pw_T := (pw_in 1247 (by decide +kernel) rfl)
set_option maxRecDepth 100000 in
theorem ks_Re_nokeyLine : Cond.selects "RoutingField$Reader" ⟨"RoutingField$Reader", "nokeyLine", "()I"⟩ ⟨"RoutingField$Reader", "nokeyLine", "()I"⟩ ∈ pw_T := (pw_sel 46 (q := (⟨"RoutingField$Reader", "nokeyLine", "()I"⟩, 12)) (by decide +kernel))
set_option maxRecDepth 100000 in
theorem ko_Re_nokeyLine : Cond.code ⟨"RoutingField$Reader", "nokeyLine", "()I"⟩ prog_9_method_29_code 2 (some .int) ∈ pw_T := (pw_in 1248 rfl rfl)
set_option maxRecDepth 100000 in
theorem kD_Re_nokeyLine : ∀ q ∈ kC_Re_nokeyLine, decode prog_9_method_29_code q.1 = .ok (q.2, pm_len q.1 q.2) := by decide +kernel
set_option maxRecDepth 100000 in
theorem kW_Re_nokeyLine (l : Launch) (D : va_G) (base : Nat) (sa : Nat → Nat) : pm_Met l D kcl base (kZ sa) ⟨"RoutingField$Reader", "nokeyLine", "()I"⟩ (.code ⟨"RoutingField$Reader", "nokeyLine", "()I"⟩ prog_9_method_29_code 2 (some .int) :: pw_T) 8 189 (kP_Re_nokeyLine base sa) := by
  refine pm_met (by decide) rfl rfl ?_
  intro mc ms p e s m args below meth c hx hb hml hown hnm hts hbs hZ
  have ht : ∀ w ∈ pw_T, w.before args s = true := fun w h => hts w (List.mem_cons_of_mem _ h)
  exact ⟨hx, hb, hown, hbs, pm_look_all kD_Re_nokeyLine, kf_ok (init := false) ht hZ kF_Re_ok (fun h => by cases h), km_ok ht kM_Re_ok, kci_ok ht kI_Re_ok, kli_ok ht kJ_Re_ok, kar_ok ht hZ kA_Re_ok,
    pm_look_all (List.forall_mem_cons.mpr ⟨pm_cokV hbs hZ ⟨hx, hb, hml, hown, hts⟩ (kW_Re_portNamed l D base sa) (fun mc ms => cwV 0 hts (pw_gV (pw_in 1240 (w := .methodLink "RoutingField$Reader" 369 ⟨"RoutingField$Reader", "portNamed", "()LRoutingField$Port;"⟩) (by decide +kernel) rfl) ki_Re_portNamed ks_Re_portNamed kn_Re ko_Re_portNamed) rfl rfl rfl (by decide +kernel) ⟨Nat.le_of_ble_eq_true rfl, Nat.le_of_ble_eq_true rfl⟩) (ci := 7) rfl, List.forall_mem_cons.mpr ⟨pm_cokV hbs hZ ⟨hx, hb, hml, hown, hts⟩ (kW_Ch_clear l D base sa) (fun mc ms => cwV 0 hts (pw_gV (pw_in 828 (w := .methodLink "RoutingField$Reader" 336 ⟨"RoutingField$Chain", "clear", "()V"⟩) (by decide +kernel) rfl) ki_Ch_clear ks_Ch_clear kn_Ch ko_Ch_clear) rfl rfl rfl (by decide +kernel) ⟨Nat.le_of_ble_eq_true rfl, Nat.le_of_ble_eq_true rfl⟩) (ci := 1) rfl, fun _ h => absurd h List.not_mem_nil⟩⟩),
    hZ, kst_ok ht hZ (kS_Re_ok sa), knar_ok ht, ktx_ok (kE_Re_ok sa)⟩
set_option maxRecDepth 100000 in
theorem ki_Re_hasTagOption : Cond.instanceMethod ⟨"RoutingField$Reader", "hasTagOption", "(I)Z"⟩ ∈ pw_T := (pw_in 1256 (by decide +kernel) rfl)
set_option maxRecDepth 100000 in
theorem ks_Re_hasTagOption : Cond.selects "RoutingField$Reader" ⟨"RoutingField$Reader", "hasTagOption", "(I)Z"⟩ ⟨"RoutingField$Reader", "hasTagOption", "(I)Z"⟩ ∈ pw_T := (pw_sel 48 (q := (⟨"RoutingField$Reader", "hasTagOption", "(I)Z"⟩, 12)) (by decide +kernel))
set_option maxRecDepth 100000 in
theorem ko_Re_hasTagOption : Cond.code ⟨"RoutingField$Reader", "hasTagOption", "(I)Z"⟩ prog_9_method_17_code 2 (some .boolean) ∈ pw_T := (pw_in 1257 rfl rfl)
set_option maxRecDepth 100000 in
theorem kD_Re_hasTagOption : ∀ q ∈ kC_Re_hasTagOption, decode prog_9_method_17_code q.1 = .ok (q.2, pm_len q.1 q.2) := by decide +kernel
set_option maxRecDepth 100000 in
theorem kW_Re_hasTagOption (l : Launch) (D : va_G) (base : Nat) (sa : Nat → Nat) : pm_Met l D kcl base (kZ sa) ⟨"RoutingField$Reader", "hasTagOption", "(I)Z"⟩ (.code ⟨"RoutingField$Reader", "hasTagOption", "(I)Z"⟩ prog_9_method_17_code 2 (some .boolean) :: pw_T) 6 145 (kP_Re_hasTagOption base sa) := by
  refine pm_met (by decide) rfl rfl ?_
  intro mc ms p e s m args below meth c hx hb hml hown hnm hts hbs hZ
  have ht : ∀ w ∈ pw_T, w.before args s = true := fun w h => hts w (List.mem_cons_of_mem _ h)
  exact ⟨hx, hb, hown, hbs, pm_look_all kD_Re_hasTagOption, kf_ok (init := false) ht hZ kF_Re_ok (fun h => by cases h), km_ok ht kM_Re_ok, kci_ok ht kI_Re_ok, kli_ok ht kJ_Re_ok, kar_ok ht hZ kA_Re_ok,
    pm_look_all (List.forall_mem_cons.mpr ⟨pm_cokV hbs hZ ⟨hx, hb, hml, hown, hts⟩ (kW_Re_is l D base sa) (fun mc ms => cwV 2 hts (pw_gV (pw_in 398 (w := .methodLink "RoutingField$Reader" 76 ⟨"RoutingField$Reader", "is", "(ILjava/lang/String;)Z"⟩) (by decide +kernel) rfl) ki_Re_is ks_Re_is kn_Re ko_Re_is) rfl rfl rfl (by decide +kernel) ⟨Nat.le_of_ble_eq_true rfl, Nat.le_of_ble_eq_true rfl⟩) (ci := 7) rfl, fun _ h => absurd h List.not_mem_nil⟩),
    hZ, kst_ok ht hZ (kS_Re_ok sa), knar_ok ht, ktx_ok (kE_Re_ok sa)⟩
set_option maxRecDepth 100000 in
theorem ki_Re_staticLine : Cond.instanceMethod ⟨"RoutingField$Reader", "staticLine", "()I"⟩ ∈ pw_T := (pw_in 1252 (by decide +kernel) rfl)
set_option maxRecDepth 100000 in
theorem ks_Re_staticLine : Cond.selects "RoutingField$Reader" ⟨"RoutingField$Reader", "staticLine", "()I"⟩ ⟨"RoutingField$Reader", "staticLine", "()I"⟩ ∈ pw_T := (pw_sel 47 (q := (⟨"RoutingField$Reader", "staticLine", "()I"⟩, 12)) (by decide +kernel))
set_option maxRecDepth 100000 in
theorem ko_Re_staticLine : Cond.code ⟨"RoutingField$Reader", "staticLine", "()I"⟩ prog_9_method_30_code 5 (some .int) ∈ pw_T := (pw_in 1253 rfl rfl)
set_option maxRecDepth 100000 in
theorem kD_Re_staticLine_0 : ∀ q ∈ kC_Re_staticLine_0, decode prog_9_method_30_code q.1 = .ok (q.2, pm_len q.1 q.2) := by decide +kernel
set_option maxRecDepth 100000 in
theorem kD_Re_staticLine_1 : ∀ q ∈ kC_Re_staticLine_1, decode prog_9_method_30_code q.1 = .ok (q.2, pm_len q.1 q.2) := by decide +kernel
theorem kD_Re_staticLine : ∀ q ∈ kC_Re_staticLine, decode prog_9_method_30_code q.1 = .ok (q.2, pm_len q.1 q.2) := List.forall_mem_append.mpr ⟨kD_Re_staticLine_0, kD_Re_staticLine_1⟩
set_option maxRecDepth 100000 in
theorem kW_Re_staticLine (l : Launch) (D : va_G) (base : Nat) (sa : Nat → Nat) : pm_Met l D kcl base (kZ sa) ⟨"RoutingField$Reader", "staticLine", "()I"⟩ (.code ⟨"RoutingField$Reader", "staticLine", "()I"⟩ prog_9_method_30_code 5 (some .int) :: pw_T) 7 167 (kP_Re_staticLine base sa) := by
  refine pm_met (by decide) rfl rfl ?_
  intro mc ms p e s m args below meth c hx hb hml hown hnm hts hbs hZ
  have ht : ∀ w ∈ pw_T, w.before args s = true := fun w h => hts w (List.mem_cons_of_mem _ h)
  exact ⟨hx, hb, hown, hbs, pm_look_all kD_Re_staticLine, kf_ok (init := false) ht hZ kF_Re_ok (fun h => by cases h), km_ok ht kM_Re_ok, kci_ok ht kI_Re_ok, kli_ok ht kJ_Re_ok, kar_ok ht hZ kA_Re_ok,
    pm_look_all (List.forall_mem_cons.mpr ⟨pm_cokV hbs hZ ⟨hx, hb, hml, hown, hts⟩ (kW_Re_hasTagOption l D base sa) (fun mc ms => cwV 1 hts (pw_gV (pw_in 1254 (w := .methodLink "RoutingField$Reader" 373 ⟨"RoutingField$Reader", "hasTagOption", "(I)Z"⟩) (by decide +kernel) rfl) ki_Re_hasTagOption ks_Re_hasTagOption kn_Re ko_Re_hasTagOption) rfl rfl rfl (by decide +kernel) ⟨Nat.le_of_ble_eq_true rfl, Nat.le_of_ble_eq_true rfl⟩) (ci := 7) rfl, List.forall_mem_cons.mpr ⟨pm_cokV hbs hZ ⟨hx, hb, hml, hown, hts⟩ (kW_Re_routerNamed l D base sa) (fun mc ms => cwV 1 hts (pw_gV (pw_in 592 (w := .methodLink "RoutingField$Reader" 227 ⟨"RoutingField$Reader", "routerNamed", "(I)LRoutingField$Router;"⟩) (by decide +kernel) rfl) ki_Re_routerNamed ks_Re_routerNamed kn_Re ko_Re_routerNamed) rfl rfl rfl (by decide +kernel) ⟨Nat.le_of_ble_eq_true rfl, Nat.le_of_ble_eq_true rfl⟩) (ci := 7) rfl, List.forall_mem_cons.mpr ⟨pm_cokV hbs hZ ⟨hx, hb, hml, hown, hts⟩ (kW_Re_takePrefix l D base sa) (fun mc ms => cwV 2 hts (pw_gV (pw_in 767 (w := .methodLink "RoutingField$Reader" 272 ⟨"RoutingField$Reader", "takePrefix", "(IZ)Z"⟩) (by decide +kernel) rfl) ki_Re_takePrefix ks_Re_takePrefix kn_Re ko_Re_takePrefix) rfl rfl rfl (by decide +kernel) ⟨Nat.le_of_ble_eq_true rfl, Nat.le_of_ble_eq_true rfl⟩) (ci := 7) rfl, List.forall_mem_cons.mpr ⟨pm_cokV hbs hZ ⟨hx, hb, hml, hown, hts⟩ (kW_Re_number l D base sa) (fun mc ms => cwV 3 hts (pw_gV (pw_in 472 (w := .methodLink "RoutingField$Reader" 255 ⟨"RoutingField$Reader", "number", "(III)I"⟩) (by decide +kernel) rfl) ki_Re_number ks_Re_number kn_Re ko_Re_number) rfl rfl rfl (by decide +kernel) ⟨Nat.le_of_ble_eq_true rfl, Nat.le_of_ble_eq_true rfl⟩) (ci := 7) rfl, List.forall_mem_cons.mpr ⟨pm_cokV hbs hZ ⟨hx, hb, hml, hown, hts⟩ (kW_Ta_find l D base sa) (fun mc ms => cwV 1 hts (pw_gV (pw_in 1260 (w := .methodLink "RoutingField$Reader" 381 ⟨"RoutingField$Table", "find", "(LRoutingField$Prefix;)LRoutingField$Route;"⟩) (by decide +kernel) rfl) ki_Ta_find ks_Ta_find kn_Ta ko_Ta_find) rfl rfl rfl (by decide +kernel) ⟨Nat.le_of_ble_eq_true rfl, Nat.le_of_ble_eq_true rfl⟩) (ci := 10) rfl, List.forall_mem_cons.mpr ⟨pm_cokV hbs hZ ⟨hx, hb, hml, hown, hts⟩ (kW_Ta_add l D base sa) (fun mc ms => cwV 3 hts (pw_gV (pw_in 1261 (w := .methodLink "RoutingField$Reader" 388 ⟨"RoutingField$Table", "add", "(LRoutingField$Prefix;II)LRoutingField$Route;"⟩) (by decide +kernel) rfl) ki_Ta_add ks_Ta_add kn_Ta ko_Ta_add) rfl rfl rfl (by decide +kernel) ⟨Nat.le_of_ble_eq_true rfl, Nat.le_of_ble_eq_true rfl⟩) (ci := 10) rfl, List.forall_mem_cons.mpr ⟨pm_cokV hbs hZ ⟨hx, hb, hml, hown, hts⟩ (kW_Rr_settle l D base sa) (fun mc ms => cwV 1 hts (pw_gV (pw_in 1262 (w := .methodLink "RoutingField$Reader" 399 ⟨"RoutingField$Router", "settle", "(LRoutingField$Prefix;)V"⟩) (by decide +kernel) rfl) ki_Rr_settle ks_Rr_settle kn_Rr ko_Rr_settle) rfl rfl rfl (by decide +kernel) ⟨Nat.le_of_ble_eq_true rfl, Nat.le_of_ble_eq_true rfl⟩) (ci := 9) rfl, fun _ h => absurd h List.not_mem_nil⟩⟩⟩⟩⟩⟩⟩),
    hZ, kst_ok ht hZ (kS_Re_ok sa), knar_ok ht, ktx_ok (kE_Re_ok sa)⟩
set_option maxRecDepth 100000 in
theorem ki_Ta_remove : Cond.instanceMethod ⟨"RoutingField$Table", "remove", "(I)V"⟩ ∈ pw_T := (pw_in 1273 (by decide +kernel) rfl)
set_option maxRecDepth 100000 in
theorem ks_Ta_remove : Cond.selects "RoutingField$Table" ⟨"RoutingField$Table", "remove", "(I)V"⟩ ⟨"RoutingField$Table", "remove", "(I)V"⟩ ∈ pw_T := (pw_in 1274 (by decide +kernel) rfl)
set_option maxRecDepth 100000 in
theorem ko_Ta_remove : Cond.code ⟨"RoutingField$Table", "remove", "(I)V"⟩ prog_12_method_6_code 4 none ∈ pw_T := (pw_in 1275 rfl rfl)
set_option maxRecDepth 100000 in
theorem kD_Ta_remove : ∀ q ∈ kC_Ta_remove, decode prog_12_method_6_code q.1 = .ok (q.2, pm_len q.1 q.2) := by decide +kernel
set_option maxRecDepth 100000 in
theorem kW_Ta_remove (l : Launch) (D : va_G) (base : Nat) (sa : Nat → Nat) : pm_Met l D kcl base (kZ sa) ⟨"RoutingField$Table", "remove", "(I)V"⟩ (.code ⟨"RoutingField$Table", "remove", "(I)V"⟩ prog_12_method_6_code 4 none :: pw_T) 0 0 (kP_Ta_remove base sa) := by
  refine pm_met (by decide) rfl rfl ?_
  intro mc ms p e s m args below meth c hx hb hml hown hnm hts hbs hZ
  have ht : ∀ w ∈ pw_T, w.before args s = true := fun w h => hts w (List.mem_cons_of_mem _ h)
  exact ⟨hx, hb, hown, hbs, pm_look_all kD_Ta_remove, kf_ok (init := false) ht hZ kF_Ta_ok (fun h => by cases h), km_ok ht kM_Ta_ok, kci_ok ht kI_Ta_ok, kli_ok ht kJ_Ta_ok, kar_ok ht hZ kA_Ta_ok,
    pm_look_all (fun _ h => absurd h List.not_mem_nil),
    hZ, kst_ok ht hZ (kS_Ta_ok sa), knar_ok ht, ktx_ok (kE_Ta_ok sa)⟩
set_option maxRecDepth 100000 in
theorem ki_Ta_removeOf : Cond.instanceMethod ⟨"RoutingField$Table", "removeOf", "(LRoutingField$Prefix;)V"⟩ ∈ pw_T := (pw_in 1269 (by decide +kernel) rfl)
set_option maxRecDepth 100000 in
theorem ks_Ta_removeOf : Cond.selects "RoutingField$Table" ⟨"RoutingField$Table", "removeOf", "(LRoutingField$Prefix;)V"⟩ ⟨"RoutingField$Table", "removeOf", "(LRoutingField$Prefix;)V"⟩ ∈ pw_T := (pw_in 1270 (by decide +kernel) rfl)
set_option maxRecDepth 100000 in
theorem ko_Ta_removeOf : Cond.code ⟨"RoutingField$Table", "removeOf", "(LRoutingField$Prefix;)V"⟩ prog_12_method_7_code 2 none ∈ pw_T := (pw_in 1271 rfl rfl)
set_option maxRecDepth 100000 in
theorem kD_Ta_removeOf : ∀ q ∈ kC_Ta_removeOf, decode prog_12_method_7_code q.1 = .ok (q.2, pm_len q.1 q.2) := by decide +kernel
set_option maxRecDepth 100000 in
theorem kW_Ta_removeOf (l : Launch) (D : va_G) (base : Nat) (sa : Nat → Nat) : pm_Met l D kcl base (kZ sa) ⟨"RoutingField$Table", "removeOf", "(LRoutingField$Prefix;)V"⟩ (.code ⟨"RoutingField$Table", "removeOf", "(LRoutingField$Prefix;)V"⟩ prog_12_method_7_code 2 none :: pw_T) 2 46 (kP_Ta_removeOf base sa) := by
  refine pm_met (by decide) rfl rfl ?_
  intro mc ms p e s m args below meth c hx hb hml hown hnm hts hbs hZ
  have ht : ∀ w ∈ pw_T, w.before args s = true := fun w h => hts w (List.mem_cons_of_mem _ h)
  exact ⟨hx, hb, hown, hbs, pm_look_all kD_Ta_removeOf, kf_ok (init := false) ht hZ kF_Ta_ok (fun h => by cases h), km_ok ht kM_Ta_ok, kci_ok ht kI_Ta_ok, kli_ok ht kJ_Ta_ok, kar_ok ht hZ kA_Ta_ok,
    pm_look_all (List.forall_mem_cons.mpr ⟨pm_cokV hbs hZ ⟨hx, hb, hml, hown, hts⟩ (kW_Ta_placeOf l D base sa) (fun mc ms => cwV 1 hts (pw_gV (pw_in 1004 (w := .methodLink "RoutingField$Table" 29 ⟨"RoutingField$Table", "placeOf", "(LRoutingField$Prefix;)I"⟩) (by decide +kernel) rfl) ki_Ta_placeOf ks_Ta_placeOf kn_Ta ko_Ta_placeOf) rfl rfl rfl (by decide +kernel) ⟨Nat.le_of_ble_eq_true rfl, Nat.le_of_ble_eq_true rfl⟩) (ci := 10) rfl, List.forall_mem_cons.mpr ⟨pm_cokV hbs hZ ⟨hx, hb, hml, hown, hts⟩ (kW_Ta_remove l D base sa) (fun mc ms => cwV 1 hts (pw_gV (pw_in 1272 (w := .methodLink "RoutingField$Table" 37 ⟨"RoutingField$Table", "remove", "(I)V"⟩) (by decide +kernel) rfl) ki_Ta_remove ks_Ta_remove kn_Ta ko_Ta_remove) rfl rfl rfl (by decide +kernel) ⟨Nat.le_of_ble_eq_true rfl, Nat.le_of_ble_eq_true rfl⟩) (ci := 10) rfl, fun _ h => absurd h List.not_mem_nil⟩⟩),
    hZ, kst_ok ht hZ (kS_Ta_ok sa), knar_ok ht, ktx_ok (kE_Ta_ok sa)⟩
set_option maxRecDepth 100000 in
theorem ki_Re_nostaticLine : Cond.instanceMethod ⟨"RoutingField$Reader", "nostaticLine", "()I"⟩ ∈ pw_T := (pw_in 1266 (by decide +kernel) rfl)
set_option maxRecDepth 100000 in
theorem ks_Re_nostaticLine : Cond.selects "RoutingField$Reader" ⟨"RoutingField$Reader", "nostaticLine", "()I"⟩ ⟨"RoutingField$Reader", "nostaticLine", "()I"⟩ ∈ pw_T := (pw_sel 49 (q := (⟨"RoutingField$Reader", "nostaticLine", "()I"⟩, 12)) (by decide +kernel))
set_option maxRecDepth 100000 in
theorem ko_Re_nostaticLine : Cond.code ⟨"RoutingField$Reader", "nostaticLine", "()I"⟩ prog_9_method_31_code 2 (some .int) ∈ pw_T := (pw_in 1267 rfl rfl)
set_option maxRecDepth 100000 in
theorem kD_Re_nostaticLine : ∀ q ∈ kC_Re_nostaticLine, decode prog_9_method_31_code q.1 = .ok (q.2, pm_len q.1 q.2) := by decide +kernel
set_option maxRecDepth 100000 in
theorem kW_Re_nostaticLine (l : Launch) (D : va_G) (base : Nat) (sa : Nat → Nat) : pm_Met l D kcl base (kZ sa) ⟨"RoutingField$Reader", "nostaticLine", "()I"⟩ (.code ⟨"RoutingField$Reader", "nostaticLine", "()I"⟩ prog_9_method_31_code 2 (some .int) :: pw_T) 7 167 (kP_Re_nostaticLine base sa) := by
  refine pm_met (by decide) rfl rfl ?_
  intro mc ms p e s m args below meth c hx hb hml hown hnm hts hbs hZ
  have ht : ∀ w ∈ pw_T, w.before args s = true := fun w h => hts w (List.mem_cons_of_mem _ h)
  exact ⟨hx, hb, hown, hbs, pm_look_all kD_Re_nostaticLine, kf_ok (init := false) ht hZ kF_Re_ok (fun h => by cases h), km_ok ht kM_Re_ok, kci_ok ht kI_Re_ok, kli_ok ht kJ_Re_ok, kar_ok ht hZ kA_Re_ok,
    pm_look_all (List.forall_mem_cons.mpr ⟨pm_cokV hbs hZ ⟨hx, hb, hml, hown, hts⟩ (kW_Re_routerNamed l D base sa) (fun mc ms => cwV 1 hts (pw_gV (pw_in 592 (w := .methodLink "RoutingField$Reader" 227 ⟨"RoutingField$Reader", "routerNamed", "(I)LRoutingField$Router;"⟩) (by decide +kernel) rfl) ki_Re_routerNamed ks_Re_routerNamed kn_Re ko_Re_routerNamed) rfl rfl rfl (by decide +kernel) ⟨Nat.le_of_ble_eq_true rfl, Nat.le_of_ble_eq_true rfl⟩) (ci := 7) rfl, List.forall_mem_cons.mpr ⟨pm_cokV hbs hZ ⟨hx, hb, hml, hown, hts⟩ (kW_Re_takePrefix l D base sa) (fun mc ms => cwV 2 hts (pw_gV (pw_in 767 (w := .methodLink "RoutingField$Reader" 272 ⟨"RoutingField$Reader", "takePrefix", "(IZ)Z"⟩) (by decide +kernel) rfl) ki_Re_takePrefix ks_Re_takePrefix kn_Re ko_Re_takePrefix) rfl rfl rfl (by decide +kernel) ⟨Nat.le_of_ble_eq_true rfl, Nat.le_of_ble_eq_true rfl⟩) (ci := 7) rfl, List.forall_mem_cons.mpr ⟨pm_cokV hbs hZ ⟨hx, hb, hml, hown, hts⟩ (kW_Ta_find l D base sa) (fun mc ms => cwV 1 hts (pw_gV (pw_in 1260 (w := .methodLink "RoutingField$Reader" 381 ⟨"RoutingField$Table", "find", "(LRoutingField$Prefix;)LRoutingField$Route;"⟩) (by decide +kernel) rfl) ki_Ta_find ks_Ta_find kn_Ta ko_Ta_find) rfl rfl rfl (by decide +kernel) ⟨Nat.le_of_ble_eq_true rfl, Nat.le_of_ble_eq_true rfl⟩) (ci := 10) rfl, List.forall_mem_cons.mpr ⟨pm_cokV hbs hZ ⟨hx, hb, hml, hown, hts⟩ (kW_Ta_removeOf l D base sa) (fun mc ms => cwV 1 hts (pw_gV (pw_in 1268 (w := .methodLink "RoutingField$Reader" 402 ⟨"RoutingField$Table", "removeOf", "(LRoutingField$Prefix;)V"⟩) (by decide +kernel) rfl) ki_Ta_removeOf ks_Ta_removeOf kn_Ta ko_Ta_removeOf) rfl rfl rfl (by decide +kernel) ⟨Nat.le_of_ble_eq_true rfl, Nat.le_of_ble_eq_true rfl⟩) (ci := 10) rfl, List.forall_mem_cons.mpr ⟨pm_cokV hbs hZ ⟨hx, hb, hml, hown, hts⟩ (kW_Rr_settle l D base sa) (fun mc ms => cwV 1 hts (pw_gV (pw_in 1262 (w := .methodLink "RoutingField$Reader" 399 ⟨"RoutingField$Router", "settle", "(LRoutingField$Prefix;)V"⟩) (by decide +kernel) rfl) ki_Rr_settle ks_Rr_settle kn_Rr ko_Rr_settle) rfl rfl rfl (by decide +kernel) ⟨Nat.le_of_ble_eq_true rfl, Nat.le_of_ble_eq_true rfl⟩) (ci := 9) rfl, fun _ h => absurd h List.not_mem_nil⟩⟩⟩⟩⟩),
    hZ, kst_ok ht hZ (kS_Re_ok sa), knar_ok ht, ktx_ok (kE_Re_ok sa)⟩
set_option maxRecDepth 100000 in
theorem ki_Pl_isFull : Cond.instanceMethod ⟨"RoutingField$PrefixList", "isFull", "()Z"⟩ ∈ pw_T := (pw_in 1286 (by decide +kernel) rfl)
set_option maxRecDepth 100000 in
theorem ks_Pl_isFull : Cond.selects "RoutingField$PrefixList" ⟨"RoutingField$PrefixList", "isFull", "()Z"⟩ ⟨"RoutingField$PrefixList", "isFull", "()Z"⟩ ∈ pw_T := (pw_in 1287 (by decide +kernel) rfl)
set_option maxRecDepth 100000 in
theorem ko_Pl_isFull : Cond.code ⟨"RoutingField$PrefixList", "isFull", "()Z"⟩ prog_8_method_2_code 1 (some .boolean) ∈ pw_T := (pw_in 1288 rfl rfl)
set_option maxRecDepth 100000 in
theorem kD_Pl_isFull : ∀ q ∈ kC_Pl_isFull, decode prog_8_method_2_code q.1 = .ok (q.2, pm_len q.1 q.2) := by decide +kernel
set_option maxRecDepth 100000 in
theorem kW_Pl_isFull (l : Launch) (D : va_G) (base : Nat) (sa : Nat → Nat) : pm_Met l D kcl base (kZ sa) ⟨"RoutingField$PrefixList", "isFull", "()Z"⟩ (.code ⟨"RoutingField$PrefixList", "isFull", "()Z"⟩ prog_8_method_2_code 1 (some .boolean) :: pw_T) 0 0 (kP_Pl_isFull base sa) := by
  refine pm_met (by decide) rfl rfl ?_
  intro mc ms p e s m args below meth c hx hb hml hown hnm hts hbs hZ
  have ht : ∀ w ∈ pw_T, w.before args s = true := fun w h => hts w (List.mem_cons_of_mem _ h)
  exact ⟨hx, hb, hown, hbs, pm_look_all kD_Pl_isFull, kf_ok (init := false) ht hZ kF_Pl_ok (fun h => by cases h), km_ok ht kM_Pl_ok, kci_ok ht kI_Pl_ok, kli_ok ht kJ_Pl_ok, kar_ok ht hZ kA_Pl_ok,
    pm_look_all (fun _ h => absurd h List.not_mem_nil),
    hZ, kst_ok ht hZ (kS_Pl_ok sa), knar_ok ht, ktx_ok (kE_Pl_ok sa)⟩
set_option maxRecDepth 100000 in
theorem ki_Pl_add : Cond.instanceMethod ⟨"RoutingField$PrefixList", "add", "(LRoutingField$Prefix;ZII)V"⟩ ∈ pw_T := (pw_in 1290 (by decide +kernel) rfl)
set_option maxRecDepth 100000 in
theorem ks_Pl_add : Cond.selects "RoutingField$PrefixList" ⟨"RoutingField$PrefixList", "add", "(LRoutingField$Prefix;ZII)V"⟩ ⟨"RoutingField$PrefixList", "add", "(LRoutingField$Prefix;ZII)V"⟩ ∈ pw_T := (pw_in 1291 (by decide +kernel) rfl)
set_option maxRecDepth 100000 in
theorem ko_Pl_add : Cond.code ⟨"RoutingField$PrefixList", "add", "(LRoutingField$Prefix;ZII)V"⟩ prog_8_method_3_code 5 none ∈ pw_T := (pw_in 1292 rfl rfl)
set_option maxRecDepth 100000 in
theorem kD_Pl_add : ∀ q ∈ kC_Pl_add, decode prog_8_method_3_code q.1 = .ok (q.2, pm_len q.1 q.2) := by decide +kernel
set_option maxRecDepth 100000 in
theorem kW_Pl_add (l : Launch) (D : va_G) (base : Nat) (sa : Nat → Nat) : pm_Met l D kcl base (kZ sa) ⟨"RoutingField$PrefixList", "add", "(LRoutingField$Prefix;ZII)V"⟩ (.code ⟨"RoutingField$PrefixList", "add", "(LRoutingField$Prefix;ZII)V"⟩ prog_8_method_3_code 5 none :: pw_T) 2 40 (kP_Pl_add base sa) := by
  refine pm_met (by decide) rfl rfl ?_
  intro mc ms p e s m args below meth c hx hb hml hown hnm hts hbs hZ
  have ht : ∀ w ∈ pw_T, w.before args s = true := fun w h => hts w (List.mem_cons_of_mem _ h)
  exact ⟨hx, hb, hown, hbs, pm_look_all kD_Pl_add, kf_ok (init := false) ht hZ kF_Pl_ok (fun h => by cases h), km_ok ht kM_Pl_ok, kci_ok ht kI_Pl_ok, kli_ok ht kJ_Pl_ok, kar_ok ht hZ kA_Pl_ok,
    pm_look_all (List.forall_mem_cons.mpr ⟨pm_cokV hbs hZ ⟨hx, hb, hml, hown, hts⟩ (kW_Pl_isFull l D base sa) (fun mc ms => cwV 0 hts (pw_gV (pw_in 1293 (w := .methodLink "RoutingField$PrefixList" 42 ⟨"RoutingField$PrefixList", "isFull", "()Z"⟩) (by decide +kernel) rfl) ki_Pl_isFull ks_Pl_isFull kn_Pl ko_Pl_isFull) rfl rfl rfl (by decide +kernel) ⟨Nat.le_of_ble_eq_true rfl, Nat.le_of_ble_eq_true rfl⟩) (ci := 6) rfl, List.forall_mem_cons.mpr ⟨pm_cokI hbs hZ ⟨hx, hb, hml, hown, hts⟩ (kW_Pr_init l D base sa) (fun mc ms => cwI 0 hts (pw_gC ko_Pr_init) rfl rfl rfl (ht _ kn_Pr) (ht _ (pw_in 1294 (w := .methodLink "RoutingField$PrefixList" 46 ⟨"RoutingField$Prefix", "<init>", "()V"⟩) (by decide +kernel) rfl)) (ht _ ki_Pr_init) rfl (by decide +kernel) ⟨Nat.le_of_ble_eq_true rfl, Nat.le_of_ble_eq_true rfl⟩), List.forall_mem_cons.mpr ⟨pm_cokV hbs hZ ⟨hx, hb, hml, hown, hts⟩ (kW_Pr_copy l D base sa) (fun mc ms => cwV 1 hts (pw_gV (pw_in 1295 (w := .methodLink "RoutingField$PrefixList" 47 ⟨"RoutingField$Prefix", "copy", "(LRoutingField$Prefix;)V"⟩) (by decide +kernel) rfl) ki_Pr_copy ks_Pr_copy kn_Pr ko_Pr_copy) rfl rfl rfl (by decide +kernel) ⟨Nat.le_of_ble_eq_true rfl, Nat.le_of_ble_eq_true rfl⟩) (ci := 5) rfl, fun _ h => absurd h List.not_mem_nil⟩⟩⟩),
    hZ, kst_ok ht hZ (kS_Pl_ok sa), knar_ok ht, ktx_ok (kE_Pl_ok sa)⟩
set_option maxRecDepth 100000 in
theorem ki_Re_filterLine : Cond.instanceMethod ⟨"RoutingField$Reader", "filterLine", "()I"⟩ ∈ pw_T := (pw_in 1279 (by decide +kernel) rfl)
set_option maxRecDepth 100000 in
theorem ks_Re_filterLine : Cond.selects "RoutingField$Reader" ⟨"RoutingField$Reader", "filterLine", "()I"⟩ ⟨"RoutingField$Reader", "filterLine", "()I"⟩ ∈ pw_T := (pw_sel 50 (q := (⟨"RoutingField$Reader", "filterLine", "()I"⟩, 12)) (by decide +kernel))
set_option maxRecDepth 100000 in
theorem ko_Re_filterLine : Cond.code ⟨"RoutingField$Reader", "filterLine", "()I"⟩ prog_9_method_32_code 3 (some .int) ∈ pw_T := (pw_in 1280 rfl rfl)
set_option maxRecDepth 100000 in
theorem kD_Re_filterLine_0 : ∀ q ∈ kC_Re_filterLine_0, decode prog_9_method_32_code q.1 = .ok (q.2, pm_len q.1 q.2) := by decide +kernel
set_option maxRecDepth 100000 in
theorem kD_Re_filterLine_1 : ∀ q ∈ kC_Re_filterLine_1, decode prog_9_method_32_code q.1 = .ok (q.2, pm_len q.1 q.2) := by decide +kernel
theorem kD_Re_filterLine : ∀ q ∈ kC_Re_filterLine, decode prog_9_method_32_code q.1 = .ok (q.2, pm_len q.1 q.2) := List.forall_mem_append.mpr ⟨kD_Re_filterLine_0, kD_Re_filterLine_1⟩
set_option maxRecDepth 100000 in
theorem kW_Re_filterLine (l : Launch) (D : va_G) (base : Nat) (sa : Nat → Nat) : pm_Met l D kcl base (kZ sa) ⟨"RoutingField$Reader", "filterLine", "()I"⟩ (.code ⟨"RoutingField$Reader", "filterLine", "()I"⟩ prog_9_method_32_code 3 (some .int) :: pw_T) 7 168 (kP_Re_filterLine base sa) := by
  refine pm_met (by decide) rfl rfl ?_
  intro mc ms p e s m args below meth c hx hb hml hown hnm hts hbs hZ
  have ht : ∀ w ∈ pw_T, w.before args s = true := fun w h => hts w (List.mem_cons_of_mem _ h)
  exact ⟨hx, hb, hown, hbs, pm_look_all kD_Re_filterLine, kf_ok (init := false) ht hZ kF_Re_ok (fun h => by cases h), km_ok ht kM_Re_ok, kci_ok ht kI_Re_ok, kli_ok ht kJ_Re_ok, kar_ok ht hZ kA_Re_ok,
    pm_look_all (List.forall_mem_cons.mpr ⟨pm_cokV hbs hZ ⟨hx, hb, hml, hown, hts⟩ (kW_Re_isEither l D base sa) (fun mc ms => cwV 3 hts (pw_gV (pw_in 1236 (w := .methodLink "RoutingField$Reader" 366 ⟨"RoutingField$Reader", "isEither", "(ILjava/lang/String;Ljava/lang/String;)Z"⟩) (by decide +kernel) rfl) ki_Re_isEither ks_Re_isEither kn_Re ko_Re_isEither) rfl rfl rfl (by decide +kernel) ⟨Nat.le_of_ble_eq_true rfl, Nat.le_of_ble_eq_true rfl⟩) (ci := 7) rfl, List.forall_mem_cons.mpr ⟨pm_cokV hbs hZ ⟨hx, hb, hml, hown, hts⟩ (kW_Re_routerNamed l D base sa) (fun mc ms => cwV 1 hts (pw_gV (pw_in 592 (w := .methodLink "RoutingField$Reader" 227 ⟨"RoutingField$Reader", "routerNamed", "(I)LRoutingField$Router;"⟩) (by decide +kernel) rfl) ki_Re_routerNamed ks_Re_routerNamed kn_Re ko_Re_routerNamed) rfl rfl rfl (by decide +kernel) ⟨Nat.le_of_ble_eq_true rfl, Nat.le_of_ble_eq_true rfl⟩) (ci := 7) rfl, List.forall_mem_cons.mpr ⟨pm_cokV hbs hZ ⟨hx, hb, hml, hown, hts⟩ (kW_Re_takePrefix l D base sa) (fun mc ms => cwV 2 hts (pw_gV (pw_in 767 (w := .methodLink "RoutingField$Reader" 272 ⟨"RoutingField$Reader", "takePrefix", "(IZ)Z"⟩) (by decide +kernel) rfl) ki_Re_takePrefix ks_Re_takePrefix kn_Re ko_Re_takePrefix) rfl rfl rfl (by decide +kernel) ⟨Nat.le_of_ble_eq_true rfl, Nat.le_of_ble_eq_true rfl⟩) (ci := 7) rfl, List.forall_mem_cons.mpr ⟨pm_cokV hbs hZ ⟨hx, hb, hml, hown, hts⟩ (kW_Re_is l D base sa) (fun mc ms => cwV 2 hts (pw_gV (pw_in 398 (w := .methodLink "RoutingField$Reader" 76 ⟨"RoutingField$Reader", "is", "(ILjava/lang/String;)Z"⟩) (by decide +kernel) rfl) ki_Re_is ks_Re_is kn_Re ko_Re_is) rfl rfl rfl (by decide +kernel) ⟨Nat.le_of_ble_eq_true rfl, Nat.le_of_ble_eq_true rfl⟩) (ci := 7) rfl, List.forall_mem_cons.mpr ⟨pm_cokV hbs hZ ⟨hx, hb, hml, hown, hts⟩ (kW_Pl_isFull l D base sa) (fun mc ms => cwV 0 hts (pw_gV (pw_in 1285 (w := .methodLink "RoutingField$Reader" 416 ⟨"RoutingField$PrefixList", "isFull", "()Z"⟩) (by decide +kernel) rfl) ki_Pl_isFull ks_Pl_isFull kn_Pl ko_Pl_isFull) rfl rfl rfl (by decide +kernel) ⟨Nat.le_of_ble_eq_true rfl, Nat.le_of_ble_eq_true rfl⟩) (ci := 6) rfl, List.forall_mem_cons.mpr ⟨pm_cokV hbs hZ ⟨hx, hb, hml, hown, hts⟩ (kW_Pl_add l D base sa) (fun mc ms => cwV 4 hts (pw_gV (pw_in 1289 (w := .methodLink "RoutingField$Reader" 421 ⟨"RoutingField$PrefixList", "add", "(LRoutingField$Prefix;ZII)V"⟩) (by decide +kernel) rfl) ki_Pl_add ks_Pl_add kn_Pl ko_Pl_add) rfl rfl rfl (by decide +kernel) ⟨Nat.le_of_ble_eq_true rfl, Nat.le_of_ble_eq_true rfl⟩) (ci := 6) rfl, fun _ h => absurd h List.not_mem_nil⟩⟩⟩⟩⟩⟩),
    hZ, kst_ok ht hZ (kS_Re_ok sa), knar_ok ht, ktx_ok (kE_Re_ok sa)⟩
set_option maxRecDepth 100000 in
theorem ki_Re_listNamed : Cond.instanceMethod ⟨"RoutingField$Reader", "listNamed", "(I)I"⟩ ∈ pw_T := (pw_in 1306 (by decide +kernel) rfl)
set_option maxRecDepth 100000 in
theorem ks_Re_listNamed : Cond.selects "RoutingField$Reader" ⟨"RoutingField$Reader", "listNamed", "(I)I"⟩ ⟨"RoutingField$Reader", "listNamed", "(I)I"⟩ ∈ pw_T := (pw_sel 52 (q := (⟨"RoutingField$Reader", "listNamed", "(I)I"⟩, 12)) (by decide +kernel))
set_option maxRecDepth 100000 in
theorem ko_Re_listNamed : Cond.code ⟨"RoutingField$Reader", "listNamed", "(I)I"⟩ prog_9_method_13_code 3 (some .int) ∈ pw_T := (pw_in 1307 rfl rfl)
set_option maxRecDepth 100000 in
theorem kD_Re_listNamed : ∀ q ∈ kC_Re_listNamed, decode prog_9_method_13_code q.1 = .ok (q.2, pm_len q.1 q.2) := by decide +kernel
set_option maxRecDepth 100000 in
theorem kW_Re_listNamed (l : Launch) (D : va_G) (base : Nat) (sa : Nat → Nat) : pm_Met l D kcl base (kZ sa) ⟨"RoutingField$Reader", "listNamed", "(I)I"⟩ (.code ⟨"RoutingField$Reader", "listNamed", "(I)I"⟩ prog_9_method_13_code 3 (some .int) :: pw_T) 6 145 (kP_Re_listNamed base sa) := by
  refine pm_met (by decide) rfl rfl ?_
  intro mc ms p e s m args below meth c hx hb hml hown hnm hts hbs hZ
  have ht : ∀ w ∈ pw_T, w.before args s = true := fun w h => hts w (List.mem_cons_of_mem _ h)
  exact ⟨hx, hb, hown, hbs, pm_look_all kD_Re_listNamed, kf_ok (init := false) ht hZ kF_Re_ok (fun h => by cases h), km_ok ht kM_Re_ok, kci_ok ht kI_Re_ok, kli_ok ht kJ_Re_ok, kar_ok ht hZ kA_Re_ok,
    pm_look_all (List.forall_mem_cons.mpr ⟨pm_cokV hbs hZ ⟨hx, hb, hml, hown, hts⟩ (kW_Re_is l D base sa) (fun mc ms => cwV 2 hts (pw_gV (pw_in 398 (w := .methodLink "RoutingField$Reader" 76 ⟨"RoutingField$Reader", "is", "(ILjava/lang/String;)Z"⟩) (by decide +kernel) rfl) ki_Re_is ks_Re_is kn_Re ko_Re_is) rfl rfl rfl (by decide +kernel) ⟨Nat.le_of_ble_eq_true rfl, Nat.le_of_ble_eq_true rfl⟩) (ci := 7) rfl, fun _ h => absurd h List.not_mem_nil⟩),
    hZ, kst_ok ht hZ (kS_Re_ok sa), knar_ok ht, ktx_ok (kE_Re_ok sa)⟩
