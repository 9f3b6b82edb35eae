set_option maxRecDepth 100000 in
theorem ki_Re_doLine : Cond.instanceMethod ⟨"RoutingField$Reader", "doLine", "(II)I"⟩ ∈ pw_T := (pw_in 389 (by decide +kernel) rfl)
set_option maxRecDepth 100000 in
theorem ks_Re_doLine : Cond.selects "RoutingField$Reader" ⟨"RoutingField$Reader", "doLine", "(II)I"⟩ ⟨"RoutingField$Reader", "doLine", "(II)I"⟩ ∈ pw_T := (pw_in 390 (by decide +kernel) rfl)
set_option maxRecDepth 100000 in
theorem ko_Re_doLine : Cond.code ⟨"RoutingField$Reader", "doLine", "(II)I"⟩ prog_9_method_2_code 3 (some .int) ∈ pw_T := (pw_in 391 rfl rfl)
set_option maxRecDepth 100000 in
theorem kD_Re_doLine_0 : ∀ q ∈ kC_Re_doLine_0, decode prog_9_method_2_code q.1 = .ok (q.2, pm_len q.1 q.2) := by decide +kernel
set_option maxRecDepth 100000 in
theorem kD_Re_doLine_1 : ∀ q ∈ kC_Re_doLine_1, decode prog_9_method_2_code q.1 = .ok (q.2, pm_len q.1 q.2) := by decide +kernel
set_option maxRecDepth 100000 in
theorem kD_Re_doLine_2 : ∀ q ∈ kC_Re_doLine_2, decode prog_9_method_2_code q.1 = .ok (q.2, pm_len q.1 q.2) := by decide +kernel
theorem kD_Re_doLine : ∀ q ∈ kC_Re_doLine, decode prog_9_method_2_code q.1 = .ok (q.2, pm_len q.1 q.2) := List.forall_mem_append.mpr ⟨kD_Re_doLine_0, List.forall_mem_append.mpr ⟨kD_Re_doLine_1, kD_Re_doLine_2⟩⟩
set_option maxRecDepth 100000 in
theorem kW_Re_doLine (l : Launch) (D : va_G) (base : Nat) (sa : Nat → Nat) : pm_Met l D kcl base (kZ sa) ⟨"RoutingField$Reader", "doLine", "(II)I"⟩ (.code ⟨"RoutingField$Reader", "doLine", "(II)I"⟩ prog_9_method_2_code 3 (some .int) :: pw_T) 9 231 (kP_Re_doLine base sa) := by
  refine pm_met (by decide) rfl rfl ?_
  intro mc ms p e s m args below meth c hx hb hml hown hnm hts hbs hZ
  have ht : ∀ w ∈ pw_T, w.before args s = true := fun w h => hts w (List.mem_cons_of_mem _ h)
  exact ⟨hx, hb, hown, hbs, pm_look_all kD_Re_doLine, kf_ok (init := false) ht hZ kF_Re_ok (fun h => by cases h), km_ok ht kM_Re_ok, kci_ok ht kI_Re_ok, kli_ok ht kJ_Re_ok, kar_ok ht hZ kA_Re_ok,
    pm_look_all (List.forall_mem_cons.mpr ⟨pm_cokV hbs hZ ⟨hx, hb, hml, hown, hts⟩ (kW_Re_parse l D base sa) (fun mc ms => cwV 2 hts (pw_gV (pw_in 392 (w := .methodLink "RoutingField$Reader" 60 ⟨"RoutingField$Reader", "parse", "(II)V"⟩) (by decide +kernel) rfl) ki_Re_parse ks_Re_parse kn_Re ko_Re_parse) rfl rfl rfl (by decide +kernel) ⟨Nat.le_of_ble_eq_true rfl, Nat.le_of_ble_eq_true rfl⟩) (ci := 7) rfl, List.forall_mem_cons.mpr ⟨pm_cokV hbs hZ ⟨hx, hb, hml, hown, hts⟩ (kW_By_at l D base sa) (fun mc ms => cwV 1 hts (pw_gV (pw_in 396 (w := .methodLink "RoutingField$Reader" 68 ⟨"RoutingField$Bytes", "at", "(I)I"⟩) (by decide +kernel) rfl) ki_By_at ks_By_at kn_By ko_By_at) rfl rfl rfl (by decide +kernel) ⟨Nat.le_of_ble_eq_true rfl, Nat.le_of_ble_eq_true rfl⟩) (ci := 0) rfl, List.forall_mem_cons.mpr ⟨pm_cokV hbs hZ ⟨hx, hb, hml, hown, hts⟩ (kW_Re_is l D base sa) (fun mc ms => cwV 2 hts (pw_gV (pw_in 398 (w := .methodLink "RoutingField$Reader" 76 ⟨"RoutingField$Reader", "is", "(ILjava/lang/String;)Z"⟩) (by decide +kernel) rfl) ki_Re_is ks_Re_is kn_Re ko_Re_is) rfl rfl rfl (by decide +kernel) ⟨Nat.le_of_ble_eq_true rfl, Nat.le_of_ble_eq_true rfl⟩) (ci := 7) rfl, List.forall_mem_cons.mpr ⟨pm_cokV hbs hZ ⟨hx, hb, hml, hown, hts⟩ (kW_Re_linkLine l D base sa) (fun mc ms => cwV 0 hts (pw_gV (pw_in 454 (w := .methodLink "RoutingField$Reader" 80 ⟨"RoutingField$Reader", "linkLine", "()I"⟩) (by decide +kernel) rfl) ki_Re_linkLine ks_Re_linkLine kn_Re ko_Re_linkLine) rfl rfl rfl (by decide +kernel) ⟨Nat.le_of_ble_eq_true rfl, Nat.le_of_ble_eq_true rfl⟩) (ci := 7) rfl, List.forall_mem_cons.mpr ⟨pm_cokV hbs hZ ⟨hx, hb, hml, hown, hts⟩ (kW_Re_routerLine l D base sa) (fun mc ms => cwV 0 hts (pw_gV (pw_in 588 (w := .methodLink "RoutingField$Reader" 86 ⟨"RoutingField$Reader", "routerLine", "()I"⟩) (by decide +kernel) rfl) ki_Re_routerLine ks_Re_routerLine kn_Re ko_Re_routerLine) rfl rfl rfl (by decide +kernel) ⟨Nat.le_of_ble_eq_true rfl, Nat.le_of_ble_eq_true rfl⟩) (ci := 7) rfl, List.forall_mem_cons.mpr ⟨pm_cokV hbs hZ ⟨hx, hb, hml, hown, hts⟩ (kW_Re_joinLine l D base sa) (fun mc ms => cwV 0 hts (pw_gV (pw_in 735 (w := .methodLink "RoutingField$Reader" 91 ⟨"RoutingField$Reader", "joinLine", "()I"⟩) (by decide +kernel) rfl) ki_Re_joinLine ks_Re_joinLine kn_Re ko_Re_joinLine) rfl rfl rfl (by decide +kernel) ⟨Nat.le_of_ble_eq_true rfl, Nat.le_of_ble_eq_true rfl⟩) (ci := 7) rfl, List.forall_mem_cons.mpr ⟨pm_cokV hbs hZ ⟨hx, hb, hml, hown, hts⟩ (kW_Re_keyLine l D base sa) (fun mc ms => cwV 0 hts (pw_gV (pw_in 1232 (w := .methodLink "RoutingField$Reader" 96 ⟨"RoutingField$Reader", "keyLine", "()I"⟩) (by decide +kernel) rfl) ki_Re_keyLine ks_Re_keyLine kn_Re ko_Re_keyLine) rfl rfl rfl (by decide +kernel) ⟨Nat.le_of_ble_eq_true rfl, Nat.le_of_ble_eq_true rfl⟩) (ci := 7) rfl, List.forall_mem_cons.mpr ⟨pm_cokV hbs hZ ⟨hx, hb, hml, hown, hts⟩ (kW_Re_nokeyLine l D base sa) (fun mc ms => cwV 0 hts (pw_gV (pw_in 1245 (w := .methodLink "RoutingField$Reader" 101 ⟨"RoutingField$Reader", "nokeyLine", "()I"⟩) (by decide +kernel) rfl) ki_Re_nokeyLine ks_Re_nokeyLine kn_Re ko_Re_nokeyLine) rfl rfl rfl (by decide +kernel) ⟨Nat.le_of_ble_eq_true rfl, Nat.le_of_ble_eq_true rfl⟩) (ci := 7) rfl, List.forall_mem_cons.mpr ⟨pm_cokV hbs hZ ⟨hx, hb, hml, hown, hts⟩ (kW_Re_staticLine l D base sa) (fun mc ms => cwV 0 hts (pw_gV (pw_in 1250 (w := .methodLink "RoutingField$Reader" 106 ⟨"RoutingField$Reader", "staticLine", "()I"⟩) (by decide +kernel) rfl) ki_Re_staticLine ks_Re_staticLine kn_Re ko_Re_staticLine) rfl rfl rfl (by decide +kernel) ⟨Nat.le_of_ble_eq_true rfl, Nat.le_of_ble_eq_true rfl⟩) (ci := 7) rfl, List.forall_mem_cons.mpr ⟨pm_cokV hbs hZ ⟨hx, hb, hml, hown, hts⟩ (kW_Re_nostaticLine l D base sa) (fun mc ms => cwV 0 hts (pw_gV (pw_in 1264 (w := .methodLink "RoutingField$Reader" 111 ⟨"RoutingField$Reader", "nostaticLine", "()I"⟩) (by decide +kernel) rfl) ki_Re_nostaticLine ks_Re_nostaticLine kn_Re ko_Re_nostaticLine) rfl rfl rfl (by decide +kernel) ⟨Nat.le_of_ble_eq_true rfl, Nat.le_of_ble_eq_true rfl⟩) (ci := 7) rfl, List.forall_mem_cons.mpr ⟨pm_cokV hbs hZ ⟨hx, hb, hml, hown, hts⟩ (kW_Re_filterLine l D base sa) (fun mc ms => cwV 0 hts (pw_gV (pw_in 1277 (w := .methodLink "RoutingField$Reader" 116 ⟨"RoutingField$Reader", "filterLine", "()I"⟩) (by decide +kernel) rfl) ki_Re_filterLine ks_Re_filterLine kn_Re ko_Re_filterLine) rfl rfl rfl (by decide +kernel) ⟨Nat.le_of_ble_eq_true rfl, Nat.le_of_ble_eq_true rfl⟩) (ci := 7) rfl, List.forall_mem_cons.mpr ⟨pm_cokV hbs hZ ⟨hx, hb, hml, hown, hts⟩ (kW_Re_listLine l D base sa) (fun mc ms => cwV 0 hts (pw_gV (pw_in 1297 (w := .methodLink "RoutingField$Reader" 121 ⟨"RoutingField$Reader", "listLine", "()I"⟩) (by decide +kernel) rfl) ki_Re_listLine ks_Re_listLine kn_Re ko_Re_listLine) rfl rfl rfl (by decide +kernel) ⟨Nat.le_of_ble_eq_true rfl, Nat.le_of_ble_eq_true rfl⟩) (ci := 7) rfl, List.forall_mem_cons.mpr ⟨pm_cokV hbs hZ ⟨hx, hb, hml, hown, hts⟩ (kW_Re_distributeLine l D base sa) (fun mc ms => cwV 0 hts (pw_gV (pw_in 1311 (w := .methodLink "RoutingField$Reader" 126 ⟨"RoutingField$Reader", "distributeLine", "()I"⟩) (by decide +kernel) rfl) ki_Re_distributeLine ks_Re_distributeLine kn_Re ko_Re_distributeLine) rfl rfl rfl (by decide +kernel) ⟨Nat.le_of_ble_eq_true rfl, Nat.le_of_ble_eq_true rfl⟩) (ci := 7) rfl, List.forall_mem_cons.mpr ⟨pm_cokV hbs hZ ⟨hx, hb, hml, hown, hts⟩ (kW_Re_offsetLine l D base sa) (fun mc ms => cwV 0 hts (pw_gV (pw_in 1325 (w := .methodLink "RoutingField$Reader" 131 ⟨"RoutingField$Reader", "offsetLine", "()I"⟩) (by decide +kernel) rfl) ki_Re_offsetLine ks_Re_offsetLine kn_Re ko_Re_offsetLine) rfl rfl rfl (by decide +kernel) ⟨Nat.le_of_ble_eq_true rfl, Nat.le_of_ble_eq_true rfl⟩) (ci := 7) rfl, List.forall_mem_cons.mpr ⟨pm_cokV hbs hZ ⟨hx, hb, hml, hown, hts⟩ (kW_Re_summaryLine l D base sa) (fun mc ms => cwV 0 hts (pw_gV (pw_in 1330 (w := .methodLink "RoutingField$Reader" 136 ⟨"RoutingField$Reader", "summaryLine", "()I"⟩) (by decide +kernel) rfl) ki_Re_summaryLine ks_Re_summaryLine kn_Re ko_Re_summaryLine) rfl rfl rfl (by decide +kernel) ⟨Nat.le_of_ble_eq_true rfl, Nat.le_of_ble_eq_true rfl⟩) (ci := 7) rfl, List.forall_mem_cons.mpr ⟨pm_cokV hbs hZ ⟨hx, hb, hml, hown, hts⟩ (kW_Re_neighborLine l D base sa) (fun mc ms => cwV 0 hts (pw_gV (pw_in 1339 (w := .methodLink "RoutingField$Reader" 141 ⟨"RoutingField$Reader", "neighborLine", "()I"⟩) (by decide +kernel) rfl) ki_Re_neighborLine ks_Re_neighborLine kn_Re ko_Re_neighborLine) rfl rfl rfl (by decide +kernel) ⟨Nat.le_of_ble_eq_true rfl, Nat.le_of_ble_eq_true rfl⟩) (ci := 7) rfl, List.forall_mem_cons.mpr ⟨pm_cokV hbs hZ ⟨hx, hb, hml, hown, hts⟩ (kW_Re_redistributeLine l D base sa) (fun mc ms => cwV 0 hts (pw_gV (pw_in 1348 (w := .methodLink "RoutingField$Reader" 146 ⟨"RoutingField$Reader", "redistributeLine", "()I"⟩) (by decide +kernel) rfl) ki_Re_redistributeLine ks_Re_redistributeLine kn_Re ko_Re_redistributeLine) rfl rfl rfl (by decide +kernel) ⟨Nat.le_of_ble_eq_true rfl, Nat.le_of_ble_eq_true rfl⟩) (ci := 7) rfl, List.forall_mem_cons.mpr ⟨pm_cokV hbs hZ ⟨hx, hb, hml, hown, hts⟩ (kW_Re_defaultLine l D base sa) (fun mc ms => cwV 0 hts (pw_gV (pw_in 1355 (w := .methodLink "RoutingField$Reader" 151 ⟨"RoutingField$Reader", "defaultLine", "()I"⟩) (by decide +kernel) rfl) ki_Re_defaultLine ks_Re_defaultLine kn_Re ko_Re_defaultLine) rfl rfl rfl (by decide +kernel) ⟨Nat.le_of_ble_eq_true rfl, Nat.le_of_ble_eq_true rfl⟩) (ci := 7) rfl, List.forall_mem_cons.mpr ⟨pm_cokV hbs hZ ⟨hx, hb, hml, hown, hts⟩ (kW_Re_timersLine l D base sa) (fun mc ms => cwV 0 hts (pw_gV (pw_in 1361 (w := .methodLink "RoutingField$Reader" 156 ⟨"RoutingField$Reader", "timersLine", "()I"⟩) (by decide +kernel) rfl) ki_Re_timersLine ks_Re_timersLine kn_Re ko_Re_timersLine) rfl rfl rfl (by decide +kernel) ⟨Nat.le_of_ble_eq_true rfl, Nat.le_of_ble_eq_true rfl⟩) (ci := 7) rfl, fun _ h => absurd h List.not_mem_nil⟩⟩⟩⟩⟩⟩⟩⟩⟩⟩⟩⟩⟩⟩⟩⟩⟩⟩⟩),
    hZ, kst_ok ht hZ (kS_Re_ok sa), knar_ok ht, ktx_ok (kE_Re_ok sa)⟩
set_option maxRecDepth 100000 in
theorem ki_Rf_read : Cond.instanceMethod ⟨"RoutingField", "read", "()I"⟩ ∈ pw_T := (pw_in 278 (by decide +kernel) rfl)
set_option maxRecDepth 100000 in
theorem ks_Rf_read : Cond.selects "RoutingField" ⟨"RoutingField", "read", "()I"⟩ ⟨"RoutingField", "read", "()I"⟩ ∈ pw_T := (pw_in 279 (by decide +kernel) rfl)
set_option maxRecDepth 100000 in
theorem ko_Rf_read : Cond.code ⟨"RoutingField", "read", "()I"⟩ prog_1_method_4_code 4 (some .int) ∈ pw_T := (pw_in 280 rfl rfl)
set_option maxRecDepth 100000 in
theorem kD_Rf_read_0 : ∀ q ∈ kC_Rf_read_0, decode prog_1_method_4_code q.1 = .ok (q.2, pm_len q.1 q.2) := by decide +kernel
set_option maxRecDepth 100000 in
theorem kD_Rf_read_1 : ∀ q ∈ kC_Rf_read_1, decode prog_1_method_4_code q.1 = .ok (q.2, pm_len q.1 q.2) := by decide +kernel
theorem kD_Rf_read : ∀ q ∈ kC_Rf_read, decode prog_1_method_4_code q.1 = .ok (q.2, pm_len q.1 q.2) := List.forall_mem_append.mpr ⟨kD_Rf_read_0, kD_Rf_read_1⟩
set_option maxRecDepth 100000 in
theorem kW_Rf_read (l : Launch) (D : va_G) (base : Nat) (sa : Nat → Nat) : pm_Met l D kcl base (kZ sa) ⟨"RoutingField", "read", "()I"⟩ (.code ⟨"RoutingField", "read", "()I"⟩ prog_1_method_4_code 4 (some .int) :: pw_T) 10 253 (kP_Rf_read base sa) := by
  refine pm_met (by decide) rfl rfl ?_
  intro mc ms p e s m args below meth c hx hb hml hown hnm hts hbs hZ
  have ht : ∀ w ∈ pw_T, w.before args s = true := fun w h => hts w (List.mem_cons_of_mem _ h)
  exact ⟨hx, hb, hown, hbs, pm_look_all kD_Rf_read, kf_ok (init := false) ht hZ kF_Rf_ok (fun h => by cases h), km_ok ht kM_Rf_ok, kci_ok ht kI_Rf_ok, kli_ok ht kJ_Rf_ok, kar_ok ht hZ kA_Rf_ok,
    pm_look_all (List.forall_mem_cons.mpr ⟨pm_cokI hbs hZ ⟨hx, hb, hml, hown, hts⟩ (kW_Re_init l D base sa) (fun mc ms => cwI 1 hts (pw_gC ko_Re_init) rfl rfl rfl (ht _ kn_Re) (ht _ (pw_in 283 (w := .methodLink "RoutingField" 108 ⟨"RoutingField$Reader", "<init>", "(LRoutingField;)V"⟩) (by decide +kernel) rfl)) (ht _ ki_Re_init) rfl (by decide +kernel) ⟨Nat.le_of_ble_eq_true rfl, Nat.le_of_ble_eq_true rfl⟩), List.forall_mem_cons.mpr ⟨pm_cokV hbs hZ ⟨hx, hb, hml, hown, hts⟩ (kW_By_at l D base sa) (fun mc ms => cwV 1 hts (pw_gV (pw_in 384 (w := .methodLink "RoutingField" 111 ⟨"RoutingField$Bytes", "at", "(I)I"⟩) (by decide +kernel) rfl) ki_By_at ks_By_at kn_By ko_By_at) rfl rfl rfl (by decide +kernel) ⟨Nat.le_of_ble_eq_true rfl, Nat.le_of_ble_eq_true rfl⟩) (ci := 0) rfl, List.forall_mem_cons.mpr ⟨pm_cokV hbs hZ ⟨hx, hb, hml, hown, hts⟩ (kW_Re_doLine l D base sa) (fun mc ms => cwV 2 hts (pw_gV (pw_in 388 (w := .methodLink "RoutingField" 115 ⟨"RoutingField$Reader", "doLine", "(II)I"⟩) (by decide +kernel) rfl) ki_Re_doLine ks_Re_doLine kn_Re ko_Re_doLine) rfl rfl rfl (by decide +kernel) ⟨Nat.le_of_ble_eq_true rfl, Nat.le_of_ble_eq_true rfl⟩) (ci := 7) rfl, List.forall_mem_cons.mpr ⟨pm_cokV hbs hZ ⟨hx, hb, hml, hown, hts⟩ (kW_By_clear l D base sa) (fun mc ms => cwV 0 hts (pw_gV (pw_in 1224 (w := .methodLink "RoutingField" 119 ⟨"RoutingField$Bytes", "clear", "()V"⟩) (by decide +kernel) rfl) ki_By_clear ks_By_clear kn_By ko_By_clear) rfl rfl rfl (by decide +kernel) ⟨Nat.le_of_ble_eq_true rfl, Nat.le_of_ble_eq_true rfl⟩) (ci := 0) rfl, fun _ h => absurd h List.not_mem_nil⟩⟩⟩⟩),
    hZ, kst_ok ht hZ (kS_Rf_ok sa), knar_ok ht, ktx_ok (kE_Rf_ok sa)⟩
set_option maxRecDepth 100000 in
theorem ki_Rf_fault : Cond.instanceMethod ⟨"RoutingField", "fault", "()I"⟩ ∈ pw_T := (pw_in 1366 (by decide +kernel) rfl)
set_option maxRecDepth 100000 in
theorem ks_Rf_fault : Cond.selects "RoutingField" ⟨"RoutingField", "fault", "()I"⟩ ⟨"RoutingField", "fault", "()I"⟩ ∈ pw_T := (pw_in 1367 (by decide +kernel) rfl)
set_option maxRecDepth 100000 in
theorem ko_Rf_fault : Cond.code ⟨"RoutingField", "fault", "()I"⟩ prog_1_method_5_code 1 (some .int) ∈ pw_T := (pw_in 1368 rfl rfl)
set_option maxRecDepth 100000 in
theorem kD_Rf_fault : ∀ q ∈ kC_Rf_fault, decode prog_1_method_5_code q.1 = .ok (q.2, pm_len q.1 q.2) := by decide +kernel
set_option maxRecDepth 100000 in
theorem kW_Rf_fault (l : Launch) (D : va_G) (base : Nat) (sa : Nat → Nat) : pm_Met l D kcl base (kZ sa) ⟨"RoutingField", "fault", "()I"⟩ (.code ⟨"RoutingField", "fault", "()I"⟩ prog_1_method_5_code 1 (some .int) :: pw_T) 0 0 (kP_Rf_fault base sa) := by
  refine pm_met (by decide) rfl rfl ?_
  intro mc ms p e s m args below meth c hx hb hml hown hnm hts hbs hZ
  have ht : ∀ w ∈ pw_T, w.before args s = true := fun w h => hts w (List.mem_cons_of_mem _ h)
  exact ⟨hx, hb, hown, hbs, pm_look_all kD_Rf_fault, kf_ok (init := false) ht hZ kF_Rf_ok (fun h => by cases h), km_ok ht kM_Rf_ok, kci_ok ht kI_Rf_ok, kli_ok ht kJ_Rf_ok, kar_ok ht hZ kA_Rf_ok,
    pm_look_all (fun _ h => absurd h List.not_mem_nil),
    hZ, kst_ok ht hZ (kS_Rf_ok sa), knar_ok ht, ktx_ok (kE_Rf_ok sa)⟩
set_option maxRecDepth 100000 in
theorem ki_Rf_takeOut : Cond.instanceMethod ⟨"RoutingField", "takeOut", "(I)V"⟩ ∈ pw_T := (pw_in 1379 (by decide +kernel) rfl)
set_option maxRecDepth 100000 in
theorem ks_Rf_takeOut : Cond.selects "RoutingField" ⟨"RoutingField", "takeOut", "(I)V"⟩ ⟨"RoutingField", "takeOut", "(I)V"⟩ ∈ pw_T := (pw_sel 63 (q := (⟨"RoutingField", "takeOut", "(I)V"⟩, 20)) (by decide +kernel))
set_option maxRecDepth 100000 in
theorem ko_Rf_takeOut : Cond.code ⟨"RoutingField", "takeOut", "(I)V"⟩ prog_1_method_29_code 3 none ∈ pw_T := (pw_in 1380 rfl rfl)
set_option maxRecDepth 100000 in
theorem kD_Rf_takeOut : ∀ q ∈ kC_Rf_takeOut, decode prog_1_method_29_code q.1 = .ok (q.2, pm_len q.1 q.2) := by decide +kernel
set_option maxRecDepth 100000 in
theorem kW_Rf_takeOut (l : Launch) (D : va_G) (base : Nat) (sa : Nat → Nat) : pm_Met l D kcl base (kZ sa) ⟨"RoutingField", "takeOut", "(I)V"⟩ (.code ⟨"RoutingField", "takeOut", "(I)V"⟩ prog_1_method_29_code 3 none :: pw_T) 0 0 (kP_Rf_takeOut base sa) := by
  refine pm_met (by decide) rfl rfl ?_
  intro mc ms p e s m args below meth c hx hb hml hown hnm hts hbs hZ
  have ht : ∀ w ∈ pw_T, w.before args s = true := fun w h => hts w (List.mem_cons_of_mem _ h)
  exact ⟨hx, hb, hown, hbs, pm_look_all kD_Rf_takeOut, kf_ok (init := false) ht hZ kF_Rf_ok (fun h => by cases h), km_ok ht kM_Rf_ok, kci_ok ht kI_Rf_ok, kli_ok ht kJ_Rf_ok, kar_ok ht hZ kA_Rf_ok,
    pm_look_all (fun _ h => absurd h List.not_mem_nil),
    hZ, kst_ok ht hZ (kS_Rf_ok sa), knar_ok ht, ktx_ok (kE_Rf_ok sa)⟩
set_option maxRecDepth 100000 in
theorem ki_Pr_sameAddress : Cond.instanceMethod ⟨"RoutingField$Prefix", "sameAddress", "(LRoutingField$Prefix;)Z"⟩ ∈ pw_T := (pw_in 1387 (by decide +kernel) rfl)
set_option maxRecDepth 100000 in
theorem ks_Pr_sameAddress : Cond.selects "RoutingField$Prefix" ⟨"RoutingField$Prefix", "sameAddress", "(LRoutingField$Prefix;)Z"⟩ ⟨"RoutingField$Prefix", "sameAddress", "(LRoutingField$Prefix;)Z"⟩ ∈ pw_T := (pw_in 1388 (by decide +kernel) rfl)
set_option maxRecDepth 100000 in
theorem ko_Pr_sameAddress : Cond.code ⟨"RoutingField$Prefix", "sameAddress", "(LRoutingField$Prefix;)Z"⟩ prog_7_method_10_code 2 (some .boolean) ∈ pw_T := (pw_in 1389 rfl rfl)
set_option maxRecDepth 100000 in
theorem kD_Pr_sameAddress : ∀ q ∈ kC_Pr_sameAddress, decode prog_7_method_10_code q.1 = .ok (q.2, pm_len q.1 q.2) := by decide +kernel
set_option maxRecDepth 100000 in
theorem kW_Pr_sameAddress (l : Launch) (D : va_G) (base : Nat) (sa : Nat → Nat) : pm_Met l D kcl base (kZ sa) ⟨"RoutingField$Prefix", "sameAddress", "(LRoutingField$Prefix;)Z"⟩ (.code ⟨"RoutingField$Prefix", "sameAddress", "(LRoutingField$Prefix;)Z"⟩ prog_7_method_10_code 2 (some .boolean) :: pw_T) 0 0 (kP_Pr_sameAddress base sa) := by
  refine pm_met (by decide) rfl rfl ?_
  intro mc ms p e s m args below meth c hx hb hml hown hnm hts hbs hZ
  have ht : ∀ w ∈ pw_T, w.before args s = true := fun w h => hts w (List.mem_cons_of_mem _ h)
  exact ⟨hx, hb, hown, hbs, pm_look_all kD_Pr_sameAddress, kf_ok (init := false) ht hZ kF_Pr_ok (fun h => by cases h), km_ok ht kM_Pr_ok, kci_ok ht kI_Pr_ok, kli_ok ht kJ_Pr_ok, kar_ok ht hZ kA_Pr_ok,
    pm_look_all (fun _ h => absurd h List.not_mem_nil),
    hZ, kst_ok ht hZ (kS_Pr_ok sa), knar_ok ht, ktx_ok (kE_Pr_ok sa)⟩
set_option maxRecDepth 100000 in
theorem ki_Rr_hearer : Cond.instanceMethod ⟨"RoutingField$Router", "hearer", "(LRoutingField$Datagram;)LRoutingField$Port;"⟩ ∈ pw_T := (pw_in 1382 (by decide +kernel) rfl)
set_option maxRecDepth 100000 in
theorem ks_Rr_hearer : Cond.selects "RoutingField$Router" ⟨"RoutingField$Router", "hearer", "(LRoutingField$Datagram;)LRoutingField$Port;"⟩ ⟨"RoutingField$Router", "hearer", "(LRoutingField$Datagram;)LRoutingField$Port;"⟩ ∈ pw_T := (pw_in 1383 (by decide +kernel) rfl)
set_option maxRecDepth 100000 in
theorem ko_Rr_hearer : Cond.code ⟨"RoutingField$Router", "hearer", "(LRoutingField$Datagram;)LRoutingField$Port;"⟩ prog_11_method_30_code 4 (some (.object "RoutingField$Port")) ∈ pw_T := (pw_in 1384 rfl rfl)
set_option maxRecDepth 100000 in
theorem kD_Rr_hearer : ∀ q ∈ kC_Rr_hearer, decode prog_11_method_30_code q.1 = .ok (q.2, pm_len q.1 q.2) := by decide +kernel
set_option maxRecDepth 100000 in
theorem kW_Rr_hearer (l : Launch) (D : va_G) (base : Nat) (sa : Nat → Nat) : pm_Met l D kcl base (kZ sa) ⟨"RoutingField$Router", "hearer", "(LRoutingField$Datagram;)LRoutingField$Port;"⟩ (.code ⟨"RoutingField$Router", "hearer", "(LRoutingField$Datagram;)LRoutingField$Port;"⟩ prog_11_method_30_code 4 (some (.object "RoutingField$Port")) :: pw_T) 1 22 (kP_Rr_hearer base sa) := by
  refine pm_met (by decide) rfl rfl ?_
  intro mc ms p e s m args below meth c hx hb hml hown hnm hts hbs hZ
  have ht : ∀ w ∈ pw_T, w.before args s = true := fun w h => hts w (List.mem_cons_of_mem _ h)
  exact ⟨hx, hb, hown, hbs, pm_look_all kD_Rr_hearer, kf_ok (init := false) ht hZ kF_Rr_ok (fun h => by cases h), km_ok ht kM_Rr_ok, kci_ok ht kI_Rr_ok, kli_ok ht kJ_Rr_ok, kar_ok ht hZ kA_Rr_ok,
    pm_look_all (List.forall_mem_cons.mpr ⟨pm_cokV hbs hZ ⟨hx, hb, hml, hown, hts⟩ (kW_Rr_portOn l D base sa) (fun mc ms => cwV 1 hts (pw_gV (pw_in 1385 (w := .methodLink "RoutingField$Router" 419 ⟨"RoutingField$Router", "portOn", "(LRoutingField$Link;)LRoutingField$Port;"⟩) (by decide +kernel) rfl) ki_Rr_portOn ks_Rr_portOn kn_Rr ko_Rr_portOn) rfl rfl rfl (by decide +kernel) ⟨Nat.le_of_ble_eq_true rfl, Nat.le_of_ble_eq_true rfl⟩) (ci := 9) rfl, List.forall_mem_cons.mpr ⟨pm_cokV hbs hZ ⟨hx, hb, hml, hown, hts⟩ (kW_Po_addressOf l D base sa) (fun mc ms => cwV 1 hts (pw_gV (pw_in 978 (w := .methodLink "RoutingField$Router" 133 ⟨"RoutingField$Port", "addressOf", "(I)LRoutingField$Prefix;"⟩) (by decide +kernel) rfl) ki_Po_addressOf ks_Po_addressOf kn_Po ko_Po_addressOf) rfl rfl rfl (by decide +kernel) ⟨Nat.le_of_ble_eq_true rfl, Nat.le_of_ble_eq_true rfl⟩) (ci := 4) rfl, List.forall_mem_cons.mpr ⟨pm_cokV hbs hZ ⟨hx, hb, hml, hown, hts⟩ (kW_Pr_sameAddress l D base sa) (fun mc ms => cwV 1 hts (pw_gV (pw_in 1386 (w := .methodLink "RoutingField$Router" 423 ⟨"RoutingField$Prefix", "sameAddress", "(LRoutingField$Prefix;)Z"⟩) (by decide +kernel) rfl) ki_Pr_sameAddress ks_Pr_sameAddress kn_Pr ko_Pr_sameAddress) rfl rfl rfl (by decide +kernel) ⟨Nat.le_of_ble_eq_true rfl, Nat.le_of_ble_eq_true rfl⟩) (ci := 5) rfl, fun _ h => absurd h List.not_mem_nil⟩⟩⟩),
    hZ, kst_ok ht hZ (kS_Rr_ok sa), knar_ok ht, ktx_ok (kE_Rr_ok sa)⟩
set_option maxRecDepth 100000 in
theorem ki_By_zerosAt : Cond.instanceMethod ⟨"RoutingField$Bytes", "zerosAt", "(II)Z"⟩ ∈ pw_T := (pw_in 1401 (by decide +kernel) rfl)
set_option maxRecDepth 100000 in
theorem ks_By_zerosAt : Cond.selects "RoutingField$Bytes" ⟨"RoutingField$Bytes", "zerosAt", "(II)Z"⟩ ⟨"RoutingField$Bytes", "zerosAt", "(II)Z"⟩ ∈ pw_T := (pw_in 1402 (by decide +kernel) rfl)
set_option maxRecDepth 100000 in
theorem ko_By_zerosAt : Cond.code ⟨"RoutingField$Bytes", "zerosAt", "(II)Z"⟩ prog_2_method_6_code 4 (some .boolean) ∈ pw_T := (pw_in 1403 rfl rfl)
set_option maxRecDepth 100000 in
theorem kD_By_zerosAt : ∀ q ∈ kC_By_zerosAt, decode prog_2_method_6_code q.1 = .ok (q.2, pm_len q.1 q.2) := by decide +kernel
set_option maxRecDepth 100000 in
theorem kW_By_zerosAt (l : Launch) (D : va_G) (base : Nat) (sa : Nat → Nat) : pm_Met l D kcl base (kZ sa) ⟨"RoutingField$Bytes", "zerosAt", "(II)Z"⟩ (.code ⟨"RoutingField$Bytes", "zerosAt", "(II)Z"⟩ prog_2_method_6_code 4 (some .boolean) :: pw_T) 1 21 (kP_By_zerosAt base sa) := by
  refine pm_met (by decide) rfl rfl ?_
  intro mc ms p e s m args below meth c hx hb hml hown hnm hts hbs hZ
  have ht : ∀ w ∈ pw_T, w.before args s = true := fun w h => hts w (List.mem_cons_of_mem _ h)
  exact ⟨hx, hb, hown, hbs, pm_look_all kD_By_zerosAt, kf_ok (init := false) ht hZ kF_By_ok (fun h => by cases h), km_ok ht kM_By_ok, kci_ok ht kI_By_ok, kli_ok ht kJ_By_ok, kar_ok ht hZ kA_By_ok,
    pm_look_all (List.forall_mem_cons.mpr ⟨pm_cokV hbs hZ ⟨hx, hb, hml, hown, hts⟩ (kW_By_at l D base sa) (fun mc ms => cwV 1 hts (pw_gV (pw_in 1404 (w := .methodLink "RoutingField$Bytes" 19 ⟨"RoutingField$Bytes", "at", "(I)I"⟩) (by decide +kernel) rfl) ki_By_at ks_By_at kn_By ko_By_at) rfl rfl rfl (by decide +kernel) ⟨Nat.le_of_ble_eq_true rfl, Nat.le_of_ble_eq_true rfl⟩) (ci := 0) rfl, fun _ h => absurd h List.not_mem_nil⟩),
    hZ, kst_ok ht hZ (kS_By_ok sa), knar_ok ht, ktx_ok (kE_By_ok sa)⟩
set_option maxRecDepth 100000 in
theorem ki_Da_isWellFormed : Cond.instanceMethod ⟨"RoutingField$Datagram", "isWellFormed", "()Z"⟩ ∈ pw_T := (pw_in 1396 (by decide +kernel) rfl)
set_option maxRecDepth 100000 in
theorem ks_Da_isWellFormed : Cond.selects "RoutingField$Datagram" ⟨"RoutingField$Datagram", "isWellFormed", "()Z"⟩ ⟨"RoutingField$Datagram", "isWellFormed", "()Z"⟩ ∈ pw_T := (pw_in 1397 (by decide +kernel) rfl)
set_option maxRecDepth 100000 in
theorem ko_Da_isWellFormed : Cond.code ⟨"RoutingField$Datagram", "isWellFormed", "()Z"⟩ prog_4_method_3_code 3 (some .boolean) ∈ pw_T := (pw_in 1398 rfl rfl)
set_option maxRecDepth 100000 in
theorem kD_Da_isWellFormed_0 : ∀ q ∈ kC_Da_isWellFormed_0, decode prog_4_method_3_code q.1 = .ok (q.2, pm_len q.1 q.2) := by decide +kernel
set_option maxRecDepth 100000 in
theorem kD_Da_isWellFormed_1 : ∀ q ∈ kC_Da_isWellFormed_1, decode prog_4_method_3_code q.1 = .ok (q.2, pm_len q.1 q.2) := by decide +kernel
theorem kD_Da_isWellFormed : ∀ q ∈ kC_Da_isWellFormed, decode prog_4_method_3_code q.1 = .ok (q.2, pm_len q.1 q.2) := List.forall_mem_append.mpr ⟨kD_Da_isWellFormed_0, kD_Da_isWellFormed_1⟩
set_option maxRecDepth 100000 in
theorem kW_Da_isWellFormed (l : Launch) (D : va_G) (base : Nat) (sa : Nat → Nat) : pm_Met l D kcl base (kZ sa) ⟨"RoutingField$Datagram", "isWellFormed", "()Z"⟩ (.code ⟨"RoutingField$Datagram", "isWellFormed", "()Z"⟩ prog_4_method_3_code 3 (some .boolean) :: pw_T) 2 44 (kP_Da_isWellFormed base sa) := by
  refine pm_met (by decide) rfl rfl ?_
  intro mc ms p e s m args below meth c hx hb hml hown hnm hts hbs hZ
  have ht : ∀ w ∈ pw_T, w.before args s = true := fun w h => hts w (List.mem_cons_of_mem _ h)
  exact ⟨hx, hb, hown, hbs, pm_look_all kD_Da_isWellFormed, kf_ok (init := false) ht hZ kF_Da_ok (fun h => by cases h), km_ok ht kM_Da_ok, kci_ok ht kI_Da_ok, kli_ok ht kJ_Da_ok, kar_ok ht hZ kA_Da_ok,
    pm_look_all (List.forall_mem_cons.mpr ⟨pm_cokV hbs hZ ⟨hx, hb, hml, hown, hts⟩ (kW_By_at l D base sa) (fun mc ms => cwV 1 hts (pw_gV (pw_in 1399 (w := .methodLink "RoutingField$Datagram" 64 ⟨"RoutingField$Bytes", "at", "(I)I"⟩) (by decide +kernel) rfl) ki_By_at ks_By_at kn_By ko_By_at) rfl rfl rfl (by decide +kernel) ⟨Nat.le_of_ble_eq_true rfl, Nat.le_of_ble_eq_true rfl⟩) (ci := 0) rfl, List.forall_mem_cons.mpr ⟨pm_cokV hbs hZ ⟨hx, hb, hml, hown, hts⟩ (kW_By_zerosAt l D base sa) (fun mc ms => cwV 2 hts (pw_gV (pw_in 1400 (w := .methodLink "RoutingField$Datagram" 68 ⟨"RoutingField$Bytes", "zerosAt", "(II)Z"⟩) (by decide +kernel) rfl) ki_By_zerosAt ks_By_zerosAt kn_By ko_By_zerosAt) rfl rfl rfl (by decide +kernel) ⟨Nat.le_of_ble_eq_true rfl, Nat.le_of_ble_eq_true rfl⟩) (ci := 0) rfl, fun _ h => absurd h List.not_mem_nil⟩⟩),
    hZ, kst_ok ht hZ (kS_Da_ok sa), knar_ok ht, ktx_ok (kE_Da_ok sa)⟩
set_option maxRecDepth 100000 in
theorem ki_Ch_goodKey : Cond.instanceMethod ⟨"RoutingField$Chain", "goodKey", "(II)I"⟩ ∈ pw_T := (pw_in 1417 (by decide +kernel) rfl)
set_option maxRecDepth 100000 in
theorem ks_Ch_goodKey : Cond.selects "RoutingField$Chain" ⟨"RoutingField$Chain", "goodKey", "(II)I"⟩ ⟨"RoutingField$Chain", "goodKey", "(II)I"⟩ ∈ pw_T := (pw_sel 64 (q := (⟨"RoutingField$Chain", "goodKey", "(II)I"⟩, 12)) (by decide +kernel))
set_option maxRecDepth 100000 in
theorem ko_Ch_goodKey : Cond.code ⟨"RoutingField$Chain", "goodKey", "(II)I"⟩ prog_3_method_8_code 4 (some .int) ∈ pw_T := (pw_in 1418 rfl rfl)
set_option maxRecDepth 100000 in
theorem kD_Ch_goodKey : ∀ q ∈ kC_Ch_goodKey, decode prog_3_method_8_code q.1 = .ok (q.2, pm_len q.1 q.2) := by decide +kernel
set_option maxRecDepth 100000 in
theorem kW_Ch_goodKey (l : Launch) (D : va_G) (base : Nat) (sa : Nat → Nat) : pm_Met l D kcl base (kZ sa) ⟨"RoutingField$Chain", "goodKey", "(II)I"⟩ (.code ⟨"RoutingField$Chain", "goodKey", "(II)I"⟩ prog_3_method_8_code 4 (some .int) :: pw_T) 0 0 (kP_Ch_goodKey base sa) := by
  refine pm_met (by decide) rfl rfl ?_
  intro mc ms p e s m args below meth c hx hb hml hown hnm hts hbs hZ
  have ht : ∀ w ∈ pw_T, w.before args s = true := fun w h => hts w (List.mem_cons_of_mem _ h)
  exact ⟨hx, hb, hown, hbs, pm_look_all kD_Ch_goodKey, kf_ok (init := false) ht hZ kF_Ch_ok (fun h => by cases h), km_ok ht kM_Ch_ok, kci_ok ht kI_Ch_ok, kli_ok ht kJ_Ch_ok, kar_ok ht hZ kA_Ch_ok,
    pm_look_all (fun _ h => absurd h List.not_mem_nil),
    hZ, kst_ok ht hZ (kS_Ch_ok sa), knar_ok ht, ktx_ok (kE_Ch_ok sa)⟩
set_option maxRecDepth 100000 in
theorem ki_By_numberAt : Cond.instanceMethod ⟨"RoutingField$Bytes", "numberAt", "(II)J"⟩ ∈ pw_T := (pw_in 1420 (by decide +kernel) rfl)
set_option maxRecDepth 100000 in
theorem ks_By_numberAt : Cond.selects "RoutingField$Bytes" ⟨"RoutingField$Bytes", "numberAt", "(II)J"⟩ ⟨"RoutingField$Bytes", "numberAt", "(II)J"⟩ ∈ pw_T := (pw_in 1421 (by decide +kernel) rfl)
set_option maxRecDepth 100000 in
theorem ko_By_numberAt : Cond.code ⟨"RoutingField$Bytes", "numberAt", "(II)J"⟩ prog_2_method_5_code 6 (some .long) ∈ pw_T := (pw_in 1422 rfl rfl)
set_option maxRecDepth 100000 in
theorem kD_By_numberAt : ∀ q ∈ kC_By_numberAt, decode prog_2_method_5_code q.1 = .ok (q.2, pm_len q.1 q.2) := by decide +kernel
set_option maxRecDepth 100000 in
theorem kW_By_numberAt (l : Launch) (D : va_G) (base : Nat) (sa : Nat → Nat) : pm_Met l D kcl base (kZ sa) ⟨"RoutingField$Bytes", "numberAt", "(II)J"⟩ (.code ⟨"RoutingField$Bytes", "numberAt", "(II)J"⟩ prog_2_method_5_code 6 (some .long) :: pw_T) 0 0 (kP_By_numberAt base sa) := by
  refine pm_met (by decide) rfl rfl ?_
  intro mc ms p e s m args below meth c hx hb hml hown hnm hts hbs hZ
  have ht : ∀ w ∈ pw_T, w.before args s = true := fun w h => hts w (List.mem_cons_of_mem _ h)
  exact ⟨hx, hb, hown, hbs, pm_look_all kD_By_numberAt, kf_ok (init := false) ht hZ kF_By_ok (fun h => by cases h), km_ok ht kM_By_ok, kci_ok ht kI_By_ok, kli_ok ht kJ_By_ok, kar_ok ht hZ kA_By_ok,
    pm_look_all (fun _ h => absurd h List.not_mem_nil),
    hZ, kst_ok ht hZ (kS_By_ok sa), knar_ok ht, ktx_ok (kE_By_ok sa)⟩
set_option maxRecDepth 100000 in
theorem ki_Ch_endSize : Cond.instanceMethod ⟨"RoutingField$Chain", "endSize", "(I)I"⟩ ∈ pw_T := (pw_in 1425 (by decide +kernel) rfl)
set_option maxRecDepth 100000 in
theorem ks_Ch_endSize : Cond.selects "RoutingField$Chain" ⟨"RoutingField$Chain", "endSize", "(I)I"⟩ ⟨"RoutingField$Chain", "endSize", "(I)I"⟩ ∈ pw_T := (pw_in 1426 (by decide +kernel) rfl)
set_option maxRecDepth 100000 in
theorem ko_Ch_endSize : Cond.code ⟨"RoutingField$Chain", "endSize", "(I)I"⟩ prog_3_method_9_code 2 (some .int) ∈ pw_T := (pw_in 1427 rfl rfl)
set_option maxRecDepth 100000 in
theorem kD_Ch_endSize : ∀ q ∈ kC_Ch_endSize, decode prog_3_method_9_code q.1 = .ok (q.2, pm_len q.1 q.2) := by decide +kernel
set_option maxRecDepth 100000 in
theorem kW_Ch_endSize (l : Launch) (D : va_G) (base : Nat) (sa : Nat → Nat) : pm_Met l D kcl base (kZ sa) ⟨"RoutingField$Chain", "endSize", "(I)I"⟩ (.code ⟨"RoutingField$Chain", "endSize", "(I)I"⟩ prog_3_method_9_code 2 (some .int) :: pw_T) 0 0 (kP_Ch_endSize base sa) := by
  refine pm_met (by decide) rfl rfl ?_
  intro mc ms p e s m args below meth c hx hb hml hown hnm hts hbs hZ
  have ht : ∀ w ∈ pw_T, w.before args s = true := fun w h => hts w (List.mem_cons_of_mem _ h)
  exact ⟨hx, hb, hown, hbs, pm_look_all kD_Ch_endSize, kf_ok (init := false) ht hZ kF_Ch_ok (fun h => by cases h), km_ok ht kM_Ch_ok, kci_ok ht kI_Ch_ok, kli_ok ht kJ_Ch_ok, kar_ok ht hZ kA_Ch_ok,
    pm_look_all (fun _ h => absurd h List.not_mem_nil),
    hZ, kst_ok ht hZ (kS_Ch_ok sa), knar_ok ht, ktx_ok (kE_Ch_ok sa)⟩
set_option maxRecDepth 100000 in
theorem ki_Ch_keyOf : Cond.instanceMethod ⟨"RoutingField$Chain", "keyOf", "(LRoutingField$Bytes;I)I"⟩ ∈ pw_T := (pw_in 1411 (by decide +kernel) rfl)
set_option maxRecDepth 100000 in
theorem ks_Ch_keyOf : Cond.selects "RoutingField$Chain" ⟨"RoutingField$Chain", "keyOf", "(LRoutingField$Bytes;I)I"⟩ ⟨"RoutingField$Chain", "keyOf", "(LRoutingField$Bytes;I)I"⟩ ∈ pw_T := (pw_in 1412 (by decide +kernel) rfl)
set_option maxRecDepth 100000 in
theorem ko_Ch_keyOf : Cond.code ⟨"RoutingField$Chain", "keyOf", "(LRoutingField$Bytes;I)I"⟩ prog_3_method_14_code 6 (some .int) ∈ pw_T := (pw_in 1413 rfl rfl)
set_option maxRecDepth 100000 in
theorem kD_Ch_keyOf_0 : ∀ q ∈ kC_Ch_keyOf_0, decode prog_3_method_14_code q.1 = .ok (q.2, pm_len q.1 q.2) := by decide +kernel
set_option maxRecDepth 100000 in
theorem kD_Ch_keyOf_1 : ∀ q ∈ kC_Ch_keyOf_1, decode prog_3_method_14_code q.1 = .ok (q.2, pm_len q.1 q.2) := by decide +kernel
set_option maxRecDepth 100000 in
theorem kD_Ch_keyOf_2 : ∀ q ∈ kC_Ch_keyOf_2, decode prog_3_method_14_code q.1 = .ok (q.2, pm_len q.1 q.2) := by decide +kernel
theorem kD_Ch_keyOf : ∀ q ∈ kC_Ch_keyOf, decode prog_3_method_14_code q.1 = .ok (q.2, pm_len q.1 q.2) := List.forall_mem_append.mpr ⟨kD_Ch_keyOf_0, List.forall_mem_append.mpr ⟨kD_Ch_keyOf_1, kD_Ch_keyOf_2⟩⟩
set_option maxRecDepth 100000 in
theorem kW_Ch_keyOf (l : Launch) (D : va_G) (base : Nat) (sa : Nat → Nat) : pm_Met l D kcl base (kZ sa) ⟨"RoutingField$Chain", "keyOf", "(LRoutingField$Bytes;I)I"⟩ (.code ⟨"RoutingField$Chain", "keyOf", "(LRoutingField$Bytes;I)I"⟩ prog_3_method_14_code 6 (some .int) :: pw_T) 3 76 (kP_Ch_keyOf base sa) := by
  refine pm_met (by decide) rfl rfl ?_
  intro mc ms p e s m args below meth c hx hb hml hown hnm hts hbs hZ
  have ht : ∀ w ∈ pw_T, w.before args s = true := fun w h => hts w (List.mem_cons_of_mem _ h)
  exact ⟨hx, hb, hown, hbs, pm_look_all kD_Ch_keyOf, kf_ok (init := false) ht hZ kF_Ch_ok (fun h => by cases h), km_ok ht kM_Ch_ok, kci_ok ht kI_Ch_ok, kli_ok ht kJ_Ch_ok, kar_ok ht hZ kA_Ch_ok,
    pm_look_all (List.forall_mem_cons.mpr ⟨pm_cokV hbs hZ ⟨hx, hb, hml, hown, hts⟩ (kW_By_at l D base sa) (fun mc ms => cwV 1 hts (pw_gV (pw_in 1414 (w := .methodLink "RoutingField$Chain" 87 ⟨"RoutingField$Bytes", "at", "(I)I"⟩) (by decide +kernel) rfl) ki_By_at ks_By_at kn_By ko_By_at) rfl rfl rfl (by decide +kernel) ⟨Nat.le_of_ble_eq_true rfl, Nat.le_of_ble_eq_true rfl⟩) (ci := 0) rfl, List.forall_mem_cons.mpr ⟨pm_cokV hbs hZ ⟨hx, hb, hml, hown, hts⟩ (kW_Ch_goodKey l D base sa) (fun mc ms => cwV 2 hts (pw_gV (pw_in 1415 (w := .methodLink "RoutingField$Chain" 118 ⟨"RoutingField$Chain", "goodKey", "(II)I"⟩) (by decide +kernel) rfl) ki_Ch_goodKey ks_Ch_goodKey kn_Ch ko_Ch_goodKey) rfl rfl rfl (by decide +kernel) ⟨Nat.le_of_ble_eq_true rfl, Nat.le_of_ble_eq_true rfl⟩) (ci := 1) rfl, List.forall_mem_cons.mpr ⟨pm_cokV hbs hZ ⟨hx, hb, hml, hown, hts⟩ (kW_By_numberAt l D base sa) (fun mc ms => cwV 2 hts (pw_gV (pw_in 1419 (w := .methodLink "RoutingField$Chain" 91 ⟨"RoutingField$Bytes", "numberAt", "(II)J"⟩) (by decide +kernel) rfl) ki_By_numberAt ks_By_numberAt kn_By ko_By_numberAt) rfl rfl rfl (by decide +kernel) ⟨Nat.le_of_ble_eq_true rfl, Nat.le_of_ble_eq_true rfl⟩) (ci := 0) rfl, List.forall_mem_cons.mpr ⟨pm_cokV hbs hZ ⟨hx, hb, hml, hown, hts⟩ (kW_Ch_endSize l D base sa) (fun mc ms => cwV 1 hts (pw_gV (pw_in 1424 (w := .methodLink "RoutingField$Chain" 123 ⟨"RoutingField$Chain", "endSize", "(I)I"⟩) (by decide +kernel) rfl) ki_Ch_endSize ks_Ch_endSize kn_Ch ko_Ch_endSize) rfl rfl rfl (by decide +kernel) ⟨Nat.le_of_ble_eq_true rfl, Nat.le_of_ble_eq_true rfl⟩) (ci := 1) rfl, List.forall_mem_cons.mpr ⟨pm_cokV hbs hZ ⟨hx, hb, hml, hown, hts⟩ (kW_By_zerosAt l D base sa) (fun mc ms => cwV 2 hts (pw_gV (pw_in 1428 (w := .methodLink "RoutingField$Chain" 126 ⟨"RoutingField$Bytes", "zerosAt", "(II)Z"⟩) (by decide +kernel) rfl) ki_By_zerosAt ks_By_zerosAt kn_By ko_By_zerosAt) rfl rfl rfl (by decide +kernel) ⟨Nat.le_of_ble_eq_true rfl, Nat.le_of_ble_eq_true rfl⟩) (ci := 0) rfl, List.forall_mem_cons.mpr ⟨pm_cokV hbs hZ ⟨hx, hb, hml, hown, hts⟩ (kW_Ch_sum l D base sa) (fun mc ms => cwV 3 hts (pw_gV (pw_in 1155 (w := .methodLink "RoutingField$Chain" 111 ⟨"RoutingField$Chain", "sum", "(LRoutingField$Bytes;II)V"⟩) (by decide +kernel) rfl) ki_Ch_sum ks_Ch_sum kn_Ch ko_Ch_sum) rfl rfl rfl (by decide +kernel) ⟨Nat.le_of_ble_eq_true rfl, Nat.le_of_ble_eq_true rfl⟩) (ci := 1) rfl, List.forall_mem_cons.mpr ⟨pm_cokV hbs hZ ⟨hx, hb, hml, hown, hts⟩ (kW_Ch_sumByte l D base sa) (fun mc ms => cwV 2 hts (pw_gV (pw_in 1207 (w := .methodLink "RoutingField$Chain" 115 ⟨"RoutingField$Chain", "sumByte", "(II)I"⟩) (by decide +kernel) rfl) ki_Ch_sumByte ks_Ch_sumByte kn_Ch ko_Ch_sumByte) rfl rfl rfl (by decide +kernel) ⟨Nat.le_of_ble_eq_true rfl, Nat.le_of_ble_eq_true rfl⟩) (ci := 1) rfl, fun _ h => absurd h List.not_mem_nil⟩⟩⟩⟩⟩⟩⟩),
    hZ, kst_ok ht hZ (kS_Ch_ok sa), knar_ok ht, ktx_ok (kE_Ch_ok sa)⟩
set_option maxRecDepth 100000 in
theorem kv_Po_widened : Cond.static ⟨"RoutingField$Port", "widened", "([I)[I"⟩ ∈ pw_T := (pw_in 1436 (by decide +kernel) rfl)
set_option maxRecDepth 100000 in
theorem ko_Po_widened : Cond.code ⟨"RoutingField$Port", "widened", "([I)[I"⟩ prog_6_method_11_code 2 (some (.array .int)) ∈ pw_T := (pw_in 1437 rfl rfl)
set_option maxRecDepth 100000 in
theorem kD_Po_widened : ∀ q ∈ kC_Po_widened, decode prog_6_method_11_code q.1 = .ok (q.2, pm_len q.1 q.2) := by decide +kernel
set_option maxRecDepth 100000 in
theorem kW_Po_widened (l : Launch) (D : va_G) (base : Nat) (sa : Nat → Nat) : pm_Met l D kcl base (kZ sa) ⟨"RoutingField$Port", "widened", "([I)[I"⟩ (.code ⟨"RoutingField$Port", "widened", "([I)[I"⟩ prog_6_method_11_code 2 (some (.array .int)) :: pw_T) 1 30 (kP_Po_widened base sa) := by
  refine pm_met (by decide) rfl rfl ?_
  intro mc ms p e s m args below meth c hx hb hml hown hnm hts hbs hZ
  have ht : ∀ w ∈ pw_T, w.before args s = true := fun w h => hts w (List.mem_cons_of_mem _ h)
  exact ⟨hx, hb, hown, hbs, pm_look_all kD_Po_widened, kf_ok (init := false) ht hZ kF_Po_ok (fun h => by cases h), km_ok ht kM_Po_ok, kci_ok ht kI_Po_ok, kli_ok ht kJ_Po_ok, kar_ok ht hZ kA_Po_ok,
    pm_look_all (List.forall_mem_cons.mpr ⟨pm_cokA hbs hx hb hml hown (ht _ (pw_in 1438 (w := .methodLink "RoutingField$Port" 165 ⟨"java/lang/System", "arraycopy", "(Ljava/lang/Object;ILjava/lang/Object;II)V"⟩) (by decide +kernel) rfl)) (ht _ (pw_in 838 (by decide +kernel) rfl)) (ht _ (pw_in 837 (by decide +kernel) rfl)) (ht _ (pw_in 17 (by decide +kernel) rfl)) (Nat.le_of_ble_eq_true rfl) (Nat.le_of_ble_eq_true rfl), fun _ h => absurd h List.not_mem_nil⟩),
    hZ, kst_ok ht hZ (kS_Po_ok sa), knar_ok ht, ktx_ok (kE_Po_ok sa)⟩
set_option maxRecDepth 100000 in
theorem ki_Po_isFresh : Cond.instanceMethod ⟨"RoutingField$Port", "isFresh", "(LRoutingField$Prefix;I)Z"⟩ ∈ pw_T := (pw_in 1432 (by decide +kernel) rfl)
set_option maxRecDepth 100000 in
theorem ks_Po_isFresh : Cond.selects "RoutingField$Port" ⟨"RoutingField$Port", "isFresh", "(LRoutingField$Prefix;I)Z"⟩ ⟨"RoutingField$Port", "isFresh", "(LRoutingField$Prefix;I)Z"⟩ ∈ pw_T := (pw_sel 65 (q := (⟨"RoutingField$Port", "isFresh", "(LRoutingField$Prefix;I)Z"⟩, 19)) (by decide +kernel))
set_option maxRecDepth 100000 in
theorem ko_Po_isFresh : Cond.code ⟨"RoutingField$Port", "isFresh", "(LRoutingField$Prefix;I)Z"⟩ prog_6_method_10_code 5 (some .boolean) ∈ pw_T := (pw_in 1433 rfl rfl)
set_option maxRecDepth 100000 in
theorem kD_Po_isFresh_0 : ∀ q ∈ kC_Po_isFresh_0, decode prog_6_method_10_code q.1 = .ok (q.2, pm_len q.1 q.2) := by decide +kernel
set_option maxRecDepth 100000 in
theorem kD_Po_isFresh_1 : ∀ q ∈ kC_Po_isFresh_1, decode prog_6_method_10_code q.1 = .ok (q.2, pm_len q.1 q.2) := by decide +kernel
theorem kD_Po_isFresh : ∀ q ∈ kC_Po_isFresh, decode prog_6_method_10_code q.1 = .ok (q.2, pm_len q.1 q.2) := List.forall_mem_append.mpr ⟨kD_Po_isFresh_0, kD_Po_isFresh_1⟩
set_option maxRecDepth 100000 in
theorem kW_Po_isFresh (l : Launch) (D : va_G) (base : Nat) (sa : Nat → Nat) : pm_Met l D kcl base (kZ sa) ⟨"RoutingField$Port", "isFresh", "(LRoutingField$Prefix;I)Z"⟩ (.code ⟨"RoutingField$Port", "isFresh", "(LRoutingField$Prefix;I)Z"⟩ prog_6_method_10_code 5 (some .boolean) :: pw_T) 2 55 (kP_Po_isFresh base sa) := by
  refine pm_met (by decide) rfl rfl ?_
  intro mc ms p e s m args below meth c hx hb hml hown hnm hts hbs hZ
  have ht : ∀ w ∈ pw_T, w.before args s = true := fun w h => hts w (List.mem_cons_of_mem _ h)
  exact ⟨hx, hb, hown, hbs, pm_look_all kD_Po_isFresh, kf_ok (init := false) ht hZ kF_Po_ok (fun h => by cases h), km_ok ht kM_Po_ok, kci_ok ht kI_Po_ok, kli_ok ht kJ_Po_ok, kar_ok ht hZ kA_Po_ok,
    pm_look_all (List.forall_mem_cons.mpr ⟨pm_cokS hbs hZ ⟨hx, hb, hml, hown, hts⟩ (kW_Po_widened l D base sa) (fun mc ms => va_cwS 1 hts (pw_gS (pw_in 1435 (w := .methodLink "RoutingField$Port" 161 ⟨"RoutingField$Port", "widened", "([I)[I"⟩) (by decide +kernel) rfl) kv_Po_widened kn_Po ko_Po_widened) rfl rfl rfl (by decide +kernel) ⟨Nat.le_of_ble_eq_true rfl, Nat.le_of_ble_eq_true rfl⟩) (Nat.le_of_ble_eq_true rfl), List.forall_mem_cons.mpr ⟨pm_cokMx hx hb hml hown (ht _ (pw_in 1439 (w := .methodLink "RoutingField$Port" 111 ⟨"java/lang/Math", "max", "(II)I"⟩) (by decide +kernel) rfl)) (ht _ (pw_in 484 (by decide +kernel) rfl)) (ht _ (pw_in 14 (by decide +kernel) rfl)) (ht _ (pw_in 485 rfl rfl)) (Nat.le_of_ble_eq_true rfl) (Nat.le_of_ble_eq_true rfl), fun _ h => absurd h List.not_mem_nil⟩⟩),
    hZ, kst_ok ht hZ (kS_Po_ok sa), knar_ok ht, ktx_ok (kE_Po_ok sa)⟩
set_option maxRecDepth 100000 in
theorem ki_Ch_isPasswordEntry : Cond.instanceMethod ⟨"RoutingField$Chain", "isPasswordEntry", "(LRoutingField$Bytes;)Z"⟩ ∈ pw_T := (pw_in 1442 (by decide +kernel) rfl)
set_option maxRecDepth 100000 in
theorem ks_Ch_isPasswordEntry : Cond.selects "RoutingField$Chain" ⟨"RoutingField$Chain", "isPasswordEntry", "(LRoutingField$Bytes;)Z"⟩ ⟨"RoutingField$Chain", "isPasswordEntry", "(LRoutingField$Bytes;)Z"⟩ ∈ pw_T := (pw_in 1443 (by decide +kernel) rfl)
set_option maxRecDepth 100000 in
theorem ko_Ch_isPasswordEntry : Cond.code ⟨"RoutingField$Chain", "isPasswordEntry", "(LRoutingField$Bytes;)Z"⟩ prog_3_method_11_code 3 (some .boolean) ∈ pw_T := (pw_in 1444 rfl rfl)
set_option maxRecDepth 100000 in
theorem kD_Ch_isPasswordEntry : ∀ q ∈ kC_Ch_isPasswordEntry, decode prog_3_method_11_code q.1 = .ok (q.2, pm_len q.1 q.2) := by decide +kernel
set_option maxRecDepth 100000 in
theorem kW_Ch_isPasswordEntry (l : Launch) (D : va_G) (base : Nat) (sa : Nat → Nat) : pm_Met l D kcl base (kZ sa) ⟨"RoutingField$Chain", "isPasswordEntry", "(LRoutingField$Bytes;)Z"⟩ (.code ⟨"RoutingField$Chain", "isPasswordEntry", "(LRoutingField$Bytes;)Z"⟩ prog_3_method_11_code 3 (some .boolean) :: pw_T) 1 25 (kP_Ch_isPasswordEntry base sa) := by
  refine pm_met (by decide) rfl rfl ?_
  intro mc ms p e s m args below meth c hx hb hml hown hnm hts hbs hZ
  have ht : ∀ w ∈ pw_T, w.before args s = true := fun w h => hts w (List.mem_cons_of_mem _ h)
  exact ⟨hx, hb, hown, hbs, pm_look_all kD_Ch_isPasswordEntry, kf_ok (init := false) ht hZ kF_Ch_ok (fun h => by cases h), km_ok ht kM_Ch_ok, kci_ok ht kI_Ch_ok, kli_ok ht kJ_Ch_ok, kar_ok ht hZ kA_Ch_ok,
    pm_look_all (List.forall_mem_cons.mpr ⟨pm_cokV hbs hZ ⟨hx, hb, hml, hown, hts⟩ (kW_By_at l D base sa) (fun mc ms => cwV 1 hts (pw_gV (pw_in 1414 (w := .methodLink "RoutingField$Chain" 87 ⟨"RoutingField$Bytes", "at", "(I)I"⟩) (by decide +kernel) rfl) ki_By_at ks_By_at kn_By ko_By_at) rfl rfl rfl (by decide +kernel) ⟨Nat.le_of_ble_eq_true rfl, Nat.le_of_ble_eq_true rfl⟩) (ci := 0) rfl, List.forall_mem_cons.mpr ⟨pm_cokV hbs hZ ⟨hx, hb, hml, hown, hts⟩ (kW_By_numberAt l D base sa) (fun mc ms => cwV 2 hts (pw_gV (pw_in 1419 (w := .methodLink "RoutingField$Chain" 91 ⟨"RoutingField$Bytes", "numberAt", "(II)J"⟩) (by decide +kernel) rfl) ki_By_numberAt ks_By_numberAt kn_By ko_By_numberAt) rfl rfl rfl (by decide +kernel) ⟨Nat.le_of_ble_eq_true rfl, Nat.le_of_ble_eq_true rfl⟩) (ci := 0) rfl, fun _ h => absurd h List.not_mem_nil⟩⟩),
    hZ, kst_ok ht hZ (kS_Ch_ok sa), knar_ok ht, ktx_ok (kE_Ch_ok sa)⟩
