set_option maxRecDepth 100000 in
theorem ki_Rf_writeRoute : Cond.instanceMethod ⟨"RoutingField", "writeRoute", "(LRoutingField$Route;)V"⟩ ∈ pw_T := (pw_in 1678 (by decide +kernel) rfl)
set_option maxRecDepth 100000 in
theorem ks_Rf_writeRoute : Cond.selects "RoutingField" ⟨"RoutingField", "writeRoute", "(LRoutingField$Route;)V"⟩ ⟨"RoutingField", "writeRoute", "(LRoutingField$Route;)V"⟩ ∈ pw_T := (pw_sel 89 (q := (⟨"RoutingField", "writeRoute", "(LRoutingField$Route;)V"⟩, 20)) (by decide +kernel))
set_option maxRecDepth 100000 in
theorem ko_Rf_writeRoute : Cond.code ⟨"RoutingField", "writeRoute", "(LRoutingField$Route;)V"⟩ prog_1_method_32_code 2 none ∈ pw_T := (pw_in 1679 rfl rfl)
set_option maxRecDepth 100000 in
theorem kD_Rf_writeRoute : ∀ q ∈ kC_Rf_writeRoute, decode prog_1_method_32_code q.1 = .ok (q.2, pm_len q.1 q.2) := by decide +kernel
set_option maxRecDepth 100000 in
theorem kW_Rf_writeRoute (l : Launch) (D : va_G) (base : Nat) (sa : Nat → Nat) : pm_Met l D kcl base (kZ sa) ⟨"RoutingField", "writeRoute", "(LRoutingField$Route;)V"⟩ (.code ⟨"RoutingField", "writeRoute", "(LRoutingField$Route;)V"⟩ prog_1_method_32_code 2 none :: pw_T) 9 212 (kP_Rf_writeRoute base sa) := by
  refine pm_met (by decide) rfl rfl ?_
  intro mc ms p e s m args below meth c hx hb hml hown hnm hts hbs hZ
  have ht : ∀ w ∈ pw_T, w.before args s = true := fun w h => hts w (List.mem_cons_of_mem _ h)
  exact ⟨hx, hb, hown, hbs, pm_look_all kD_Rf_writeRoute, kf_ok (init := false) ht hZ kF_Rf_ok (fun h => by cases h), km_ok ht kM_Rf_ok, kci_ok ht kI_Rf_ok, kli_ok ht kJ_Rf_ok, kar_ok ht hZ kA_Rf_ok,
    pm_look_all (List.forall_mem_cons.mpr ⟨pm_cokV hbs hZ ⟨hx, hb, hml, hown, hts⟩ (kW_By_word l D base sa) (fun mc ms => cwV 1 hts (pw_gV (pw_in 1681 (w := .methodLink "RoutingField" 352 ⟨"RoutingField$Bytes", "word", "(Ljava/lang/String;)V"⟩) (by decide +kernel) rfl) ki_By_word ks_By_word kn_By ko_By_word) rfl rfl rfl (by decide +kernel) ⟨Nat.le_of_ble_eq_true rfl, Nat.le_of_ble_eq_true rfl⟩) (ci := 0) rfl, List.forall_mem_cons.mpr ⟨pm_cokV hbs hZ ⟨hx, hb, hml, hown, hts⟩ (kW_By_addPrefix l D base sa) (fun mc ms => cwV 1 hts (pw_gV (pw_in 1691 (w := .methodLink "RoutingField" 360 ⟨"RoutingField$Bytes", "addPrefix", "(LRoutingField$Prefix;)V"⟩) (by decide +kernel) rfl) ki_By_addPrefix ks_By_addPrefix kn_By ko_By_addPrefix) rfl rfl rfl (by decide +kernel) ⟨Nat.le_of_ble_eq_true rfl, Nat.le_of_ble_eq_true rfl⟩) (ci := 0) rfl, List.forall_mem_cons.mpr ⟨pm_cokV hbs hZ ⟨hx, hb, hml, hown, hts⟩ (kW_By_wordNumber l D base sa) (fun mc ms => cwV 1 hts (pw_gV (pw_in 1718 (w := .methodLink "RoutingField" 367 ⟨"RoutingField$Bytes", "wordNumber", "(I)V"⟩) (by decide +kernel) rfl) ki_By_wordNumber ks_By_wordNumber kn_By ko_By_wordNumber) rfl rfl rfl (by decide +kernel) ⟨Nat.le_of_ble_eq_true rfl, Nat.le_of_ble_eq_true rfl⟩) (ci := 0) rfl, List.forall_mem_cons.mpr ⟨pm_cokV hbs hZ ⟨hx, hb, hml, hown, hts⟩ (kW_By_addAddress l D base sa) (fun mc ms => cwV 1 hts (pw_gV (pw_in 1727 (w := .methodLink "RoutingField" 382 ⟨"RoutingField$Bytes", "addAddress", "(LRoutingField$Prefix;)V"⟩) (by decide +kernel) rfl) ki_By_addAddress ks_By_addAddress kn_By ko_By_addAddress) rfl rfl rfl (by decide +kernel) ⟨Nat.le_of_ble_eq_true rfl, Nat.le_of_ble_eq_true rfl⟩) (ci := 0) rfl, fun _ h => absurd h List.not_mem_nil⟩⟩⟩⟩),
    hZ, kst_ok ht hZ (kS_Rf_ok sa), knar_ok ht, ktx_ok (kE_Rf_ok sa)⟩
set_option maxRecDepth 100000 in
theorem ki_By_endLine : Cond.instanceMethod ⟨"RoutingField$Bytes", "endLine", "()V"⟩ ∈ pw_T := (pw_in 1730 (by decide +kernel) rfl)
set_option maxRecDepth 100000 in
theorem ks_By_endLine : Cond.selects "RoutingField$Bytes" ⟨"RoutingField$Bytes", "endLine", "()V"⟩ ⟨"RoutingField$Bytes", "endLine", "()V"⟩ ∈ pw_T := (pw_in 1731 (by decide +kernel) rfl)
set_option maxRecDepth 100000 in
theorem ko_By_endLine : Cond.code ⟨"RoutingField$Bytes", "endLine", "()V"⟩ prog_2_method_13_code 1 none ∈ pw_T := (pw_in 1732 rfl rfl)
set_option maxRecDepth 100000 in
theorem kD_By_endLine : ∀ q ∈ kC_By_endLine, decode prog_2_method_13_code q.1 = .ok (q.2, pm_len q.1 q.2) := by decide +kernel
set_option maxRecDepth 100000 in
theorem kW_By_endLine (l : Launch) (D : va_G) (base : Nat) (sa : Nat → Nat) : pm_Met l D kcl base (kZ sa) ⟨"RoutingField$Bytes", "endLine", "()V"⟩ (.code ⟨"RoutingField$Bytes", "endLine", "()V"⟩ prog_2_method_13_code 1 none :: pw_T) 1 23 (kP_By_endLine base sa) := by
  refine pm_met (by decide) rfl rfl ?_
  intro mc ms p e s m args below meth c hx hb hml hown hnm hts hbs hZ
  have ht : ∀ w ∈ pw_T, w.before args s = true := fun w h => hts w (List.mem_cons_of_mem _ h)
  exact ⟨hx, hb, hown, hbs, pm_look_all kD_By_endLine, kf_ok (init := false) ht hZ kF_By_ok (fun h => by cases h), km_ok ht kM_By_ok, kci_ok ht kI_By_ok, kli_ok ht kJ_By_ok, kar_ok ht hZ kA_By_ok,
    pm_look_all (List.forall_mem_cons.mpr ⟨pm_cokV hbs hZ ⟨hx, hb, hml, hown, hts⟩ (kW_By_add l D base sa) (fun mc ms => cwV 1 hts (pw_gV (pw_in 269 (w := .methodLink "RoutingField$Bytes" 23 ⟨"RoutingField$Bytes", "add", "(I)V"⟩) (by decide +kernel) rfl) ki_By_add ks_By_add kn_By ko_By_add) rfl rfl rfl (by decide +kernel) ⟨Nat.le_of_ble_eq_true rfl, Nat.le_of_ble_eq_true rfl⟩) (ci := 0) rfl, fun _ h => absurd h List.not_mem_nil⟩),
    hZ, kst_ok ht hZ (kS_By_ok sa), knar_ok ht, ktx_ok (kE_By_ok sa)⟩
set_option maxRecDepth 100000 in
theorem ki_Rf_writeRoutes : Cond.instanceMethod ⟨"RoutingField", "writeRoutes", "(LRoutingField$Router;)V"⟩ ∈ pw_T := (pw_in 1674 (by decide +kernel) rfl)
set_option maxRecDepth 100000 in
theorem ks_Rf_writeRoutes : Cond.selects "RoutingField" ⟨"RoutingField", "writeRoutes", "(LRoutingField$Router;)V"⟩ ⟨"RoutingField", "writeRoutes", "(LRoutingField$Router;)V"⟩ ∈ pw_T := (pw_sel 88 (q := (⟨"RoutingField", "writeRoutes", "(LRoutingField$Router;)V"⟩, 20)) (by decide +kernel))
set_option maxRecDepth 100000 in
theorem ko_Rf_writeRoutes : Cond.code ⟨"RoutingField", "writeRoutes", "(LRoutingField$Router;)V"⟩ prog_1_method_33_code 3 none ∈ pw_T := (pw_in 1675 rfl rfl)
set_option maxRecDepth 100000 in
theorem kD_Rf_writeRoutes : ∀ q ∈ kC_Rf_writeRoutes, decode prog_1_method_33_code q.1 = .ok (q.2, pm_len q.1 q.2) := by decide +kernel
set_option maxRecDepth 100000 in
theorem kW_Rf_writeRoutes (l : Launch) (D : va_G) (base : Nat) (sa : Nat → Nat) : pm_Met l D kcl base (kZ sa) ⟨"RoutingField", "writeRoutes", "(LRoutingField$Router;)V"⟩ (.code ⟨"RoutingField", "writeRoutes", "(LRoutingField$Router;)V"⟩ prog_1_method_33_code 3 none :: pw_T) 10 233 (kP_Rf_writeRoutes base sa) := by
  refine pm_met (by decide) rfl rfl ?_
  intro mc ms p e s m args below meth c hx hb hml hown hnm hts hbs hZ
  have ht : ∀ w ∈ pw_T, w.before args s = true := fun w h => hts w (List.mem_cons_of_mem _ h)
  exact ⟨hx, hb, hown, hbs, pm_look_all kD_Rf_writeRoutes, kf_ok (init := false) ht hZ kF_Rf_ok (fun h => by cases h), km_ok ht kM_Rf_ok, kci_ok ht kI_Rf_ok, kli_ok ht kJ_Rf_ok, kar_ok ht hZ kA_Rf_ok,
    pm_look_all (List.forall_mem_cons.mpr ⟨pm_cokV hbs hZ ⟨hx, hb, hml, hown, hts⟩ (kW_Rf_writeRoute l D base sa) (fun mc ms => cwV 1 hts (pw_gV (pw_in 1676 (w := .methodLink "RoutingField" 240 ⟨"RoutingField", "writeRoute", "(LRoutingField$Route;)V"⟩) (by decide +kernel) rfl) ki_Rf_writeRoute ks_Rf_writeRoute kn_Rf ko_Rf_writeRoute) rfl rfl rfl (by decide +kernel) ⟨Nat.le_of_ble_eq_true rfl, Nat.le_of_ble_eq_true rfl⟩) (ci := 11) rfl, List.forall_mem_cons.mpr ⟨pm_cokV hbs hZ ⟨hx, hb, hml, hown, hts⟩ (kW_By_endLine l D base sa) (fun mc ms => cwV 0 hts (pw_gV (pw_in 1729 (w := .methodLink "RoutingField" 398 ⟨"RoutingField$Bytes", "endLine", "()V"⟩) (by decide +kernel) rfl) ki_By_endLine ks_By_endLine kn_By ko_By_endLine) rfl rfl rfl (by decide +kernel) ⟨Nat.le_of_ble_eq_true rfl, Nat.le_of_ble_eq_true rfl⟩) (ci := 0) rfl, fun _ h => absurd h List.not_mem_nil⟩⟩),
    hZ, kst_ok ht hZ (kS_Rf_ok sa), knar_ok ht, ktx_ok (kE_Rf_ok sa)⟩
set_option maxRecDepth 100000 in
theorem kv_Rf_splitWord : Cond.static ⟨"RoutingField", "splitWord", "(I)Ljava/lang/String;"⟩ ∈ pw_T := (pw_in 1741 (by decide +kernel) rfl)
set_option maxRecDepth 100000 in
theorem ko_Rf_splitWord : Cond.code ⟨"RoutingField", "splitWord", "(I)Ljava/lang/String;"⟩ prog_1_method_37_code 1 (some (.object "java/lang/String")) ∈ pw_T := (pw_in 1742 rfl rfl)
set_option maxRecDepth 100000 in
theorem kD_Rf_splitWord : ∀ q ∈ kC_Rf_splitWord, decode prog_1_method_37_code q.1 = .ok (q.2, pm_len q.1 q.2) := by decide +kernel
set_option maxRecDepth 100000 in
theorem kW_Rf_splitWord (l : Launch) (D : va_G) (base : Nat) (sa : Nat → Nat) : pm_Met l D kcl base (kZ sa) ⟨"RoutingField", "splitWord", "(I)Ljava/lang/String;"⟩ (.code ⟨"RoutingField", "splitWord", "(I)Ljava/lang/String;"⟩ prog_1_method_37_code 1 (some (.object "java/lang/String")) :: pw_T) 0 0 (kP_Rf_splitWord base sa) := by
  refine pm_met (by decide) rfl rfl ?_
  intro mc ms p e s m args below meth c hx hb hml hown hnm hts hbs hZ
  have ht : ∀ w ∈ pw_T, w.before args s = true := fun w h => hts w (List.mem_cons_of_mem _ h)
  exact ⟨hx, hb, hown, hbs, pm_look_all kD_Rf_splitWord, kf_ok (init := false) ht hZ kF_Rf_ok (fun h => by cases h), km_ok ht kM_Rf_ok, kci_ok ht kI_Rf_ok, kli_ok ht kJ_Rf_ok, kar_ok ht hZ kA_Rf_ok,
    pm_look_all (fun _ h => absurd h List.not_mem_nil),
    hZ, kst_ok ht hZ (kS_Rf_ok sa), knar_ok ht, ktx_ok (kE_Rf_ok sa)⟩
set_option maxRecDepth 100000 in
theorem ki_Ch_kindWord : Cond.instanceMethod ⟨"RoutingField$Chain", "kindWord", "()Ljava/lang/String;"⟩ ∈ pw_T := (pw_in 1747 (by decide +kernel) rfl)
set_option maxRecDepth 100000 in
theorem ks_Ch_kindWord : Cond.selects "RoutingField$Chain" ⟨"RoutingField$Chain", "kindWord", "()Ljava/lang/String;"⟩ ⟨"RoutingField$Chain", "kindWord", "()Ljava/lang/String;"⟩ ∈ pw_T := (pw_in 1748 (by decide +kernel) rfl)
set_option maxRecDepth 100000 in
theorem ko_Ch_kindWord : Cond.code ⟨"RoutingField$Chain", "kindWord", "()Ljava/lang/String;"⟩ prog_3_method_2_code 1 (some (.object "java/lang/String")) ∈ pw_T := (pw_in 1749 rfl rfl)
set_option maxRecDepth 100000 in
theorem kD_Ch_kindWord : ∀ q ∈ kC_Ch_kindWord, decode prog_3_method_2_code q.1 = .ok (q.2, pm_len q.1 q.2) := by decide +kernel
set_option maxRecDepth 100000 in
theorem kW_Ch_kindWord (l : Launch) (D : va_G) (base : Nat) (sa : Nat → Nat) : pm_Met l D kcl base (kZ sa) ⟨"RoutingField$Chain", "kindWord", "()Ljava/lang/String;"⟩ (.code ⟨"RoutingField$Chain", "kindWord", "()Ljava/lang/String;"⟩ prog_3_method_2_code 1 (some (.object "java/lang/String")) :: pw_T) 0 0 (kP_Ch_kindWord base sa) := by
  refine pm_met (by decide) rfl rfl ?_
  intro mc ms p e s m args below meth c hx hb hml hown hnm hts hbs hZ
  have ht : ∀ w ∈ pw_T, w.before args s = true := fun w h => hts w (List.mem_cons_of_mem _ h)
  exact ⟨hx, hb, hown, hbs, pm_look_all kD_Ch_kindWord, kf_ok (init := false) ht hZ kF_Ch_ok (fun h => by cases h), km_ok ht kM_Ch_ok, kci_ok ht kI_Ch_ok, kli_ok ht kJ_Ch_ok, kar_ok ht hZ kA_Ch_ok,
    pm_look_all (fun _ h => absurd h List.not_mem_nil),
    hZ, kst_ok ht hZ (kS_Ch_ok sa), knar_ok ht, ktx_ok (kE_Ch_ok sa)⟩
set_option maxRecDepth 100000 in
theorem ki_Rf_writePorts : Cond.instanceMethod ⟨"RoutingField", "writePorts", "(LRoutingField$Router;)V"⟩ ∈ pw_T := (pw_in 1735 (by decide +kernel) rfl)
set_option maxRecDepth 100000 in
theorem ks_Rf_writePorts : Cond.selects "RoutingField" ⟨"RoutingField", "writePorts", "(LRoutingField$Router;)V"⟩ ⟨"RoutingField", "writePorts", "(LRoutingField$Router;)V"⟩ ∈ pw_T := (pw_sel 92 (q := (⟨"RoutingField", "writePorts", "(LRoutingField$Router;)V"⟩, 20)) (by decide +kernel))
set_option maxRecDepth 100000 in
theorem ko_Rf_writePorts : Cond.code ⟨"RoutingField", "writePorts", "(LRoutingField$Router;)V"⟩ prog_1_method_34_code 6 none ∈ pw_T := (pw_in 1736 rfl rfl)
set_option maxRecDepth 100000 in
theorem kD_Rf_writePorts_0 : ∀ q ∈ kC_Rf_writePorts_0, decode prog_1_method_34_code q.1 = .ok (q.2, pm_len q.1 q.2) := by decide +kernel
set_option maxRecDepth 100000 in
theorem kD_Rf_writePorts_1 : ∀ q ∈ kC_Rf_writePorts_1, decode prog_1_method_34_code q.1 = .ok (q.2, pm_len q.1 q.2) := by decide +kernel
theorem kD_Rf_writePorts : ∀ q ∈ kC_Rf_writePorts, decode prog_1_method_34_code q.1 = .ok (q.2, pm_len q.1 q.2) := List.forall_mem_append.mpr ⟨kD_Rf_writePorts_0, kD_Rf_writePorts_1⟩
set_option maxRecDepth 100000 in
theorem kW_Rf_writePorts (l : Launch) (D : va_G) (base : Nat) (sa : Nat → Nat) : pm_Met l D kcl base (kZ sa) ⟨"RoutingField", "writePorts", "(LRoutingField$Router;)V"⟩ (.code ⟨"RoutingField", "writePorts", "(LRoutingField$Router;)V"⟩ prog_1_method_34_code 6 none :: pw_T) 9 212 (kP_Rf_writePorts base sa) := by
  refine pm_met (by decide) rfl rfl ?_
  intro mc ms p e s m args below meth c hx hb hml hown hnm hts hbs hZ
  have ht : ∀ w ∈ pw_T, w.before args s = true := fun w h => hts w (List.mem_cons_of_mem _ h)
  exact ⟨hx, hb, hown, hbs, pm_look_all kD_Rf_writePorts, kf_ok (init := false) ht hZ kF_Rf_ok (fun h => by cases h), km_ok ht kM_Rf_ok, kci_ok ht kI_Rf_ok, kli_ok ht kJ_Rf_ok, kar_ok ht hZ kA_Rf_ok,
    pm_look_all (List.forall_mem_cons.mpr ⟨pm_cokV hbs hZ ⟨hx, hb, hml, hown, hts⟩ (kW_By_word l D base sa) (fun mc ms => cwV 1 hts (pw_gV (pw_in 1681 (w := .methodLink "RoutingField" 352 ⟨"RoutingField$Bytes", "word", "(Ljava/lang/String;)V"⟩) (by decide +kernel) rfl) ki_By_word ks_By_word kn_By ko_By_word) rfl rfl rfl (by decide +kernel) ⟨Nat.le_of_ble_eq_true rfl, Nat.le_of_ble_eq_true rfl⟩) (ci := 0) rfl, List.forall_mem_cons.mpr ⟨pm_cokV hbs hZ ⟨hx, hb, hml, hown, hts⟩ (kW_By_wordNumber l D base sa) (fun mc ms => cwV 1 hts (pw_gV (pw_in 1718 (w := .methodLink "RoutingField" 367 ⟨"RoutingField$Bytes", "wordNumber", "(I)V"⟩) (by decide +kernel) rfl) ki_By_wordNumber ks_By_wordNumber kn_By ko_By_wordNumber) rfl rfl rfl (by decide +kernel) ⟨Nat.le_of_ble_eq_true rfl, Nat.le_of_ble_eq_true rfl⟩) (ci := 0) rfl, List.forall_mem_cons.mpr ⟨pm_cokS hbs hZ ⟨hx, hb, hml, hown, hts⟩ (kW_Rf_splitWord l D base sa) (fun mc ms => va_cwS 1 hts (pw_gS (pw_in 1740 (w := .methodLink "RoutingField" 408 ⟨"RoutingField", "splitWord", "(I)Ljava/lang/String;"⟩) (by decide +kernel) rfl) kv_Rf_splitWord kn_Rf ko_Rf_splitWord) rfl rfl rfl (by decide +kernel) ⟨Nat.le_of_ble_eq_true rfl, Nat.le_of_ble_eq_true rfl⟩) (Nat.le_of_ble_eq_true rfl), List.forall_mem_cons.mpr ⟨pm_cokV hbs hZ ⟨hx, hb, hml, hown, hts⟩ (kW_Ch_kindWord l D base sa) (fun mc ms => cwV 0 hts (pw_gV (pw_in 1746 (w := .methodLink "RoutingField" 416 ⟨"RoutingField$Chain", "kindWord", "()Ljava/lang/String;"⟩) (by decide +kernel) rfl) ki_Ch_kindWord ks_Ch_kindWord kn_Ch ko_Ch_kindWord) rfl rfl rfl (by decide +kernel) ⟨Nat.le_of_ble_eq_true rfl, Nat.le_of_ble_eq_true rfl⟩) (ci := 1) rfl, List.forall_mem_cons.mpr ⟨pm_cokV hbs hZ ⟨hx, hb, hml, hown, hts⟩ (kW_Po_addressOf l D base sa) (fun mc ms => cwV 1 hts (pw_gV (pw_in 1754 (w := .methodLink "RoutingField" 343 ⟨"RoutingField$Port", "addressOf", "(I)LRoutingField$Prefix;"⟩) (by decide +kernel) rfl) ki_Po_addressOf ks_Po_addressOf kn_Po ko_Po_addressOf) rfl rfl rfl (by decide +kernel) ⟨Nat.le_of_ble_eq_true rfl, Nat.le_of_ble_eq_true rfl⟩) (ci := 4) rfl, List.forall_mem_cons.mpr ⟨pm_cokV hbs hZ ⟨hx, hb, hml, hown, hts⟩ (kW_By_addPrefix l D base sa) (fun mc ms => cwV 1 hts (pw_gV (pw_in 1691 (w := .methodLink "RoutingField" 360 ⟨"RoutingField$Bytes", "addPrefix", "(LRoutingField$Prefix;)V"⟩) (by decide +kernel) rfl) ki_By_addPrefix ks_By_addPrefix kn_By ko_By_addPrefix) rfl rfl rfl (by decide +kernel) ⟨Nat.le_of_ble_eq_true rfl, Nat.le_of_ble_eq_true rfl⟩) (ci := 0) rfl, List.forall_mem_cons.mpr ⟨pm_cokV hbs hZ ⟨hx, hb, hml, hown, hts⟩ (kW_By_endLine l D base sa) (fun mc ms => cwV 0 hts (pw_gV (pw_in 1729 (w := .methodLink "RoutingField" 398 ⟨"RoutingField$Bytes", "endLine", "()V"⟩) (by decide +kernel) rfl) ki_By_endLine ks_By_endLine kn_By ko_By_endLine) rfl rfl rfl (by decide +kernel) ⟨Nat.le_of_ble_eq_true rfl, Nat.le_of_ble_eq_true rfl⟩) (ci := 0) rfl, fun _ h => absurd h List.not_mem_nil⟩⟩⟩⟩⟩⟩⟩),
    hZ, kst_ok ht hZ (kS_Rf_ok sa), knar_ok ht, ktx_ok (kE_Rf_ok sa)⟩
set_option maxRecDepth 100000 in
theorem ki_Rf_writeCounts : Cond.instanceMethod ⟨"RoutingField", "writeCounts", "(LRoutingField$Router;)V"⟩ ∈ pw_T := (pw_in 1757 (by decide +kernel) rfl)
set_option maxRecDepth 100000 in
theorem ks_Rf_writeCounts : Cond.selects "RoutingField" ⟨"RoutingField", "writeCounts", "(LRoutingField$Router;)V"⟩ ⟨"RoutingField", "writeCounts", "(LRoutingField$Router;)V"⟩ ∈ pw_T := (pw_sel 93 (q := (⟨"RoutingField", "writeCounts", "(LRoutingField$Router;)V"⟩, 20)) (by decide +kernel))
set_option maxRecDepth 100000 in
theorem ko_Rf_writeCounts : Cond.code ⟨"RoutingField", "writeCounts", "(LRoutingField$Router;)V"⟩ prog_1_method_35_code 3 none ∈ pw_T := (pw_in 1758 rfl rfl)
set_option maxRecDepth 100000 in
theorem kD_Rf_writeCounts : ∀ q ∈ kC_Rf_writeCounts, decode prog_1_method_35_code q.1 = .ok (q.2, pm_len q.1 q.2) := by decide +kernel
set_option maxRecDepth 100000 in
theorem kW_Rf_writeCounts (l : Launch) (D : va_G) (base : Nat) (sa : Nat → Nat) : pm_Met l D kcl base (kZ sa) ⟨"RoutingField", "writeCounts", "(LRoutingField$Router;)V"⟩ (.code ⟨"RoutingField", "writeCounts", "(LRoutingField$Router;)V"⟩ prog_1_method_35_code 3 none :: pw_T) 8 186 (kP_Rf_writeCounts base sa) := by
  refine pm_met (by decide) rfl rfl ?_
  intro mc ms p e s m args below meth c hx hb hml hown hnm hts hbs hZ
  have ht : ∀ w ∈ pw_T, w.before args s = true := fun w h => hts w (List.mem_cons_of_mem _ h)
  exact ⟨hx, hb, hown, hbs, pm_look_all kD_Rf_writeCounts, kf_ok (init := false) ht hZ kF_Rf_ok (fun h => by cases h), km_ok ht kM_Rf_ok, kci_ok ht kI_Rf_ok, kli_ok ht kJ_Rf_ok, kar_ok ht hZ kA_Rf_ok,
    pm_look_all (List.forall_mem_cons.mpr ⟨pm_cokV hbs hZ ⟨hx, hb, hml, hown, hts⟩ (kW_By_wordNumber l D base sa) (fun mc ms => cwV 1 hts (pw_gV (pw_in 1718 (w := .methodLink "RoutingField" 367 ⟨"RoutingField$Bytes", "wordNumber", "(I)V"⟩) (by decide +kernel) rfl) ki_By_wordNumber ks_By_wordNumber kn_By ko_By_wordNumber) rfl rfl rfl (by decide +kernel) ⟨Nat.le_of_ble_eq_true rfl, Nat.le_of_ble_eq_true rfl⟩) (ci := 0) rfl, List.forall_mem_cons.mpr ⟨pm_cokV hbs hZ ⟨hx, hb, hml, hown, hts⟩ (kW_By_endLine l D base sa) (fun mc ms => cwV 0 hts (pw_gV (pw_in 1729 (w := .methodLink "RoutingField" 398 ⟨"RoutingField$Bytes", "endLine", "()V"⟩) (by decide +kernel) rfl) ki_By_endLine ks_By_endLine kn_By ko_By_endLine) rfl rfl rfl (by decide +kernel) ⟨Nat.le_of_ble_eq_true rfl, Nat.le_of_ble_eq_true rfl⟩) (ci := 0) rfl, fun _ h => absurd h List.not_mem_nil⟩⟩),
    hZ, kst_ok ht hZ (kS_Rf_ok sa), knar_ok ht, ktx_ok (kE_Rf_ok sa)⟩
set_option maxRecDepth 100000 in
theorem ki_Rf_writeTimes : Cond.instanceMethod ⟨"RoutingField", "writeTimes", "(LRoutingField$Router;)V"⟩ ∈ pw_T := (pw_in 1761 (by decide +kernel) rfl)
set_option maxRecDepth 100000 in
theorem ks_Rf_writeTimes : Cond.selects "RoutingField" ⟨"RoutingField", "writeTimes", "(LRoutingField$Router;)V"⟩ ⟨"RoutingField", "writeTimes", "(LRoutingField$Router;)V"⟩ ∈ pw_T := (pw_sel 94 (q := (⟨"RoutingField", "writeTimes", "(LRoutingField$Router;)V"⟩, 20)) (by decide +kernel))
set_option maxRecDepth 100000 in
theorem ko_Rf_writeTimes : Cond.code ⟨"RoutingField", "writeTimes", "(LRoutingField$Router;)V"⟩ prog_1_method_36_code 4 none ∈ pw_T := (pw_in 1762 rfl rfl)
set_option maxRecDepth 100000 in
theorem kD_Rf_writeTimes : ∀ q ∈ kC_Rf_writeTimes, decode prog_1_method_36_code q.1 = .ok (q.2, pm_len q.1 q.2) := by decide +kernel
set_option maxRecDepth 100000 in
theorem kW_Rf_writeTimes (l : Launch) (D : va_G) (base : Nat) (sa : Nat → Nat) : pm_Met l D kcl base (kZ sa) ⟨"RoutingField", "writeTimes", "(LRoutingField$Router;)V"⟩ (.code ⟨"RoutingField", "writeTimes", "(LRoutingField$Router;)V"⟩ prog_1_method_36_code 4 none :: pw_T) 9 212 (kP_Rf_writeTimes base sa) := by
  refine pm_met (by decide) rfl rfl ?_
  intro mc ms p e s m args below meth c hx hb hml hown hnm hts hbs hZ
  have ht : ∀ w ∈ pw_T, w.before args s = true := fun w h => hts w (List.mem_cons_of_mem _ h)
  exact ⟨hx, hb, hown, hbs, pm_look_all kD_Rf_writeTimes, kf_ok (init := false) ht hZ kF_Rf_ok (fun h => by cases h), km_ok ht kM_Rf_ok, kci_ok ht kI_Rf_ok, kli_ok ht kJ_Rf_ok, kar_ok ht hZ kA_Rf_ok,
    pm_look_all (List.forall_mem_cons.mpr ⟨pm_cokV hbs hZ ⟨hx, hb, hml, hown, hts⟩ (kW_By_word l D base sa) (fun mc ms => cwV 1 hts (pw_gV (pw_in 1681 (w := .methodLink "RoutingField" 352 ⟨"RoutingField$Bytes", "word", "(Ljava/lang/String;)V"⟩) (by decide +kernel) rfl) ki_By_word ks_By_word kn_By ko_By_word) rfl rfl rfl (by decide +kernel) ⟨Nat.le_of_ble_eq_true rfl, Nat.le_of_ble_eq_true rfl⟩) (ci := 0) rfl, List.forall_mem_cons.mpr ⟨pm_cokV hbs hZ ⟨hx, hb, hml, hown, hts⟩ (kW_By_addPrefix l D base sa) (fun mc ms => cwV 1 hts (pw_gV (pw_in 1691 (w := .methodLink "RoutingField" 360 ⟨"RoutingField$Bytes", "addPrefix", "(LRoutingField$Prefix;)V"⟩) (by decide +kernel) rfl) ki_By_addPrefix ks_By_addPrefix kn_By ko_By_addPrefix) rfl rfl rfl (by decide +kernel) ⟨Nat.le_of_ble_eq_true rfl, Nat.le_of_ble_eq_true rfl⟩) (ci := 0) rfl, List.forall_mem_cons.mpr ⟨pm_cokV hbs hZ ⟨hx, hb, hml, hown, hts⟩ (kW_By_wordNumber l D base sa) (fun mc ms => cwV 1 hts (pw_gV (pw_in 1718 (w := .methodLink "RoutingField" 367 ⟨"RoutingField$Bytes", "wordNumber", "(I)V"⟩) (by decide +kernel) rfl) ki_By_wordNumber ks_By_wordNumber kn_By ko_By_wordNumber) rfl rfl rfl (by decide +kernel) ⟨Nat.le_of_ble_eq_true rfl, Nat.le_of_ble_eq_true rfl⟩) (ci := 0) rfl, List.forall_mem_cons.mpr ⟨pm_cokV hbs hZ ⟨hx, hb, hml, hown, hts⟩ (kW_By_endLine l D base sa) (fun mc ms => cwV 0 hts (pw_gV (pw_in 1729 (w := .methodLink "RoutingField" 398 ⟨"RoutingField$Bytes", "endLine", "()V"⟩) (by decide +kernel) rfl) ki_By_endLine ks_By_endLine kn_By ko_By_endLine) rfl rfl rfl (by decide +kernel) ⟨Nat.le_of_ble_eq_true rfl, Nat.le_of_ble_eq_true rfl⟩) (ci := 0) rfl, fun _ h => absurd h List.not_mem_nil⟩⟩⟩⟩),
    hZ, kst_ok ht hZ (kS_Rf_ok sa), knar_ok ht, ktx_ok (kE_Rf_ok sa)⟩
set_option maxRecDepth 100000 in
theorem ki_Rf_show : Cond.instanceMethod ⟨"RoutingField", "show", "(II)I"⟩ ∈ pw_T := (pw_in 1669 (by decide +kernel) rfl)
set_option maxRecDepth 100000 in
theorem ks_Rf_show : Cond.selects "RoutingField" ⟨"RoutingField", "show", "(II)I"⟩ ⟨"RoutingField", "show", "(II)I"⟩ ∈ pw_T := (pw_in 1670 (by decide +kernel) rfl)
set_option maxRecDepth 100000 in
theorem ko_Rf_show : Cond.code ⟨"RoutingField", "show", "(II)I"⟩ prog_1_method_11_code 4 (some .int) ∈ pw_T := (pw_in 1671 rfl rfl)
set_option maxRecDepth 100000 in
theorem kD_Rf_show : ∀ q ∈ kC_Rf_show, decode prog_1_method_11_code q.1 = .ok (q.2, pm_len q.1 q.2) := by decide +kernel
set_option maxRecDepth 100000 in
theorem kW_Rf_show (l : Launch) (D : va_G) (base : Nat) (sa : Nat → Nat) : pm_Met l D kcl base (kZ sa) ⟨"RoutingField", "show", "(II)I"⟩ (.code ⟨"RoutingField", "show", "(II)I"⟩ prog_1_method_11_code 4 (some .int) :: pw_T) 11 255 (kP_Rf_show base sa) := by
  refine pm_met (by decide) rfl rfl ?_
  intro mc ms p e s m args below meth c hx hb hml hown hnm hts hbs hZ
  have ht : ∀ w ∈ pw_T, w.before args s = true := fun w h => hts w (List.mem_cons_of_mem _ h)
  exact ⟨hx, hb, hown, hbs, pm_look_all kD_Rf_show, kf_ok (init := false) ht hZ kF_Rf_ok (fun h => by cases h), km_ok ht kM_Rf_ok, kci_ok ht kI_Rf_ok, kli_ok ht kJ_Rf_ok, kar_ok ht hZ kA_Rf_ok,
    pm_look_all (List.forall_mem_cons.mpr ⟨pm_cokV hbs hZ ⟨hx, hb, hml, hown, hts⟩ (kW_Rf_routerAt l D base sa) (fun mc ms => cwV 1 hts (pw_gV (pw_in 1648 (w := .methodLink "RoutingField" 152 ⟨"RoutingField", "routerAt", "(I)LRoutingField$Router;"⟩) (by decide +kernel) rfl) ki_Rf_routerAt ks_Rf_routerAt kn_Rf ko_Rf_routerAt) rfl rfl rfl (by decide +kernel) ⟨Nat.le_of_ble_eq_true rfl, Nat.le_of_ble_eq_true rfl⟩) (ci := 11) rfl, List.forall_mem_cons.mpr ⟨pm_cokV hbs hZ ⟨hx, hb, hml, hown, hts⟩ (kW_By_clear l D base sa) (fun mc ms => cwV 0 hts (pw_gV (pw_in 1224 (w := .methodLink "RoutingField" 119 ⟨"RoutingField$Bytes", "clear", "()V"⟩) (by decide +kernel) rfl) ki_By_clear ks_By_clear kn_By ko_By_clear) rfl rfl rfl (by decide +kernel) ⟨Nat.le_of_ble_eq_true rfl, Nat.le_of_ble_eq_true rfl⟩) (ci := 0) rfl, List.forall_mem_cons.mpr ⟨pm_cokV hbs hZ ⟨hx, hb, hml, hown, hts⟩ (kW_Rf_writeRoutes l D base sa) (fun mc ms => cwV 1 hts (pw_gV (pw_in 1672 (w := .methodLink "RoutingField" 197 ⟨"RoutingField", "writeRoutes", "(LRoutingField$Router;)V"⟩) (by decide +kernel) rfl) ki_Rf_writeRoutes ks_Rf_writeRoutes kn_Rf ko_Rf_writeRoutes) rfl rfl rfl (by decide +kernel) ⟨Nat.le_of_ble_eq_true rfl, Nat.le_of_ble_eq_true rfl⟩) (ci := 11) rfl, List.forall_mem_cons.mpr ⟨pm_cokV hbs hZ ⟨hx, hb, hml, hown, hts⟩ (kW_Rf_writePorts l D base sa) (fun mc ms => cwV 1 hts (pw_gV (pw_in 1733 (w := .methodLink "RoutingField" 201 ⟨"RoutingField", "writePorts", "(LRoutingField$Router;)V"⟩) (by decide +kernel) rfl) ki_Rf_writePorts ks_Rf_writePorts kn_Rf ko_Rf_writePorts) rfl rfl rfl (by decide +kernel) ⟨Nat.le_of_ble_eq_true rfl, Nat.le_of_ble_eq_true rfl⟩) (ci := 11) rfl, List.forall_mem_cons.mpr ⟨pm_cokV hbs hZ ⟨hx, hb, hml, hown, hts⟩ (kW_Rf_writeCounts l D base sa) (fun mc ms => cwV 1 hts (pw_gV (pw_in 1755 (w := .methodLink "RoutingField" 204 ⟨"RoutingField", "writeCounts", "(LRoutingField$Router;)V"⟩) (by decide +kernel) rfl) ki_Rf_writeCounts ks_Rf_writeCounts kn_Rf ko_Rf_writeCounts) rfl rfl rfl (by decide +kernel) ⟨Nat.le_of_ble_eq_true rfl, Nat.le_of_ble_eq_true rfl⟩) (ci := 11) rfl, List.forall_mem_cons.mpr ⟨pm_cokV hbs hZ ⟨hx, hb, hml, hown, hts⟩ (kW_Rf_writeTimes l D base sa) (fun mc ms => cwV 1 hts (pw_gV (pw_in 1759 (w := .methodLink "RoutingField" 207 ⟨"RoutingField", "writeTimes", "(LRoutingField$Router;)V"⟩) (by decide +kernel) rfl) ki_Rf_writeTimes ks_Rf_writeTimes kn_Rf ko_Rf_writeTimes) rfl rfl rfl (by decide +kernel) ⟨Nat.le_of_ble_eq_true rfl, Nat.le_of_ble_eq_true rfl⟩) (ci := 11) rfl, fun _ h => absurd h List.not_mem_nil⟩⟩⟩⟩⟩⟩),
    hZ, kst_ok ht hZ (kS_Rf_ok sa), knar_ok ht, ktx_ok (kE_Rf_ok sa)⟩
set_option maxRecDepth 100000 in
theorem ki_Rf_writeLink : Cond.instanceMethod ⟨"RoutingField", "writeLink", "(LRoutingField$Link;)V"⟩ ∈ pw_T := (pw_in 1770 (by decide +kernel) rfl)
set_option maxRecDepth 100000 in
theorem ks_Rf_writeLink : Cond.selects "RoutingField" ⟨"RoutingField", "writeLink", "(LRoutingField$Link;)V"⟩ ⟨"RoutingField", "writeLink", "(LRoutingField$Link;)V"⟩ ∈ pw_T := (pw_sel 95 (q := (⟨"RoutingField", "writeLink", "(LRoutingField$Link;)V"⟩, 20)) (by decide +kernel))
set_option maxRecDepth 100000 in
theorem ko_Rf_writeLink : Cond.code ⟨"RoutingField", "writeLink", "(LRoutingField$Link;)V"⟩ prog_1_method_39_code 2 none ∈ pw_T := (pw_in 1771 rfl rfl)
set_option maxRecDepth 100000 in
theorem kD_Rf_writeLink : ∀ q ∈ kC_Rf_writeLink, decode prog_1_method_39_code q.1 = .ok (q.2, pm_len q.1 q.2) := by decide +kernel
set_option maxRecDepth 100000 in
theorem kW_Rf_writeLink (l : Launch) (D : va_G) (base : Nat) (sa : Nat → Nat) : pm_Met l D kcl base (kZ sa) ⟨"RoutingField", "writeLink", "(LRoutingField$Link;)V"⟩ (.code ⟨"RoutingField", "writeLink", "(LRoutingField$Link;)V"⟩ prog_1_method_39_code 2 none :: pw_T) 8 186 (kP_Rf_writeLink base sa) := by
  refine pm_met (by decide) rfl rfl ?_
  intro mc ms p e s m args below meth c hx hb hml hown hnm hts hbs hZ
  have ht : ∀ w ∈ pw_T, w.before args s = true := fun w h => hts w (List.mem_cons_of_mem _ h)
  exact ⟨hx, hb, hown, hbs, pm_look_all kD_Rf_writeLink, kf_ok (init := false) ht hZ kF_Rf_ok (fun h => by cases h), km_ok ht kM_Rf_ok, kci_ok ht kI_Rf_ok, kli_ok ht kJ_Rf_ok, kar_ok ht hZ kA_Rf_ok,
    pm_look_all (List.forall_mem_cons.mpr ⟨pm_cokV hbs hZ ⟨hx, hb, hml, hown, hts⟩ (kW_By_word l D base sa) (fun mc ms => cwV 1 hts (pw_gV (pw_in 1681 (w := .methodLink "RoutingField" 352 ⟨"RoutingField$Bytes", "word", "(Ljava/lang/String;)V"⟩) (by decide +kernel) rfl) ki_By_word ks_By_word kn_By ko_By_word) rfl rfl rfl (by decide +kernel) ⟨Nat.le_of_ble_eq_true rfl, Nat.le_of_ble_eq_true rfl⟩) (ci := 0) rfl, List.forall_mem_cons.mpr ⟨pm_cokV hbs hZ ⟨hx, hb, hml, hown, hts⟩ (kW_By_wordNumber l D base sa) (fun mc ms => cwV 1 hts (pw_gV (pw_in 1718 (w := .methodLink "RoutingField" 367 ⟨"RoutingField$Bytes", "wordNumber", "(I)V"⟩) (by decide +kernel) rfl) ki_By_wordNumber ks_By_wordNumber kn_By ko_By_wordNumber) rfl rfl rfl (by decide +kernel) ⟨Nat.le_of_ble_eq_true rfl, Nat.le_of_ble_eq_true rfl⟩) (ci := 0) rfl, List.forall_mem_cons.mpr ⟨pm_cokV hbs hZ ⟨hx, hb, hml, hown, hts⟩ (kW_By_endLine l D base sa) (fun mc ms => cwV 0 hts (pw_gV (pw_in 1729 (w := .methodLink "RoutingField" 398 ⟨"RoutingField$Bytes", "endLine", "()V"⟩) (by decide +kernel) rfl) ki_By_endLine ks_By_endLine kn_By ko_By_endLine) rfl rfl rfl (by decide +kernel) ⟨Nat.le_of_ble_eq_true rfl, Nat.le_of_ble_eq_true rfl⟩) (ci := 0) rfl, fun _ h => absurd h List.not_mem_nil⟩⟩⟩),
    hZ, kst_ok ht hZ (kS_Rf_ok sa), knar_ok ht, ktx_ok (kE_Rf_ok sa)⟩
set_option maxRecDepth 100000 in
theorem ki_Rf_writeList : Cond.instanceMethod ⟨"RoutingField", "writeList", "(LRoutingField$PrefixList;)V"⟩ ∈ pw_T := (pw_in 1777 (by decide +kernel) rfl)
set_option maxRecDepth 100000 in
theorem ks_Rf_writeList : Cond.selects "RoutingField" ⟨"RoutingField", "writeList", "(LRoutingField$PrefixList;)V"⟩ ⟨"RoutingField", "writeList", "(LRoutingField$PrefixList;)V"⟩ ∈ pw_T := (pw_sel 96 (q := (⟨"RoutingField", "writeList", "(LRoutingField$PrefixList;)V"⟩, 20)) (by decide +kernel))
set_option maxRecDepth 100000 in
theorem ko_Rf_writeList : Cond.code ⟨"RoutingField", "writeList", "(LRoutingField$PrefixList;)V"⟩ prog_1_method_40_code 3 none ∈ pw_T := (pw_in 1778 rfl rfl)
set_option maxRecDepth 100000 in
theorem kD_Rf_writeList_0 : ∀ q ∈ kC_Rf_writeList_0, decode prog_1_method_40_code q.1 = .ok (q.2, pm_len q.1 q.2) := by decide +kernel
set_option maxRecDepth 100000 in
theorem kD_Rf_writeList_1 : ∀ q ∈ kC_Rf_writeList_1, decode prog_1_method_40_code q.1 = .ok (q.2, pm_len q.1 q.2) := by decide +kernel
theorem kD_Rf_writeList : ∀ q ∈ kC_Rf_writeList, decode prog_1_method_40_code q.1 = .ok (q.2, pm_len q.1 q.2) := List.forall_mem_append.mpr ⟨kD_Rf_writeList_0, kD_Rf_writeList_1⟩
set_option maxRecDepth 100000 in
theorem kW_Rf_writeList (l : Launch) (D : va_G) (base : Nat) (sa : Nat → Nat) : pm_Met l D kcl base (kZ sa) ⟨"RoutingField", "writeList", "(LRoutingField$PrefixList;)V"⟩ (.code ⟨"RoutingField", "writeList", "(LRoutingField$PrefixList;)V"⟩ prog_1_method_40_code 3 none :: pw_T) 9 212 (kP_Rf_writeList base sa) := by
  refine pm_met (by decide) rfl rfl ?_
  intro mc ms p e s m args below meth c hx hb hml hown hnm hts hbs hZ
  have ht : ∀ w ∈ pw_T, w.before args s = true := fun w h => hts w (List.mem_cons_of_mem _ h)
  exact ⟨hx, hb, hown, hbs, pm_look_all kD_Rf_writeList, kf_ok (init := false) ht hZ kF_Rf_ok (fun h => by cases h), km_ok ht kM_Rf_ok, kci_ok ht kI_Rf_ok, kli_ok ht kJ_Rf_ok, kar_ok ht hZ kA_Rf_ok,
    pm_look_all (List.forall_mem_cons.mpr ⟨pm_cokV hbs hZ ⟨hx, hb, hml, hown, hts⟩ (kW_By_word l D base sa) (fun mc ms => cwV 1 hts (pw_gV (pw_in 1681 (w := .methodLink "RoutingField" 352 ⟨"RoutingField$Bytes", "word", "(Ljava/lang/String;)V"⟩) (by decide +kernel) rfl) ki_By_word ks_By_word kn_By ko_By_word) rfl rfl rfl (by decide +kernel) ⟨Nat.le_of_ble_eq_true rfl, Nat.le_of_ble_eq_true rfl⟩) (ci := 0) rfl, List.forall_mem_cons.mpr ⟨pm_cokV hbs hZ ⟨hx, hb, hml, hown, hts⟩ (kW_By_addPrefix l D base sa) (fun mc ms => cwV 1 hts (pw_gV (pw_in 1691 (w := .methodLink "RoutingField" 360 ⟨"RoutingField$Bytes", "addPrefix", "(LRoutingField$Prefix;)V"⟩) (by decide +kernel) rfl) ki_By_addPrefix ks_By_addPrefix kn_By ko_By_addPrefix) rfl rfl rfl (by decide +kernel) ⟨Nat.le_of_ble_eq_true rfl, Nat.le_of_ble_eq_true rfl⟩) (ci := 0) rfl, List.forall_mem_cons.mpr ⟨pm_cokV hbs hZ ⟨hx, hb, hml, hown, hts⟩ (kW_By_wordNumber l D base sa) (fun mc ms => cwV 1 hts (pw_gV (pw_in 1718 (w := .methodLink "RoutingField" 367 ⟨"RoutingField$Bytes", "wordNumber", "(I)V"⟩) (by decide +kernel) rfl) ki_By_wordNumber ks_By_wordNumber kn_By ko_By_wordNumber) rfl rfl rfl (by decide +kernel) ⟨Nat.le_of_ble_eq_true rfl, Nat.le_of_ble_eq_true rfl⟩) (ci := 0) rfl, List.forall_mem_cons.mpr ⟨pm_cokV hbs hZ ⟨hx, hb, hml, hown, hts⟩ (kW_By_endLine l D base sa) (fun mc ms => cwV 0 hts (pw_gV (pw_in 1729 (w := .methodLink "RoutingField" 398 ⟨"RoutingField$Bytes", "endLine", "()V"⟩) (by decide +kernel) rfl) ki_By_endLine ks_By_endLine kn_By ko_By_endLine) rfl rfl rfl (by decide +kernel) ⟨Nat.le_of_ble_eq_true rfl, Nat.le_of_ble_eq_true rfl⟩) (ci := 0) rfl, fun _ h => absurd h List.not_mem_nil⟩⟩⟩⟩),
    hZ, kst_ok ht hZ (kS_Rf_ok sa), knar_ok ht, ktx_ok (kE_Rf_ok sa)⟩
set_option maxRecDepth 100000 in
theorem ki_Rf_beginPortLine : Cond.instanceMethod ⟨"RoutingField", "beginPortLine", "(Ljava/lang/String;LRoutingField$Router;LRoutingField$Port;)V"⟩ ∈ pw_T := (pw_in 1797 (by decide +kernel) rfl)
set_option maxRecDepth 100000 in
theorem ks_Rf_beginPortLine : Cond.selects "RoutingField" ⟨"RoutingField", "beginPortLine", "(Ljava/lang/String;LRoutingField$Router;LRoutingField$Port;)V"⟩ ⟨"RoutingField", "beginPortLine", "(Ljava/lang/String;LRoutingField$Router;LRoutingField$Port;)V"⟩ ∈ pw_T := (pw_sel 99 (q := (⟨"RoutingField", "beginPortLine", "(Ljava/lang/String;LRoutingField$Router;LRoutingField$Port;)V"⟩, 20)) (by decide +kernel))
set_option maxRecDepth 100000 in
theorem ko_Rf_beginPortLine : Cond.code ⟨"RoutingField", "beginPortLine", "(Ljava/lang/String;LRoutingField$Router;LRoutingField$Port;)V"⟩ prog_1_method_43_code 4 none ∈ pw_T := (pw_in 1798 rfl rfl)
set_option maxRecDepth 100000 in
theorem kD_Rf_beginPortLine : ∀ q ∈ kC_Rf_beginPortLine, decode prog_1_method_43_code q.1 = .ok (q.2, pm_len q.1 q.2) := by decide +kernel
set_option maxRecDepth 100000 in
theorem kW_Rf_beginPortLine (l : Launch) (D : va_G) (base : Nat) (sa : Nat → Nat) : pm_Met l D kcl base (kZ sa) ⟨"RoutingField", "beginPortLine", "(Ljava/lang/String;LRoutingField$Router;LRoutingField$Port;)V"⟩ (.code ⟨"RoutingField", "beginPortLine", "(Ljava/lang/String;LRoutingField$Router;LRoutingField$Port;)V"⟩ prog_1_method_43_code 4 none :: pw_T) 7 165 (kP_Rf_beginPortLine base sa) := by
  refine pm_met (by decide) rfl rfl ?_
  intro mc ms p e s m args below meth c hx hb hml hown hnm hts hbs hZ
  have ht : ∀ w ∈ pw_T, w.before args s = true := fun w h => hts w (List.mem_cons_of_mem _ h)
  exact ⟨hx, hb, hown, hbs, pm_look_all kD_Rf_beginPortLine, kf_ok (init := false) ht hZ kF_Rf_ok (fun h => by cases h), km_ok ht kM_Rf_ok, kci_ok ht kI_Rf_ok, kli_ok ht kJ_Rf_ok, kar_ok ht hZ kA_Rf_ok,
    pm_look_all (List.forall_mem_cons.mpr ⟨pm_cokV hbs hZ ⟨hx, hb, hml, hown, hts⟩ (kW_By_word l D base sa) (fun mc ms => cwV 1 hts (pw_gV (pw_in 1681 (w := .methodLink "RoutingField" 352 ⟨"RoutingField$Bytes", "word", "(Ljava/lang/String;)V"⟩) (by decide +kernel) rfl) ki_By_word ks_By_word kn_By ko_By_word) rfl rfl rfl (by decide +kernel) ⟨Nat.le_of_ble_eq_true rfl, Nat.le_of_ble_eq_true rfl⟩) (ci := 0) rfl, fun _ h => absurd h List.not_mem_nil⟩),
    hZ, kst_ok ht hZ (kS_Rf_ok sa), knar_ok ht, ktx_ok (kE_Rf_ok sa)⟩
set_option maxRecDepth 100000 in
theorem ki_By_addSecret : Cond.instanceMethod ⟨"RoutingField$Bytes", "addSecret", "([B)V"⟩ ∈ pw_T := (pw_in 1802 (by decide +kernel) rfl)
set_option maxRecDepth 100000 in
theorem ks_By_addSecret : Cond.selects "RoutingField$Bytes" ⟨"RoutingField$Bytes", "addSecret", "([B)V"⟩ ⟨"RoutingField$Bytes", "addSecret", "([B)V"⟩ ∈ pw_T := (pw_in 1803 (by decide +kernel) rfl)
set_option maxRecDepth 100000 in
theorem ko_By_addSecret : Cond.code ⟨"RoutingField$Bytes", "addSecret", "([B)V"⟩ prog_2_method_16_code 3 none ∈ pw_T := (pw_in 1804 rfl rfl)
set_option maxRecDepth 100000 in
theorem kD_By_addSecret : ∀ q ∈ kC_By_addSecret, decode prog_2_method_16_code q.1 = .ok (q.2, pm_len q.1 q.2) := by decide +kernel
set_option maxRecDepth 100000 in
theorem kW_By_addSecret (l : Launch) (D : va_G) (base : Nat) (sa : Nat → Nat) : pm_Met l D kcl base (kZ sa) ⟨"RoutingField$Bytes", "addSecret", "([B)V"⟩ (.code ⟨"RoutingField$Bytes", "addSecret", "([B)V"⟩ prog_2_method_16_code 3 none :: pw_T) 1 23 (kP_By_addSecret base sa) := by
  refine pm_met (by decide) rfl rfl ?_
  intro mc ms p e s m args below meth c hx hb hml hown hnm hts hbs hZ
  have ht : ∀ w ∈ pw_T, w.before args s = true := fun w h => hts w (List.mem_cons_of_mem _ h)
  exact ⟨hx, hb, hown, hbs, pm_look_all kD_By_addSecret, kf_ok (init := false) ht hZ kF_By_ok (fun h => by cases h), km_ok ht kM_By_ok, kci_ok ht kI_By_ok, kli_ok ht kJ_By_ok, kar_ok ht hZ kA_By_ok,
    pm_look_all (List.forall_mem_cons.mpr ⟨pm_cokV hbs hZ ⟨hx, hb, hml, hown, hts⟩ (kW_By_add l D base sa) (fun mc ms => cwV 1 hts (pw_gV (pw_in 269 (w := .methodLink "RoutingField$Bytes" 23 ⟨"RoutingField$Bytes", "add", "(I)V"⟩) (by decide +kernel) rfl) ki_By_add ks_By_add kn_By ko_By_add) rfl rfl rfl (by decide +kernel) ⟨Nat.le_of_ble_eq_true rfl, Nat.le_of_ble_eq_true rfl⟩) (ci := 0) rfl, fun _ h => absurd h List.not_mem_nil⟩),
    hZ, kst_ok ht hZ (kS_By_ok sa), knar_ok ht, ktx_ok (kE_By_ok sa)⟩
set_option maxRecDepth 100000 in
theorem ki_Rf_writeJoins : Cond.instanceMethod ⟨"RoutingField", "writeJoins", "(LRoutingField$Router;LRoutingField$Port;)V"⟩ ∈ pw_T := (pw_in 1792 (by decide +kernel) rfl)
set_option maxRecDepth 100000 in
theorem ks_Rf_writeJoins : Cond.selects "RoutingField" ⟨"RoutingField", "writeJoins", "(LRoutingField$Router;LRoutingField$Port;)V"⟩ ⟨"RoutingField", "writeJoins", "(LRoutingField$Router;LRoutingField$Port;)V"⟩ ∈ pw_T := (pw_sel 98 (q := (⟨"RoutingField", "writeJoins", "(LRoutingField$Router;LRoutingField$Port;)V"⟩, 20)) (by decide +kernel))
set_option maxRecDepth 100000 in
theorem ko_Rf_writeJoins : Cond.code ⟨"RoutingField", "writeJoins", "(LRoutingField$Router;LRoutingField$Port;)V"⟩ prog_1_method_42_code 6 none ∈ pw_T := (pw_in 1793 rfl rfl)
set_option maxRecDepth 100000 in
theorem kD_Rf_writeJoins_0 : ∀ q ∈ kC_Rf_writeJoins_0, decode prog_1_method_42_code q.1 = .ok (q.2, pm_len q.1 q.2) := by decide +kernel
set_option maxRecDepth 100000 in
theorem kD_Rf_writeJoins_1 : ∀ q ∈ kC_Rf_writeJoins_1, decode prog_1_method_42_code q.1 = .ok (q.2, pm_len q.1 q.2) := by decide +kernel
theorem kD_Rf_writeJoins : ∀ q ∈ kC_Rf_writeJoins, decode prog_1_method_42_code q.1 = .ok (q.2, pm_len q.1 q.2) := List.forall_mem_append.mpr ⟨kD_Rf_writeJoins_0, kD_Rf_writeJoins_1⟩
set_option maxRecDepth 100000 in
theorem kW_Rf_writeJoins (l : Launch) (D : va_G) (base : Nat) (sa : Nat → Nat) : pm_Met l D kcl base (kZ sa) ⟨"RoutingField", "writeJoins", "(LRoutingField$Router;LRoutingField$Port;)V"⟩ (.code ⟨"RoutingField", "writeJoins", "(LRoutingField$Router;LRoutingField$Port;)V"⟩ prog_1_method_42_code 6 none :: pw_T) 9 212 (kP_Rf_writeJoins base sa) := by
  refine pm_met (by decide) rfl rfl ?_
  intro mc ms p e s m args below meth c hx hb hml hown hnm hts hbs hZ
  have ht : ∀ w ∈ pw_T, w.before args s = true := fun w h => hts w (List.mem_cons_of_mem _ h)
  exact ⟨hx, hb, hown, hbs, pm_look_all kD_Rf_writeJoins, kf_ok (init := false) ht hZ kF_Rf_ok (fun h => by cases h), km_ok ht kM_Rf_ok, kci_ok ht kI_Rf_ok, kli_ok ht kJ_Rf_ok, kar_ok ht hZ kA_Rf_ok,
    pm_look_all (List.forall_mem_cons.mpr ⟨pm_cokV hbs hZ ⟨hx, hb, hml, hown, hts⟩ (kW_Po_addressOf l D base sa) (fun mc ms => cwV 1 hts (pw_gV (pw_in 1754 (w := .methodLink "RoutingField" 343 ⟨"RoutingField$Port", "addressOf", "(I)LRoutingField$Prefix;"⟩) (by decide +kernel) rfl) ki_Po_addressOf ks_Po_addressOf kn_Po ko_Po_addressOf) rfl rfl rfl (by decide +kernel) ⟨Nat.le_of_ble_eq_true rfl, Nat.le_of_ble_eq_true rfl⟩) (ci := 4) rfl, List.forall_mem_cons.mpr ⟨pm_cokV hbs hZ ⟨hx, hb, hml, hown, hts⟩ (kW_Rf_beginPortLine l D base sa) (fun mc ms => cwV 3 hts (pw_gV (pw_in 1795 (w := .methodLink "RoutingField" 522 ⟨"RoutingField", "beginPortLine", "(Ljava/lang/String;LRoutingField$Router;LRoutingField$Port;)V"⟩) (by decide +kernel) rfl) ki_Rf_beginPortLine ks_Rf_beginPortLine kn_Rf ko_Rf_beginPortLine) rfl rfl rfl (by decide +kernel) ⟨Nat.le_of_ble_eq_true rfl, Nat.le_of_ble_eq_true rfl⟩) (ci := 11) rfl, List.forall_mem_cons.mpr ⟨pm_cokV hbs hZ ⟨hx, hb, hml, hown, hts⟩ (kW_By_word l D base sa) (fun mc ms => cwV 1 hts (pw_gV (pw_in 1681 (w := .methodLink "RoutingField" 352 ⟨"RoutingField$Bytes", "word", "(Ljava/lang/String;)V"⟩) (by decide +kernel) rfl) ki_By_word ks_By_word kn_By ko_By_word) rfl rfl rfl (by decide +kernel) ⟨Nat.le_of_ble_eq_true rfl, Nat.le_of_ble_eq_true rfl⟩) (ci := 0) rfl, List.forall_mem_cons.mpr ⟨pm_cokV hbs hZ ⟨hx, hb, hml, hown, hts⟩ (kW_By_addPrefix l D base sa) (fun mc ms => cwV 1 hts (pw_gV (pw_in 1691 (w := .methodLink "RoutingField" 360 ⟨"RoutingField$Bytes", "addPrefix", "(LRoutingField$Prefix;)V"⟩) (by decide +kernel) rfl) ki_By_addPrefix ks_By_addPrefix kn_By ko_By_addPrefix) rfl rfl rfl (by decide +kernel) ⟨Nat.le_of_ble_eq_true rfl, Nat.le_of_ble_eq_true rfl⟩) (ci := 0) rfl, List.forall_mem_cons.mpr ⟨pm_cokV hbs hZ ⟨hx, hb, hml, hown, hts⟩ (kW_By_wordNumber l D base sa) (fun mc ms => cwV 1 hts (pw_gV (pw_in 1718 (w := .methodLink "RoutingField" 367 ⟨"RoutingField$Bytes", "wordNumber", "(I)V"⟩) (by decide +kernel) rfl) ki_By_wordNumber ks_By_wordNumber kn_By ko_By_wordNumber) rfl rfl rfl (by decide +kernel) ⟨Nat.le_of_ble_eq_true rfl, Nat.le_of_ble_eq_true rfl⟩) (ci := 0) rfl, List.forall_mem_cons.mpr ⟨pm_cokS hbs hZ ⟨hx, hb, hml, hown, hts⟩ (kW_Rf_splitWord l D base sa) (fun mc ms => va_cwS 1 hts (pw_gS (pw_in 1740 (w := .methodLink "RoutingField" 408 ⟨"RoutingField", "splitWord", "(I)Ljava/lang/String;"⟩) (by decide +kernel) rfl) kv_Rf_splitWord kn_Rf ko_Rf_splitWord) rfl rfl rfl (by decide +kernel) ⟨Nat.le_of_ble_eq_true rfl, Nat.le_of_ble_eq_true rfl⟩) (Nat.le_of_ble_eq_true rfl), List.forall_mem_cons.mpr ⟨pm_cokV hbs hZ ⟨hx, hb, hml, hown, hts⟩ (kW_By_addSecret l D base sa) (fun mc ms => cwV 1 hts (pw_gV (pw_in 1801 (w := .methodLink "RoutingField" 535 ⟨"RoutingField$Bytes", "addSecret", "([B)V"⟩) (by decide +kernel) rfl) ki_By_addSecret ks_By_addSecret kn_By ko_By_addSecret) rfl rfl rfl (by decide +kernel) ⟨Nat.le_of_ble_eq_true rfl, Nat.le_of_ble_eq_true rfl⟩) (ci := 0) rfl, List.forall_mem_cons.mpr ⟨pm_cokV hbs hZ ⟨hx, hb, hml, hown, hts⟩ (kW_By_endLine l D base sa) (fun mc ms => cwV 0 hts (pw_gV (pw_in 1729 (w := .methodLink "RoutingField" 398 ⟨"RoutingField$Bytes", "endLine", "()V"⟩) (by decide +kernel) rfl) ki_By_endLine ks_By_endLine kn_By ko_By_endLine) rfl rfl rfl (by decide +kernel) ⟨Nat.le_of_ble_eq_true rfl, Nat.le_of_ble_eq_true rfl⟩) (ci := 0) rfl, fun _ h => absurd h List.not_mem_nil⟩⟩⟩⟩⟩⟩⟩⟩),
    hZ, kst_ok ht hZ (kS_Rf_ok sa), knar_ok ht, ktx_ok (kE_Rf_ok sa)⟩
set_option maxRecDepth 100000 in
theorem ki_Rf_writeKeys : Cond.instanceMethod ⟨"RoutingField", "writeKeys", "(LRoutingField$Router;LRoutingField$Port;)V"⟩ ∈ pw_T := (pw_in 1807 (by decide +kernel) rfl)
set_option maxRecDepth 100000 in
theorem ks_Rf_writeKeys : Cond.selects "RoutingField" ⟨"RoutingField", "writeKeys", "(LRoutingField$Router;LRoutingField$Port;)V"⟩ ⟨"RoutingField", "writeKeys", "(LRoutingField$Router;LRoutingField$Port;)V"⟩ ∈ pw_T := (pw_sel 100 (q := (⟨"RoutingField", "writeKeys", "(LRoutingField$Router;LRoutingField$Port;)V"⟩, 20)) (by decide +kernel))
set_option maxRecDepth 100000 in
theorem ko_Rf_writeKeys : Cond.code ⟨"RoutingField", "writeKeys", "(LRoutingField$Router;LRoutingField$Port;)V"⟩ prog_1_method_44_code 5 none ∈ pw_T := (pw_in 1808 rfl rfl)
set_option maxRecDepth 100000 in
theorem kD_Rf_writeKeys_0 : ∀ q ∈ kC_Rf_writeKeys_0, decode prog_1_method_44_code q.1 = .ok (q.2, pm_len q.1 q.2) := by decide +kernel
set_option maxRecDepth 100000 in
theorem kD_Rf_writeKeys_1 : ∀ q ∈ kC_Rf_writeKeys_1, decode prog_1_method_44_code q.1 = .ok (q.2, pm_len q.1 q.2) := by decide +kernel
theorem kD_Rf_writeKeys : ∀ q ∈ kC_Rf_writeKeys, decode prog_1_method_44_code q.1 = .ok (q.2, pm_len q.1 q.2) := List.forall_mem_append.mpr ⟨kD_Rf_writeKeys_0, kD_Rf_writeKeys_1⟩
set_option maxRecDepth 100000 in
theorem kW_Rf_writeKeys (l : Launch) (D : va_G) (base : Nat) (sa : Nat → Nat) : pm_Met l D kcl base (kZ sa) ⟨"RoutingField", "writeKeys", "(LRoutingField$Router;LRoutingField$Port;)V"⟩ (.code ⟨"RoutingField", "writeKeys", "(LRoutingField$Router;LRoutingField$Port;)V"⟩ prog_1_method_44_code 5 none :: pw_T) 8 188 (kP_Rf_writeKeys base sa) := by
  refine pm_met (by decide) rfl rfl ?_
  intro mc ms p e s m args below meth c hx hb hml hown hnm hts hbs hZ
  have ht : ∀ w ∈ pw_T, w.before args s = true := fun w h => hts w (List.mem_cons_of_mem _ h)
  exact ⟨hx, hb, hown, hbs, pm_look_all kD_Rf_writeKeys, kf_ok (init := false) ht hZ kF_Rf_ok (fun h => by cases h), km_ok ht kM_Rf_ok, kci_ok ht kI_Rf_ok, kli_ok ht kJ_Rf_ok, kar_ok ht hZ kA_Rf_ok,
    pm_look_all (List.forall_mem_cons.mpr ⟨pm_cokV hbs hZ ⟨hx, hb, hml, hown, hts⟩ (kW_Rf_beginPortLine l D base sa) (fun mc ms => cwV 3 hts (pw_gV (pw_in 1795 (w := .methodLink "RoutingField" 522 ⟨"RoutingField", "beginPortLine", "(Ljava/lang/String;LRoutingField$Router;LRoutingField$Port;)V"⟩) (by decide +kernel) rfl) ki_Rf_beginPortLine ks_Rf_beginPortLine kn_Rf ko_Rf_beginPortLine) rfl rfl rfl (by decide +kernel) ⟨Nat.le_of_ble_eq_true rfl, Nat.le_of_ble_eq_true rfl⟩) (ci := 11) rfl, List.forall_mem_cons.mpr ⟨pm_cokV hbs hZ ⟨hx, hb, hml, hown, hts⟩ (kW_By_wordNumber l D base sa) (fun mc ms => cwV 1 hts (pw_gV (pw_in 1718 (w := .methodLink "RoutingField" 367 ⟨"RoutingField$Bytes", "wordNumber", "(I)V"⟩) (by decide +kernel) rfl) ki_By_wordNumber ks_By_wordNumber kn_By ko_By_wordNumber) rfl rfl rfl (by decide +kernel) ⟨Nat.le_of_ble_eq_true rfl, Nat.le_of_ble_eq_true rfl⟩) (ci := 0) rfl, List.forall_mem_cons.mpr ⟨pm_cokV hbs hZ ⟨hx, hb, hml, hown, hts⟩ (kW_By_word l D base sa) (fun mc ms => cwV 1 hts (pw_gV (pw_in 1681 (w := .methodLink "RoutingField" 352 ⟨"RoutingField$Bytes", "word", "(Ljava/lang/String;)V"⟩) (by decide +kernel) rfl) ki_By_word ks_By_word kn_By ko_By_word) rfl rfl rfl (by decide +kernel) ⟨Nat.le_of_ble_eq_true rfl, Nat.le_of_ble_eq_true rfl⟩) (ci := 0) rfl, List.forall_mem_cons.mpr ⟨pm_cokV hbs hZ ⟨hx, hb, hml, hown, hts⟩ (kW_By_addSecret l D base sa) (fun mc ms => cwV 1 hts (pw_gV (pw_in 1801 (w := .methodLink "RoutingField" 535 ⟨"RoutingField$Bytes", "addSecret", "([B)V"⟩) (by decide +kernel) rfl) ki_By_addSecret ks_By_addSecret kn_By ko_By_addSecret) rfl rfl rfl (by decide +kernel) ⟨Nat.le_of_ble_eq_true rfl, Nat.le_of_ble_eq_true rfl⟩) (ci := 0) rfl, List.forall_mem_cons.mpr ⟨pm_cokV hbs hZ ⟨hx, hb, hml, hown, hts⟩ (kW_By_endLine l D base sa) (fun mc ms => cwV 0 hts (pw_gV (pw_in 1729 (w := .methodLink "RoutingField" 398 ⟨"RoutingField$Bytes", "endLine", "()V"⟩) (by decide +kernel) rfl) ki_By_endLine ks_By_endLine kn_By ko_By_endLine) rfl rfl rfl (by decide +kernel) ⟨Nat.le_of_ble_eq_true rfl, Nat.le_of_ble_eq_true rfl⟩) (ci := 0) rfl, fun _ h => absurd h List.not_mem_nil⟩⟩⟩⟩⟩),
    hZ, kst_ok ht hZ (kS_Rf_ok sa), knar_ok ht, ktx_ok (kE_Rf_ok sa)⟩
set_option maxRecDepth 100000 in
theorem ki_Rf_writeStatics : Cond.instanceMethod ⟨"RoutingField", "writeStatics", "(LRoutingField$Router;)V"⟩ ∈ pw_T := (pw_in 1814 (by decide +kernel) rfl)
set_option maxRecDepth 100000 in
theorem ks_Rf_writeStatics : Cond.selects "RoutingField" ⟨"RoutingField", "writeStatics", "(LRoutingField$Router;)V"⟩ ⟨"RoutingField", "writeStatics", "(LRoutingField$Router;)V"⟩ ∈ pw_T := (pw_sel 101 (q := (⟨"RoutingField", "writeStatics", "(LRoutingField$Router;)V"⟩, 20)) (by decide +kernel))
set_option maxRecDepth 100000 in
theorem ko_Rf_writeStatics : Cond.code ⟨"RoutingField", "writeStatics", "(LRoutingField$Router;)V"⟩ prog_1_method_45_code 4 none ∈ pw_T := (pw_in 1815 rfl rfl)
set_option maxRecDepth 100000 in
theorem kD_Rf_writeStatics : ∀ q ∈ kC_Rf_writeStatics, decode prog_1_method_45_code q.1 = .ok (q.2, pm_len q.1 q.2) := by decide +kernel
set_option maxRecDepth 100000 in
theorem kW_Rf_writeStatics (l : Launch) (D : va_G) (base : Nat) (sa : Nat → Nat) : pm_Met l D kcl base (kZ sa) ⟨"RoutingField", "writeStatics", "(LRoutingField$Router;)V"⟩ (.code ⟨"RoutingField", "writeStatics", "(LRoutingField$Router;)V"⟩ prog_1_method_45_code 4 none :: pw_T) 9 212 (kP_Rf_writeStatics base sa) := by
  refine pm_met (by decide) rfl rfl ?_
  intro mc ms p e s m args below meth c hx hb hml hown hnm hts hbs hZ
  have ht : ∀ w ∈ pw_T, w.before args s = true := fun w h => hts w (List.mem_cons_of_mem _ h)
  exact ⟨hx, hb, hown, hbs, pm_look_all kD_Rf_writeStatics, kf_ok (init := false) ht hZ kF_Rf_ok (fun h => by cases h), km_ok ht kM_Rf_ok, kci_ok ht kI_Rf_ok, kli_ok ht kJ_Rf_ok, kar_ok ht hZ kA_Rf_ok,
    pm_look_all (List.forall_mem_cons.mpr ⟨pm_cokV hbs hZ ⟨hx, hb, hml, hown, hts⟩ (kW_By_word l D base sa) (fun mc ms => cwV 1 hts (pw_gV (pw_in 1681 (w := .methodLink "RoutingField" 352 ⟨"RoutingField$Bytes", "word", "(Ljava/lang/String;)V"⟩) (by decide +kernel) rfl) ki_By_word ks_By_word kn_By ko_By_word) rfl rfl rfl (by decide +kernel) ⟨Nat.le_of_ble_eq_true rfl, Nat.le_of_ble_eq_true rfl⟩) (ci := 0) rfl, List.forall_mem_cons.mpr ⟨pm_cokV hbs hZ ⟨hx, hb, hml, hown, hts⟩ (kW_By_addPrefix l D base sa) (fun mc ms => cwV 1 hts (pw_gV (pw_in 1691 (w := .methodLink "RoutingField" 360 ⟨"RoutingField$Bytes", "addPrefix", "(LRoutingField$Prefix;)V"⟩) (by decide +kernel) rfl) ki_By_addPrefix ks_By_addPrefix kn_By ko_By_addPrefix) rfl rfl rfl (by decide +kernel) ⟨Nat.le_of_ble_eq_true rfl, Nat.le_of_ble_eq_true rfl⟩) (ci := 0) rfl, List.forall_mem_cons.mpr ⟨pm_cokV hbs hZ ⟨hx, hb, hml, hown, hts⟩ (kW_By_wordNumber l D base sa) (fun mc ms => cwV 1 hts (pw_gV (pw_in 1718 (w := .methodLink "RoutingField" 367 ⟨"RoutingField$Bytes", "wordNumber", "(I)V"⟩) (by decide +kernel) rfl) ki_By_wordNumber ks_By_wordNumber kn_By ko_By_wordNumber) rfl rfl rfl (by decide +kernel) ⟨Nat.le_of_ble_eq_true rfl, Nat.le_of_ble_eq_true rfl⟩) (ci := 0) rfl, List.forall_mem_cons.mpr ⟨pm_cokV hbs hZ ⟨hx, hb, hml, hown, hts⟩ (kW_By_endLine l D base sa) (fun mc ms => cwV 0 hts (pw_gV (pw_in 1729 (w := .methodLink "RoutingField" 398 ⟨"RoutingField$Bytes", "endLine", "()V"⟩) (by decide +kernel) rfl) ki_By_endLine ks_By_endLine kn_By ko_By_endLine) rfl rfl rfl (by decide +kernel) ⟨Nat.le_of_ble_eq_true rfl, Nat.le_of_ble_eq_true rfl⟩) (ci := 0) rfl, fun _ h => absurd h List.not_mem_nil⟩⟩⟩⟩),
    hZ, kst_ok ht hZ (kS_Rf_ok sa), knar_ok ht, ktx_ok (kE_Rf_ok sa)⟩
set_option maxRecDepth 100000 in
theorem kv_Rf_sideWord : Cond.static ⟨"RoutingField", "sideWord", "(I)Ljava/lang/String;"⟩ ∈ pw_T := (pw_in 1823 (by decide +kernel) rfl)
set_option maxRecDepth 100000 in
theorem ko_Rf_sideWord : Cond.code ⟨"RoutingField", "sideWord", "(I)Ljava/lang/String;"⟩ prog_1_method_38_code 1 (some (.object "java/lang/String")) ∈ pw_T := (pw_in 1824 rfl rfl)
set_option maxRecDepth 100000 in
theorem kD_Rf_sideWord : ∀ q ∈ kC_Rf_sideWord, decode prog_1_method_38_code q.1 = .ok (q.2, pm_len q.1 q.2) := by decide +kernel
set_option maxRecDepth 100000 in
theorem kW_Rf_sideWord (l : Launch) (D : va_G) (base : Nat) (sa : Nat → Nat) : pm_Met l D kcl base (kZ sa) ⟨"RoutingField", "sideWord", "(I)Ljava/lang/String;"⟩ (.code ⟨"RoutingField", "sideWord", "(I)Ljava/lang/String;"⟩ prog_1_method_38_code 1 (some (.object "java/lang/String")) :: pw_T) 0 0 (kP_Rf_sideWord base sa) := by
  refine pm_met (by decide) rfl rfl ?_
  intro mc ms p e s m args below meth c hx hb hml hown hnm hts hbs hZ
  have ht : ∀ w ∈ pw_T, w.before args s = true := fun w h => hts w (List.mem_cons_of_mem _ h)
  exact ⟨hx, hb, hown, hbs, pm_look_all kD_Rf_sideWord, kf_ok (init := false) ht hZ kF_Rf_ok (fun h => by cases h), km_ok ht kM_Rf_ok, kci_ok ht kI_Rf_ok, kli_ok ht kJ_Rf_ok, kar_ok ht hZ kA_Rf_ok,
    pm_look_all (fun _ h => absurd h List.not_mem_nil),
    hZ, kst_ok ht hZ (kS_Rf_ok sa), knar_ok ht, ktx_ok (kE_Rf_ok sa)⟩
