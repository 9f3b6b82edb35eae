set_option maxRecDepth 100000 in
theorem ki_Mo_keysAreGood : Cond.instanceMethod ⟨"RoutingFieldModel", "keysAreGood", "(IJ)Z"⟩ ∈ pw_T := (pw_in 2983 (by decide +kernel) rfl)
set_option maxRecDepth 100000 in
theorem ks_Mo_keysAreGood : Cond.selects "RoutingFieldModel" ⟨"RoutingFieldModel", "keysAreGood", "(IJ)Z"⟩ ⟨"RoutingFieldModel", "keysAreGood", "(IJ)Z"⟩ ∈ pw_T := (pw_sel 188 (q := (⟨"RoutingFieldModel", "keysAreGood", "(IJ)Z"⟩, 166)) (by decide +kernel))
set_option maxRecDepth 100000 in
theorem ko_Mo_keysAreGood : Cond.code ⟨"RoutingFieldModel", "keysAreGood", "(IJ)Z"⟩ prog_14_method_120_code 10 (some .boolean) ∈ pw_T := (pw_in 2984 rfl rfl)
set_option maxRecDepth 100000 in
theorem kD_Mo_keysAreGood_0 : ∀ q ∈ kC_Mo_keysAreGood_0, decode prog_14_method_120_code q.1 = .ok (q.2, pm_len q.1 q.2) := by decide +kernel
set_option maxRecDepth 100000 in
theorem kD_Mo_keysAreGood_1 : ∀ q ∈ kC_Mo_keysAreGood_1, decode prog_14_method_120_code q.1 = .ok (q.2, pm_len q.1 q.2) := by decide +kernel
set_option maxRecDepth 100000 in
theorem kD_Mo_keysAreGood_2 : ∀ q ∈ kC_Mo_keysAreGood_2, decode prog_14_method_120_code q.1 = .ok (q.2, pm_len q.1 q.2) := by decide +kernel
set_option maxRecDepth 100000 in
theorem kD_Mo_keysAreGood_3 : ∀ q ∈ kC_Mo_keysAreGood_3, decode prog_14_method_120_code q.1 = .ok (q.2, pm_len q.1 q.2) := by decide +kernel
set_option maxRecDepth 100000 in
theorem kD_Mo_keysAreGood_4 : ∀ q ∈ kC_Mo_keysAreGood_4, decode prog_14_method_120_code q.1 = .ok (q.2, pm_len q.1 q.2) := by decide +kernel
set_option maxRecDepth 100000 in
theorem kD_Mo_keysAreGood_5 : ∀ q ∈ kC_Mo_keysAreGood_5, decode prog_14_method_120_code q.1 = .ok (q.2, pm_len q.1 q.2) := by decide +kernel
theorem kD_Mo_keysAreGood : ∀ q ∈ kC_Mo_keysAreGood, decode prog_14_method_120_code q.1 = .ok (q.2, pm_len q.1 q.2) := List.forall_mem_append.mpr ⟨kD_Mo_keysAreGood_0, List.forall_mem_append.mpr ⟨kD_Mo_keysAreGood_1, List.forall_mem_append.mpr ⟨kD_Mo_keysAreGood_2, List.forall_mem_append.mpr ⟨kD_Mo_keysAreGood_3, List.forall_mem_append.mpr ⟨kD_Mo_keysAreGood_4, kD_Mo_keysAreGood_5⟩⟩⟩⟩⟩
set_option maxRecDepth 100000 in
theorem kW_Mo_keysAreGood (l : Launch) (D : va_G) (base : Nat) (sa : Nat → Nat) : pm_Met l D kcl base (kZ sa) ⟨"RoutingFieldModel", "keysAreGood", "(IJ)Z"⟩ (.code ⟨"RoutingFieldModel", "keysAreGood", "(IJ)Z"⟩ prog_14_method_120_code 10 (some .boolean) :: pw_T) 4 103 (kP_Mo_keysAreGood base sa) := by
  refine pm_met (by decide) rfl rfl ?_
  intro mc ms p e s m args below meth c hx hb hml hown hnm hts hbs hZ
  have ht : ∀ w ∈ pw_T, w.before args s = true := fun w h => hts w (List.mem_cons_of_mem _ h)
  exact ⟨hx, hb, hown, hbs, pm_look_all kD_Mo_keysAreGood, kf_ok (init := false) ht hZ kF_Mo_ok (fun h => by cases h), km_ok ht kM_Mo_ok, kci_ok ht kI_Mo_ok, kli_ok ht kJ_Mo_ok, kar_ok ht hZ kA_Mo_ok,
    pm_look_all (List.forall_mem_cons.mpr ⟨pm_cokV hbs hZ ⟨hx, hb, hml, hown, hts⟩ (kW_Mo_bytesAre l D base sa) (fun mc ms => cwV 5 hts (pw_gV (pw_in 2985 (w := .methodLink "RoutingFieldModel" 1011 ⟨"RoutingFieldModel", "bytesAre", "(IIIII)Z"⟩) (by decide +kernel) rfl) ki_Mo_bytesAre ks_Mo_bytesAre kn_Mo ko_Mo_bytesAre) rfl rfl rfl (by decide +kernel) ⟨Nat.le_of_ble_eq_true rfl, Nat.le_of_ble_eq_true rfl⟩) (ci := 12) rfl, List.forall_mem_cons.mpr ⟨pm_cokV hbs hZ ⟨hx, hb, hml, hown, hts⟩ (kW_Mo_keyPlace l D base sa) (fun mc ms => cwV 2 hts (pw_gV (pw_in 2637 (w := .methodLink "RoutingFieldModel" 703 ⟨"RoutingFieldModel", "keyPlace", "(II)I"⟩) (by decide +kernel) rfl) ki_Mo_keyPlace ks_Mo_keyPlace kn_Mo ko_Mo_keyPlace) rfl rfl rfl (by decide +kernel) ⟨Nat.le_of_ble_eq_true rfl, Nat.le_of_ble_eq_true rfl⟩) (ci := 12) rfl, List.forall_mem_cons.mpr ⟨pm_cokV hbs hZ ⟨hx, hb, hml, hown, hts⟩ (kW_Mo_isGood l D base sa) (fun mc ms => cwV 1 hts (pw_gV (pw_in 2723 (w := .methodLink "RoutingFieldModel" 914 ⟨"RoutingFieldModel", "isGood", "(I)Z"⟩) (by decide +kernel) rfl) ki_Mo_isGood ks_Mo_isGood kn_Mo ko_Mo_isGood) rfl rfl rfl (by decide +kernel) ⟨Nat.le_of_ble_eq_true rfl, Nat.le_of_ble_eq_true rfl⟩) (ci := 12) rfl, List.forall_mem_cons.mpr ⟨pm_cokV hbs hZ ⟨hx, hb, hml, hown, hts⟩ (kW_Mo_areZeros l D base sa) (fun mc ms => cwV 2 hts (pw_gV (pw_in 2989 (w := .methodLink "RoutingFieldModel" 1015 ⟨"RoutingFieldModel", "areZeros", "(II)Z"⟩) (by decide +kernel) rfl) ki_Mo_areZeros ks_Mo_areZeros kn_Mo ko_Mo_areZeros) rfl rfl rfl (by decide +kernel) ⟨Nat.le_of_ble_eq_true rfl, Nat.le_of_ble_eq_true rfl⟩) (ci := 12) rfl, List.forall_mem_cons.mpr ⟨pm_cokV hbs hZ ⟨hx, hb, hml, hown, hts⟩ (kW_Mo_sumOf l D base sa) (fun mc ms => cwV 3 hts (pw_gV (pw_in 2736 (w := .methodLink "RoutingFieldModel" 930 ⟨"RoutingFieldModel", "sumOf", "(I[II)V"⟩) (by decide +kernel) rfl) ki_Mo_sumOf ks_Mo_sumOf kn_Mo ko_Mo_sumOf) rfl rfl rfl (by decide +kernel) ⟨Nat.le_of_ble_eq_true rfl, Nat.le_of_ble_eq_true rfl⟩) (ci := 12) rfl, List.forall_mem_cons.mpr ⟨pm_cokS hbs hZ ⟨hx, hb, hml, hown, hts⟩ (kW_Mo_number4 l D base sa) (fun mc ms => va_cwS 2 hts (pw_gS (pw_in 2993 (w := .methodLink "RoutingFieldModel" 1018 ⟨"RoutingFieldModel", "number4", "([II)J"⟩) (by decide +kernel) rfl) kv_Mo_number4 kn_Mo ko_Mo_number4) rfl rfl rfl (by decide +kernel) ⟨Nat.le_of_ble_eq_true rfl, Nat.le_of_ble_eq_true rfl⟩) (Nat.le_of_ble_eq_true rfl), List.forall_mem_cons.mpr ⟨pm_cokV hbs hZ ⟨hx, hb, hml, hown, hts⟩ (kW_Mo_isNotOlder l D base sa) (fun mc ms => cwV 3 hts (pw_gV (pw_in 2996 (w := .methodLink "RoutingFieldModel" 1022 ⟨"RoutingFieldModel", "isNotOlder", "(IJJ)Z"⟩) (by decide +kernel) rfl) ki_Mo_isNotOlder ks_Mo_isNotOlder kn_Mo ko_Mo_isNotOlder) rfl rfl rfl (by decide +kernel) ⟨Nat.le_of_ble_eq_true rfl, Nat.le_of_ble_eq_true rfl⟩) (ci := 12) rfl, fun _ h => absurd h List.not_mem_nil⟩⟩⟩⟩⟩⟩⟩),
    hZ, kst_ok ht hZ (kS_Mo_ok sa), knar_ok ht, ktx_ok (kE_Mo_ok sa)⟩
set_option maxRecDepth 100000 in
theorem ki_Mo_tally : Cond.instanceMethod ⟨"RoutingFieldModel", "tally", "(III)V"⟩ ∈ pw_T := (pw_in 2976 (by decide +kernel) rfl)
set_option maxRecDepth 100000 in
theorem ks_Mo_tally : Cond.selects "RoutingFieldModel" ⟨"RoutingFieldModel", "tally", "(III)V"⟩ ⟨"RoutingFieldModel", "tally", "(III)V"⟩ ∈ pw_T := (pw_sel 187 (q := (⟨"RoutingFieldModel", "tally", "(III)V"⟩, 166)) (by decide +kernel))
set_option maxRecDepth 100000 in
theorem ko_Mo_tally : Cond.code ⟨"RoutingFieldModel", "tally", "(III)V"⟩ prog_14_method_123_code 4 none ∈ pw_T := (pw_in 2977 rfl rfl)
set_option maxRecDepth 100000 in
theorem kD_Mo_tally : ∀ q ∈ kC_Mo_tally, decode prog_14_method_123_code q.1 = .ok (q.2, pm_len q.1 q.2) := by decide +kernel
set_option maxRecDepth 100000 in
theorem kW_Mo_tally (l : Launch) (D : va_G) (base : Nat) (sa : Nat → Nat) : pm_Met l D kcl base (kZ sa) ⟨"RoutingFieldModel", "tally", "(III)V"⟩ (.code ⟨"RoutingFieldModel", "tally", "(III)V"⟩ prog_14_method_123_code 4 none :: pw_T) 0 0 (kP_Mo_tally base sa) := by
  refine pm_met (by decide) rfl rfl ?_
  intro mc ms p e s m args below meth c hx hb hml hown hnm hts hbs hZ
  have ht : ∀ w ∈ pw_T, w.before args s = true := fun w h => hts w (List.mem_cons_of_mem _ h)
  exact ⟨hx, hb, hown, hbs, pm_look_all kD_Mo_tally, kf_ok (init := false) ht hZ kF_Mo_ok (fun h => by cases h), km_ok ht kM_Mo_ok, kci_ok ht kI_Mo_ok, kli_ok ht kJ_Mo_ok, kar_ok ht hZ kA_Mo_ok,
    pm_look_all (fun _ h => absurd h List.not_mem_nil),
    hZ, kst_ok ht hZ (kS_Mo_ok sa), knar_ok ht, ktx_ok (kE_Mo_ok sa)⟩
set_option maxRecDepth 100000 in
theorem ki_Mo_isEntry : Cond.instanceMethod ⟨"RoutingFieldModel", "isEntry", "(II)Z"⟩ ∈ pw_T := (pw_in 3016 (by decide +kernel) rfl)
set_option maxRecDepth 100000 in
theorem ks_Mo_isEntry : Cond.selects "RoutingFieldModel" ⟨"RoutingFieldModel", "isEntry", "(II)Z"⟩ ⟨"RoutingFieldModel", "isEntry", "(II)Z"⟩ ∈ pw_T := (pw_sel 194 (q := (⟨"RoutingFieldModel", "isEntry", "(II)Z"⟩, 166)) (by decide +kernel))
set_option maxRecDepth 100000 in
theorem ko_Mo_isEntry : Cond.code ⟨"RoutingFieldModel", "isEntry", "(II)Z"⟩ prog_14_method_127_code 7 (some .boolean) ∈ pw_T := (pw_in 3017 rfl rfl)
set_option maxRecDepth 100000 in
theorem kD_Mo_isEntry_0 : ∀ q ∈ kC_Mo_isEntry_0, decode prog_14_method_127_code q.1 = .ok (q.2, pm_len q.1 q.2) := by decide +kernel
set_option maxRecDepth 100000 in
theorem kD_Mo_isEntry_1 : ∀ q ∈ kC_Mo_isEntry_1, decode prog_14_method_127_code q.1 = .ok (q.2, pm_len q.1 q.2) := by decide +kernel
set_option maxRecDepth 100000 in
theorem kD_Mo_isEntry_2 : ∀ q ∈ kC_Mo_isEntry_2, decode prog_14_method_127_code q.1 = .ok (q.2, pm_len q.1 q.2) := by decide +kernel
theorem kD_Mo_isEntry : ∀ q ∈ kC_Mo_isEntry, decode prog_14_method_127_code q.1 = .ok (q.2, pm_len q.1 q.2) := List.forall_mem_append.mpr ⟨kD_Mo_isEntry_0, List.forall_mem_append.mpr ⟨kD_Mo_isEntry_1, kD_Mo_isEntry_2⟩⟩
set_option maxRecDepth 100000 in
theorem kW_Mo_isEntry (l : Launch) (D : va_G) (base : Nat) (sa : Nat → Nat) : pm_Met l D kcl base (kZ sa) ⟨"RoutingFieldModel", "isEntry", "(II)Z"⟩ (.code ⟨"RoutingFieldModel", "isEntry", "(II)Z"⟩ prog_14_method_127_code 7 (some .boolean) :: pw_T) 2 52 (kP_Mo_isEntry base sa) := by
  refine pm_met (by decide) rfl rfl ?_
  intro mc ms p e s m args below meth c hx hb hml hown hnm hts hbs hZ
  have ht : ∀ w ∈ pw_T, w.before args s = true := fun w h => hts w (List.mem_cons_of_mem _ h)
  exact ⟨hx, hb, hown, hbs, pm_look_all kD_Mo_isEntry, kf_ok (init := false) ht hZ kF_Mo_ok (fun h => by cases h), km_ok ht kM_Mo_ok, kci_ok ht kI_Mo_ok, kli_ok ht kJ_Mo_ok, kar_ok ht hZ kA_Mo_ok,
    pm_look_all (List.forall_mem_cons.mpr ⟨pm_cokS hbs hZ ⟨hx, hb, hml, hown, hts⟩ (kW_Mo_highOf l D base sa) (fun mc ms => va_cwS 3 hts (pw_gS (pw_in 3008 (w := .methodLink "RoutingFieldModel" 1054 ⟨"RoutingFieldModel", "highOf", "([III)J"⟩) (by decide +kernel) rfl) kv_Mo_highOf kn_Mo ko_Mo_highOf) rfl rfl rfl (by decide +kernel) ⟨Nat.le_of_ble_eq_true rfl, Nat.le_of_ble_eq_true rfl⟩) (Nat.le_of_ble_eq_true rfl), List.forall_mem_cons.mpr ⟨pm_cokS hbs hZ ⟨hx, hb, hml, hown, hts⟩ (kW_Mo_lowOf l D base sa) (fun mc ms => va_cwS 3 hts (pw_gS (pw_in 3011 (w := .methodLink "RoutingFieldModel" 1058 ⟨"RoutingFieldModel", "lowOf", "([III)J"⟩) (by decide +kernel) rfl) kv_Mo_lowOf kn_Mo ko_Mo_lowOf) rfl rfl rfl (by decide +kernel) ⟨Nat.le_of_ble_eq_true rfl, Nat.le_of_ble_eq_true rfl⟩) (Nat.le_of_ble_eq_true rfl), List.forall_mem_cons.mpr ⟨pm_cokS hbs hZ ⟨hx, hb, hml, hown, hts⟩ (kW_Mo_isPrefix l D base sa) (fun mc ms => va_cwS 3 hts (pw_gS (pw_in 2873 (w := .methodLink "RoutingFieldModel" 519 ⟨"RoutingFieldModel", "isPrefix", "(JJI)Z"⟩) (by decide +kernel) rfl) kv_Mo_isPrefix kn_Mo ko_Mo_isPrefix) rfl rfl rfl (by decide +kernel) ⟨Nat.le_of_ble_eq_true rfl, Nat.le_of_ble_eq_true rfl⟩) (Nat.le_of_ble_eq_true rfl), List.forall_mem_cons.mpr ⟨pm_cokS hbs hZ ⟨hx, hb, hml, hown, hts⟩ (kW_Mo_number4 l D base sa) (fun mc ms => va_cwS 2 hts (pw_gS (pw_in 2993 (w := .methodLink "RoutingFieldModel" 1018 ⟨"RoutingFieldModel", "number4", "([II)J"⟩) (by decide +kernel) rfl) kv_Mo_number4 kn_Mo ko_Mo_number4) rfl rfl rfl (by decide +kernel) ⟨Nat.le_of_ble_eq_true rfl, Nat.le_of_ble_eq_true rfl⟩) (Nat.le_of_ble_eq_true rfl), fun _ h => absurd h List.not_mem_nil⟩⟩⟩⟩),
    hZ, kst_ok ht hZ (kS_Mo_ok sa), knar_ok ht, ktx_ok (kE_Mo_ok sa)⟩
set_option maxRecDepth 100000 in
theorem kv_Mo_isForbidden : Cond.static ⟨"RoutingFieldModel", "isForbidden", "(IJI)Z"⟩ ∈ pw_T := (pw_in 3021 (by decide +kernel) rfl)
set_option maxRecDepth 100000 in
theorem ko_Mo_isForbidden : Cond.code ⟨"RoutingFieldModel", "isForbidden", "(IJI)Z"⟩ prog_14_method_128_code 4 (some .boolean) ∈ pw_T := (pw_in 3022 rfl rfl)
set_option maxRecDepth 100000 in
theorem kD_Mo_isForbidden : ∀ q ∈ kC_Mo_isForbidden, decode prog_14_method_128_code q.1 = .ok (q.2, pm_len q.1 q.2) := by decide +kernel
set_option maxRecDepth 100000 in
theorem kW_Mo_isForbidden (l : Launch) (D : va_G) (base : Nat) (sa : Nat → Nat) : pm_Met l D kcl base (kZ sa) ⟨"RoutingFieldModel", "isForbidden", "(IJI)Z"⟩ (.code ⟨"RoutingFieldModel", "isForbidden", "(IJI)Z"⟩ prog_14_method_128_code 4 (some .boolean) :: pw_T) 0 0 (kP_Mo_isForbidden base sa) := by
  refine pm_met (by decide) rfl rfl ?_
  intro mc ms p e s m args below meth c hx hb hml hown hnm hts hbs hZ
  have ht : ∀ w ∈ pw_T, w.before args s = true := fun w h => hts w (List.mem_cons_of_mem _ h)
  exact ⟨hx, hb, hown, hbs, pm_look_all kD_Mo_isForbidden, kf_ok (init := false) ht hZ kF_Mo_ok (fun h => by cases h), km_ok ht kM_Mo_ok, kci_ok ht kI_Mo_ok, kli_ok ht kJ_Mo_ok, kar_ok ht hZ kA_Mo_ok,
    pm_look_all (fun _ h => absurd h List.not_mem_nil),
    hZ, kst_ok ht hZ (kS_Mo_ok sa), knar_ok ht, ktx_ok (kE_Mo_ok sa)⟩
set_option maxRecDepth 100000 in
theorem ki_Mo_takeOver : Cond.instanceMethod ⟨"RoutingFieldModel", "takeOver", "(IIIIIJJ)V"⟩ ∈ pw_T := (pw_in 3055 (by decide +kernel) rfl)
set_option maxRecDepth 100000 in
theorem ks_Mo_takeOver : Cond.selects "RoutingFieldModel" ⟨"RoutingFieldModel", "takeOver", "(IIIIIJJ)V"⟩ ⟨"RoutingFieldModel", "takeOver", "(IIIIIJJ)V"⟩ ∈ pw_T := (pw_sel 201 (q := (⟨"RoutingFieldModel", "takeOver", "(IIIIIJJ)V"⟩, 166)) (by decide +kernel))
set_option maxRecDepth 100000 in
theorem ko_Mo_takeOver : Cond.code ⟨"RoutingFieldModel", "takeOver", "(IIIIIJJ)V"⟩ prog_14_method_131_code 11 none ∈ pw_T := (pw_in 3056 rfl rfl)
set_option maxRecDepth 100000 in
theorem kD_Mo_takeOver_0 : ∀ q ∈ kC_Mo_takeOver_0, decode prog_14_method_131_code q.1 = .ok (q.2, pm_len q.1 q.2) := by decide +kernel
set_option maxRecDepth 100000 in
theorem kD_Mo_takeOver_1 : ∀ q ∈ kC_Mo_takeOver_1, decode prog_14_method_131_code q.1 = .ok (q.2, pm_len q.1 q.2) := by decide +kernel
set_option maxRecDepth 100000 in
theorem kD_Mo_takeOver_2 : ∀ q ∈ kC_Mo_takeOver_2, decode prog_14_method_131_code q.1 = .ok (q.2, pm_len q.1 q.2) := by decide +kernel
theorem kD_Mo_takeOver : ∀ q ∈ kC_Mo_takeOver, decode prog_14_method_131_code q.1 = .ok (q.2, pm_len q.1 q.2) := List.forall_mem_append.mpr ⟨kD_Mo_takeOver_0, List.forall_mem_append.mpr ⟨kD_Mo_takeOver_1, kD_Mo_takeOver_2⟩⟩
set_option maxRecDepth 100000 in
theorem kW_Mo_takeOver (l : Launch) (D : va_G) (base : Nat) (sa : Nat → Nat) : pm_Met l D kcl base (kZ sa) ⟨"RoutingFieldModel", "takeOver", "(IIIIIJJ)V"⟩ (.code ⟨"RoutingFieldModel", "takeOver", "(IIIIIJJ)V"⟩ prog_14_method_131_code 11 none :: pw_T) 1 22 (kP_Mo_takeOver base sa) := by
  refine pm_met (by decide) rfl rfl ?_
  intro mc ms p e s m args below meth c hx hb hml hown hnm hts hbs hZ
  have ht : ∀ w ∈ pw_T, w.before args s = true := fun w h => hts w (List.mem_cons_of_mem _ h)
  exact ⟨hx, hb, hown, hbs, pm_look_all kD_Mo_takeOver, kf_ok (init := false) ht hZ kF_Mo_ok (fun h => by cases h), km_ok ht kM_Mo_ok, kci_ok ht kI_Mo_ok, kli_ok ht kJ_Mo_ok, kar_ok ht hZ kA_Mo_ok,
    pm_look_all (List.forall_mem_cons.mpr ⟨pm_cokV hbs hZ ⟨hx, hb, hml, hown, hts⟩ (kW_Mo_markChanged l D base sa) (fun mc ms => cwV 2 hts (pw_gV (pw_in 2668 (w := .methodLink "RoutingFieldModel" 770 ⟨"RoutingFieldModel", "markChanged", "(II)V"⟩) (by decide +kernel) rfl) ki_Mo_markChanged ks_Mo_markChanged kn_Mo ko_Mo_markChanged) rfl rfl rfl (by decide +kernel) ⟨Nat.le_of_ble_eq_true rfl, Nat.le_of_ble_eq_true rfl⟩) (ci := 12) rfl, fun _ h => absurd h List.not_mem_nil⟩),
    hZ, kst_ok ht hZ (kS_Mo_ok sa), knar_ok ht, ktx_ok (kE_Mo_ok sa)⟩
