set_option maxRecDepth 100000 in
theorem ki_Mo_lay : Cond.instanceMethod ⟨"RoutingFieldModel", "lay", "(I)V"⟩ ∈ pw_T := (pw_in 2490 (by decide +kernel) rfl)
set_option maxRecDepth 100000 in
theorem ks_Mo_lay : Cond.selects "RoutingFieldModel" ⟨"RoutingFieldModel", "lay", "(I)V"⟩ ⟨"RoutingFieldModel", "lay", "(I)V"⟩ ∈ pw_T := (pw_sel 109 (q := (⟨"RoutingFieldModel", "lay", "(I)V"⟩, 166)) (by decide +kernel))
set_option maxRecDepth 100000 in
theorem ko_Mo_lay : Cond.code ⟨"RoutingFieldModel", "lay", "(I)V"⟩ prog_14_method_11_code 3 none ∈ pw_T := (pw_in 2491 rfl rfl)
set_option maxRecDepth 100000 in
theorem kD_Mo_lay : ∀ q ∈ kC_Mo_lay, decode prog_14_method_11_code q.1 = .ok (q.2, pm_len q.1 q.2) := by decide +kernel
set_option maxRecDepth 100000 in
theorem kW_Mo_lay (l : Launch) (D : va_G) (base : Nat) (sa : Nat → Nat) : pm_Met l D kcl base (kZ sa) ⟨"RoutingFieldModel", "lay", "(I)V"⟩ (.code ⟨"RoutingFieldModel", "lay", "(I)V"⟩ prog_14_method_11_code 3 none :: pw_T) 0 0 (kP_Mo_lay base sa) := by
  refine pm_met (by decide) rfl rfl ?_
  intro mc ms p e s m args below meth c hx hb hml hown hnm hts hbs hZ
  have ht : ∀ w ∈ pw_T, w.before args s = true := fun w h => hts w (List.mem_cons_of_mem _ h)
  exact ⟨hx, hb, hown, hbs, pm_look_all kD_Mo_lay, kf_ok (init := false) ht hZ kF_Mo_ok (fun h => by cases h), km_ok ht kM_Mo_ok, kci_ok ht kI_Mo_ok, kli_ok ht kJ_Mo_ok, kar_ok ht hZ kA_Mo_ok,
    pm_look_all (fun _ h => absurd h List.not_mem_nil),
    hZ, kst_ok ht hZ (kS_Mo_ok sa), knar_ok ht, ktx_ok (kE_Mo_ok sa)⟩
set_option maxRecDepth 100000 in
theorem ki_Mo_feed : Cond.instanceMethod ⟨"RoutingFieldModel", "feed", "(IIIII)Z"⟩ ∈ pw_T := (pw_in 2485 (by decide +kernel) rfl)
set_option maxRecDepth 100000 in
theorem ks_Mo_feed : Cond.selects "RoutingFieldModel" ⟨"RoutingFieldModel", "feed", "(IIIII)Z"⟩ ⟨"RoutingFieldModel", "feed", "(IIIII)Z"⟩ ∈ pw_T := (pw_in 2486 (by decide +kernel) rfl)
set_option maxRecDepth 100000 in
theorem ko_Mo_feed : Cond.code ⟨"RoutingFieldModel", "feed", "(IIIII)Z"⟩ prog_14_method_12_code 6 (some .boolean) ∈ pw_T := (pw_in 2487 rfl rfl)
set_option maxRecDepth 100000 in
theorem kD_Mo_feed : ∀ q ∈ kC_Mo_feed, decode prog_14_method_12_code q.1 = .ok (q.2, pm_len q.1 q.2) := by decide +kernel
set_option maxRecDepth 100000 in
theorem kW_Mo_feed (l : Launch) (D : va_G) (base : Nat) (sa : Nat → Nat) : pm_Met l D kcl base (kZ sa) ⟨"RoutingFieldModel", "feed", "(IIIII)Z"⟩ (.code ⟨"RoutingFieldModel", "feed", "(IIIII)Z"⟩ prog_14_method_12_code 6 (some .boolean) :: pw_T) 1 22 (kP_Mo_feed base sa) := by
  refine pm_met (by decide) rfl rfl ?_
  intro mc ms p e s m args below meth c hx hb hml hown hnm hts hbs hZ
  have ht : ∀ w ∈ pw_T, w.before args s = true := fun w h => hts w (List.mem_cons_of_mem _ h)
  exact ⟨hx, hb, hown, hbs, pm_look_all kD_Mo_feed, kf_ok (init := false) ht hZ kF_Mo_ok (fun h => by cases h), km_ok ht kM_Mo_ok, kci_ok ht kI_Mo_ok, kli_ok ht kJ_Mo_ok, kar_ok ht hZ kA_Mo_ok,
    pm_look_all (List.forall_mem_cons.mpr ⟨pm_cokV hbs hZ ⟨hx, hb, hml, hown, hts⟩ (kW_Mo_lay l D base sa) (fun mc ms => cwV 1 hts (pw_gV (pw_in 2488 (w := .methodLink "RoutingFieldModel" 455 ⟨"RoutingFieldModel", "lay", "(I)V"⟩) (by decide +kernel) rfl) ki_Mo_lay ks_Mo_lay kn_Mo ko_Mo_lay) rfl rfl rfl (by decide +kernel) ⟨Nat.le_of_ble_eq_true rfl, Nat.le_of_ble_eq_true rfl⟩) (ci := 12) rfl, fun _ h => absurd h List.not_mem_nil⟩),
    hZ, kst_ok ht hZ (kS_Mo_ok sa), knar_ok ht, ktx_ok (kE_Mo_ok sa)⟩
set_option maxRecDepth 100000 in
theorem ki_Mo_end : Cond.instanceMethod ⟨"RoutingFieldModel", "end", "(I)Z"⟩ ∈ pw_T := (pw_in 2493 (by decide +kernel) rfl)
set_option maxRecDepth 100000 in
theorem ks_Mo_end : Cond.selects "RoutingFieldModel" ⟨"RoutingFieldModel", "end", "(I)Z"⟩ ⟨"RoutingFieldModel", "end", "(I)Z"⟩ ∈ pw_T := (pw_in 2494 (by decide +kernel) rfl)
set_option maxRecDepth 100000 in
theorem ko_Mo_end : Cond.code ⟨"RoutingFieldModel", "end", "(I)Z"⟩ prog_14_method_13_code 2 (some .boolean) ∈ pw_T := (pw_in 2495 rfl rfl)
set_option maxRecDepth 100000 in
theorem kD_Mo_end : ∀ q ∈ kC_Mo_end, decode prog_14_method_13_code q.1 = .ok (q.2, pm_len q.1 q.2) := by decide +kernel
set_option maxRecDepth 100000 in
theorem kW_Mo_end (l : Launch) (D : va_G) (base : Nat) (sa : Nat → Nat) : pm_Met l D kcl base (kZ sa) ⟨"RoutingFieldModel", "end", "(I)Z"⟩ (.code ⟨"RoutingFieldModel", "end", "(I)Z"⟩ prog_14_method_13_code 2 (some .boolean) :: pw_T) 0 0 (kP_Mo_end base sa) := by
  refine pm_met (by decide) rfl rfl ?_
  intro mc ms p e s m args below meth c hx hb hml hown hnm hts hbs hZ
  have ht : ∀ w ∈ pw_T, w.before args s = true := fun w h => hts w (List.mem_cons_of_mem _ h)
  exact ⟨hx, hb, hown, hbs, pm_look_all kD_Mo_end, kf_ok (init := false) ht hZ kF_Mo_ok (fun h => by cases h), km_ok ht kM_Mo_ok, kci_ok ht kI_Mo_ok, kli_ok ht kJ_Mo_ok, kar_ok ht hZ kA_Mo_ok,
    pm_look_all (fun _ h => absurd h List.not_mem_nil),
    hZ, kst_ok ht hZ (kS_Mo_ok sa), knar_ok ht, ktx_ok (kE_Mo_ok sa)⟩
set_option maxRecDepth 100000 in
theorem kv_Mo_isDigit : Cond.static ⟨"RoutingFieldModel", "isDigit", "(I)Z"⟩ ∈ pw_T := (pw_in 2521 (by decide +kernel) rfl)
set_option maxRecDepth 100000 in
theorem ko_Mo_isDigit : Cond.code ⟨"RoutingFieldModel", "isDigit", "(I)Z"⟩ prog_14_method_14_code 1 (some .boolean) ∈ pw_T := (pw_in 2522 rfl rfl)
set_option maxRecDepth 100000 in
theorem kD_Mo_isDigit : ∀ q ∈ kC_Mo_isDigit, decode prog_14_method_14_code q.1 = .ok (q.2, pm_len q.1 q.2) := by decide +kernel
set_option maxRecDepth 100000 in
theorem kW_Mo_isDigit (l : Launch) (D : va_G) (base : Nat) (sa : Nat → Nat) : pm_Met l D kcl base (kZ sa) ⟨"RoutingFieldModel", "isDigit", "(I)Z"⟩ (.code ⟨"RoutingFieldModel", "isDigit", "(I)Z"⟩ prog_14_method_14_code 1 (some .boolean) :: pw_T) 0 0 (kP_Mo_isDigit base sa) := by
  refine pm_met (by decide) rfl rfl ?_
  intro mc ms p e s m args below meth c hx hb hml hown hnm hts hbs hZ
  have ht : ∀ w ∈ pw_T, w.before args s = true := fun w h => hts w (List.mem_cons_of_mem _ h)
  exact ⟨hx, hb, hown, hbs, pm_look_all kD_Mo_isDigit, kf_ok (init := false) ht hZ kF_Mo_ok (fun h => by cases h), km_ok ht kM_Mo_ok, kci_ok ht kI_Mo_ok, kli_ok ht kJ_Mo_ok, kar_ok ht hZ kA_Mo_ok,
    pm_look_all (fun _ h => absurd h List.not_mem_nil),
    hZ, kst_ok ht hZ (kS_Mo_ok sa), knar_ok ht, ktx_ok (kE_Mo_ok sa)⟩
set_option maxRecDepth 100000 in
theorem ki_Mo_code : Cond.instanceMethod ⟨"RoutingFieldModel", "code", "(I)J"⟩ ∈ pw_T := (pw_in 2517 (by decide +kernel) rfl)
set_option maxRecDepth 100000 in
theorem ks_Mo_code : Cond.selects "RoutingFieldModel" ⟨"RoutingFieldModel", "code", "(I)J"⟩ ⟨"RoutingFieldModel", "code", "(I)J"⟩ ∈ pw_T := (pw_sel 112 (q := (⟨"RoutingFieldModel", "code", "(I)J"⟩, 166)) (by decide +kernel))
set_option maxRecDepth 100000 in
theorem ko_Mo_code : Cond.code ⟨"RoutingFieldModel", "code", "(I)J"⟩ prog_14_method_15_code 8 (some .long) ∈ pw_T := (pw_in 2518 rfl rfl)
set_option maxRecDepth 100000 in
theorem kD_Mo_code_0 : ∀ q ∈ kC_Mo_code_0, decode prog_14_method_15_code q.1 = .ok (q.2, pm_len q.1 q.2) := by decide +kernel
set_option maxRecDepth 100000 in
theorem kD_Mo_code_1 : ∀ q ∈ kC_Mo_code_1, decode prog_14_method_15_code q.1 = .ok (q.2, pm_len q.1 q.2) := by decide +kernel
theorem kD_Mo_code : ∀ q ∈ kC_Mo_code, decode prog_14_method_15_code q.1 = .ok (q.2, pm_len q.1 q.2) := List.forall_mem_append.mpr ⟨kD_Mo_code_0, kD_Mo_code_1⟩
set_option maxRecDepth 100000 in
theorem kW_Mo_code (l : Launch) (D : va_G) (base : Nat) (sa : Nat → Nat) : pm_Met l D kcl base (kZ sa) ⟨"RoutingFieldModel", "code", "(I)J"⟩ (.code ⟨"RoutingFieldModel", "code", "(I)J"⟩ prog_14_method_15_code 8 (some .long) :: pw_T) 1 24 (kP_Mo_code base sa) := by
  refine pm_met (by decide) rfl rfl ?_
  intro mc ms p e s m args below meth c hx hb hml hown hnm hts hbs hZ
  have ht : ∀ w ∈ pw_T, w.before args s = true := fun w h => hts w (List.mem_cons_of_mem _ h)
  exact ⟨hx, hb, hown, hbs, pm_look_all kD_Mo_code, kf_ok (init := false) ht hZ kF_Mo_ok (fun h => by cases h), km_ok ht kM_Mo_ok, kci_ok ht kI_Mo_ok, kli_ok ht kJ_Mo_ok, kar_ok ht hZ kA_Mo_ok,
    pm_look_all (List.forall_mem_cons.mpr ⟨pm_cokS hbs hZ ⟨hx, hb, hml, hown, hts⟩ (kW_Mo_isDigit l D base sa) (fun mc ms => va_cwS 1 hts (pw_gS (pw_in 2520 (w := .methodLink "RoutingFieldModel" 461 ⟨"RoutingFieldModel", "isDigit", "(I)Z"⟩) (by decide +kernel) rfl) kv_Mo_isDigit kn_Mo ko_Mo_isDigit) rfl rfl rfl (by decide +kernel) ⟨Nat.le_of_ble_eq_true rfl, Nat.le_of_ble_eq_true rfl⟩) (Nat.le_of_ble_eq_true rfl), fun _ h => absurd h List.not_mem_nil⟩),
    hZ, kst_ok ht hZ (kS_Mo_ok sa), knar_ok ht, ktx_ok (kE_Mo_ok sa)⟩
set_option maxRecDepth 100000 in
theorem ki_Mo_name : Cond.instanceMethod ⟨"RoutingFieldModel", "name", "(I)J"⟩ ∈ pw_T := (pw_in 2544 (by decide +kernel) rfl)
set_option maxRecDepth 100000 in
theorem ks_Mo_name : Cond.selects "RoutingFieldModel" ⟨"RoutingFieldModel", "name", "(I)J"⟩ ⟨"RoutingFieldModel", "name", "(I)J"⟩ ∈ pw_T := (pw_sel 115 (q := (⟨"RoutingFieldModel", "name", "(I)J"⟩, 166)) (by decide +kernel))
set_option maxRecDepth 100000 in
theorem ko_Mo_name : Cond.code ⟨"RoutingFieldModel", "name", "(I)J"⟩ prog_14_method_16_code 4 (some .long) ∈ pw_T := (pw_in 2545 rfl rfl)
set_option maxRecDepth 100000 in
theorem kD_Mo_name : ∀ q ∈ kC_Mo_name, decode prog_14_method_16_code q.1 = .ok (q.2, pm_len q.1 q.2) := by decide +kernel
set_option maxRecDepth 100000 in
theorem kW_Mo_name (l : Launch) (D : va_G) (base : Nat) (sa : Nat → Nat) : pm_Met l D kcl base (kZ sa) ⟨"RoutingFieldModel", "name", "(I)J"⟩ (.code ⟨"RoutingFieldModel", "name", "(I)J"⟩ prog_14_method_16_code 4 (some .long) :: pw_T) 2 51 (kP_Mo_name base sa) := by
  refine pm_met (by decide) rfl rfl ?_
  intro mc ms p e s m args below meth c hx hb hml hown hnm hts hbs hZ
  have ht : ∀ w ∈ pw_T, w.before args s = true := fun w h => hts w (List.mem_cons_of_mem _ h)
  exact ⟨hx, hb, hown, hbs, pm_look_all kD_Mo_name, kf_ok (init := false) ht hZ kF_Mo_ok (fun h => by cases h), km_ok ht kM_Mo_ok, kci_ok ht kI_Mo_ok, kli_ok ht kJ_Mo_ok, kar_ok ht hZ kA_Mo_ok,
    pm_look_all (List.forall_mem_cons.mpr ⟨pm_cokV hbs hZ ⟨hx, hb, hml, hown, hts⟩ (kW_Mo_code l D base sa) (fun mc ms => cwV 1 hts (pw_gV (pw_in 2515 (w := .methodLink "RoutingFieldModel" 467 ⟨"RoutingFieldModel", "code", "(I)J"⟩) (by decide +kernel) rfl) ki_Mo_code ks_Mo_code kn_Mo ko_Mo_code) rfl rfl rfl (by decide +kernel) ⟨Nat.le_of_ble_eq_true rfl, Nat.le_of_ble_eq_true rfl⟩) (ci := 12) rfl, fun _ h => absurd h List.not_mem_nil⟩),
    hZ, kst_ok ht hZ (kS_Mo_ok sa), knar_ok ht, ktx_ok (kE_Mo_ok sa)⟩
set_option maxRecDepth 100000 in
theorem ki_Mo_number : Cond.instanceMethod ⟨"RoutingFieldModel", "number", "(I)I"⟩ ∈ pw_T := (pw_in 2560 (by decide +kernel) rfl)
set_option maxRecDepth 100000 in
theorem ks_Mo_number : Cond.selects "RoutingFieldModel" ⟨"RoutingFieldModel", "number", "(I)I"⟩ ⟨"RoutingFieldModel", "number", "(I)I"⟩ ∈ pw_T := (pw_sel 119 (q := (⟨"RoutingFieldModel", "number", "(I)I"⟩, 166)) (by decide +kernel))
set_option maxRecDepth 100000 in
theorem ko_Mo_number : Cond.code ⟨"RoutingFieldModel", "number", "(I)I"⟩ prog_14_method_17_code 5 (some .int) ∈ pw_T := (pw_in 2561 rfl rfl)
set_option maxRecDepth 100000 in
theorem kD_Mo_number : ∀ q ∈ kC_Mo_number, decode prog_14_method_17_code q.1 = .ok (q.2, pm_len q.1 q.2) := by decide +kernel
set_option maxRecDepth 100000 in
theorem kW_Mo_number (l : Launch) (D : va_G) (base : Nat) (sa : Nat → Nat) : pm_Met l D kcl base (kZ sa) ⟨"RoutingFieldModel", "number", "(I)I"⟩ (.code ⟨"RoutingFieldModel", "number", "(I)I"⟩ prog_14_method_17_code 5 (some .int) :: pw_T) 1 24 (kP_Mo_number base sa) := by
  refine pm_met (by decide) rfl rfl ?_
  intro mc ms p e s m args below meth c hx hb hml hown hnm hts hbs hZ
  have ht : ∀ w ∈ pw_T, w.before args s = true := fun w h => hts w (List.mem_cons_of_mem _ h)
  exact ⟨hx, hb, hown, hbs, pm_look_all kD_Mo_number, kf_ok (init := false) ht hZ kF_Mo_ok (fun h => by cases h), km_ok ht kM_Mo_ok, kci_ok ht kI_Mo_ok, kli_ok ht kJ_Mo_ok, kar_ok ht hZ kA_Mo_ok,
    pm_look_all (List.forall_mem_cons.mpr ⟨pm_cokS hbs hZ ⟨hx, hb, hml, hown, hts⟩ (kW_Mo_isDigit l D base sa) (fun mc ms => va_cwS 1 hts (pw_gS (pw_in 2520 (w := .methodLink "RoutingFieldModel" 461 ⟨"RoutingFieldModel", "isDigit", "(I)Z"⟩) (by decide +kernel) rfl) kv_Mo_isDigit kn_Mo ko_Mo_isDigit) rfl rfl rfl (by decide +kernel) ⟨Nat.le_of_ble_eq_true rfl, Nat.le_of_ble_eq_true rfl⟩) (Nat.le_of_ble_eq_true rfl), fun _ h => absurd h List.not_mem_nil⟩),
    hZ, kst_ok ht hZ (kS_Mo_ok sa), knar_ok ht, ktx_ok (kE_Mo_ok sa)⟩
set_option maxRecDepth 100000 in
theorem ki_Mo_isNumber : Cond.instanceMethod ⟨"RoutingFieldModel", "isNumber", "(III)Z"⟩ ∈ pw_T := (pw_in 2556 (by decide +kernel) rfl)
set_option maxRecDepth 100000 in
theorem ks_Mo_isNumber : Cond.selects "RoutingFieldModel" ⟨"RoutingFieldModel", "isNumber", "(III)Z"⟩ ⟨"RoutingFieldModel", "isNumber", "(III)Z"⟩ ∈ pw_T := (pw_sel 118 (q := (⟨"RoutingFieldModel", "isNumber", "(III)Z"⟩, 166)) (by decide +kernel))
set_option maxRecDepth 100000 in
theorem ko_Mo_isNumber : Cond.code ⟨"RoutingFieldModel", "isNumber", "(III)Z"⟩ prog_14_method_18_code 5 (some .boolean) ∈ pw_T := (pw_in 2557 rfl rfl)
set_option maxRecDepth 100000 in
theorem kD_Mo_isNumber : ∀ q ∈ kC_Mo_isNumber, decode prog_14_method_18_code q.1 = .ok (q.2, pm_len q.1 q.2) := by decide +kernel
set_option maxRecDepth 100000 in
theorem kW_Mo_isNumber (l : Launch) (D : va_G) (base : Nat) (sa : Nat → Nat) : pm_Met l D kcl base (kZ sa) ⟨"RoutingFieldModel", "isNumber", "(III)Z"⟩ (.code ⟨"RoutingFieldModel", "isNumber", "(III)Z"⟩ prog_14_method_18_code 5 (some .boolean) :: pw_T) 2 48 (kP_Mo_isNumber base sa) := by
  refine pm_met (by decide) rfl rfl ?_
  intro mc ms p e s m args below meth c hx hb hml hown hnm hts hbs hZ
  have ht : ∀ w ∈ pw_T, w.before args s = true := fun w h => hts w (List.mem_cons_of_mem _ h)
  exact ⟨hx, hb, hown, hbs, pm_look_all kD_Mo_isNumber, kf_ok (init := false) ht hZ kF_Mo_ok (fun h => by cases h), km_ok ht kM_Mo_ok, kci_ok ht kI_Mo_ok, kli_ok ht kJ_Mo_ok, kar_ok ht hZ kA_Mo_ok,
    pm_look_all (List.forall_mem_cons.mpr ⟨pm_cokV hbs hZ ⟨hx, hb, hml, hown, hts⟩ (kW_Mo_number l D base sa) (fun mc ms => cwV 1 hts (pw_gV (pw_in 2558 (w := .methodLink "RoutingFieldModel" 470 ⟨"RoutingFieldModel", "number", "(I)I"⟩) (by decide +kernel) rfl) ki_Mo_number ks_Mo_number kn_Mo ko_Mo_number) rfl rfl rfl (by decide +kernel) ⟨Nat.le_of_ble_eq_true rfl, Nat.le_of_ble_eq_true rfl⟩) (ci := 12) rfl, fun _ h => absurd h List.not_mem_nil⟩),
    hZ, kst_ok ht hZ (kS_Mo_ok sa), knar_ok ht, ktx_ok (kE_Mo_ok sa)⟩
set_option maxRecDepth 100000 in
theorem ki_Mo_isSecret : Cond.instanceMethod ⟨"RoutingFieldModel", "isSecret", "(I)Z"⟩ ∈ pw_T := (pw_in 2614 (by decide +kernel) rfl)
set_option maxRecDepth 100000 in
theorem ks_Mo_isSecret : Cond.selects "RoutingFieldModel" ⟨"RoutingFieldModel", "isSecret", "(I)Z"⟩ ⟨"RoutingFieldModel", "isSecret", "(I)Z"⟩ ∈ pw_T := (pw_sel 129 (q := (⟨"RoutingFieldModel", "isSecret", "(I)Z"⟩, 166)) (by decide +kernel))
set_option maxRecDepth 100000 in
theorem ko_Mo_isSecret : Cond.code ⟨"RoutingFieldModel", "isSecret", "(I)Z"⟩ prog_14_method_19_code 4 (some .boolean) ∈ pw_T := (pw_in 2615 rfl rfl)
set_option maxRecDepth 100000 in
theorem kD_Mo_isSecret : ∀ q ∈ kC_Mo_isSecret, decode prog_14_method_19_code q.1 = .ok (q.2, pm_len q.1 q.2) := by decide +kernel
set_option maxRecDepth 100000 in
theorem kW_Mo_isSecret (l : Launch) (D : va_G) (base : Nat) (sa : Nat → Nat) : pm_Met l D kcl base (kZ sa) ⟨"RoutingFieldModel", "isSecret", "(I)Z"⟩ (.code ⟨"RoutingFieldModel", "isSecret", "(I)Z"⟩ prog_14_method_19_code 4 (some .boolean) :: pw_T) 0 0 (kP_Mo_isSecret base sa) := by
  refine pm_met (by decide) rfl rfl ?_
  intro mc ms p e s m args below meth c hx hb hml hown hnm hts hbs hZ
  have ht : ∀ w ∈ pw_T, w.before args s = true := fun w h => hts w (List.mem_cons_of_mem _ h)
  exact ⟨hx, hb, hown, hbs, pm_look_all kD_Mo_isSecret, kf_ok (init := false) ht hZ kF_Mo_ok (fun h => by cases h), km_ok ht kM_Mo_ok, kci_ok ht kI_Mo_ok, kli_ok ht kJ_Mo_ok, kar_ok ht hZ kA_Mo_ok,
    pm_look_all (fun _ h => absurd h List.not_mem_nil),
    hZ, kst_ok ht hZ (kS_Mo_ok sa), knar_ok ht, ktx_ok (kE_Mo_ok sa)⟩
set_option maxRecDepth 100000 in
theorem ki_Mo_linkNamed : Cond.instanceMethod ⟨"RoutingFieldModel", "linkNamed", "(J)I"⟩ ∈ pw_T := (pw_in 2548 (by decide +kernel) rfl)
set_option maxRecDepth 100000 in
theorem ks_Mo_linkNamed : Cond.selects "RoutingFieldModel" ⟨"RoutingFieldModel", "linkNamed", "(J)I"⟩ ⟨"RoutingFieldModel", "linkNamed", "(J)I"⟩ ∈ pw_T := (pw_sel 116 (q := (⟨"RoutingFieldModel", "linkNamed", "(J)I"⟩, 166)) (by decide +kernel))
set_option maxRecDepth 100000 in
theorem ko_Mo_linkNamed : Cond.code ⟨"RoutingFieldModel", "linkNamed", "(J)I"⟩ prog_14_method_20_code 4 (some .int) ∈ pw_T := (pw_in 2549 rfl rfl)
set_option maxRecDepth 100000 in
theorem kD_Mo_linkNamed : ∀ q ∈ kC_Mo_linkNamed, decode prog_14_method_20_code q.1 = .ok (q.2, pm_len q.1 q.2) := by decide +kernel
set_option maxRecDepth 100000 in
theorem kW_Mo_linkNamed (l : Launch) (D : va_G) (base : Nat) (sa : Nat → Nat) : pm_Met l D kcl base (kZ sa) ⟨"RoutingFieldModel", "linkNamed", "(J)I"⟩ (.code ⟨"RoutingFieldModel", "linkNamed", "(J)I"⟩ prog_14_method_20_code 4 (some .int) :: pw_T) 0 0 (kP_Mo_linkNamed base sa) := by
  refine pm_met (by decide) rfl rfl ?_
  intro mc ms p e s m args below meth c hx hb hml hown hnm hts hbs hZ
  have ht : ∀ w ∈ pw_T, w.before args s = true := fun w h => hts w (List.mem_cons_of_mem _ h)
  exact ⟨hx, hb, hown, hbs, pm_look_all kD_Mo_linkNamed, kf_ok (init := false) ht hZ kF_Mo_ok (fun h => by cases h), km_ok ht kM_Mo_ok, kci_ok ht kI_Mo_ok, kli_ok ht kJ_Mo_ok, kar_ok ht hZ kA_Mo_ok,
    pm_look_all (fun _ h => absurd h List.not_mem_nil),
    hZ, kst_ok ht hZ (kS_Mo_ok sa), knar_ok ht, ktx_ok (kE_Mo_ok sa)⟩
set_option maxRecDepth 100000 in
theorem ki_Mo_routerNamed : Cond.instanceMethod ⟨"RoutingFieldModel", "routerNamed", "(J)I"⟩ ∈ pw_T := (pw_in 2569 (by decide +kernel) rfl)
set_option maxRecDepth 100000 in
theorem ks_Mo_routerNamed : Cond.selects "RoutingFieldModel" ⟨"RoutingFieldModel", "routerNamed", "(J)I"⟩ ⟨"RoutingFieldModel", "routerNamed", "(J)I"⟩ ∈ pw_T := (pw_sel 121 (q := (⟨"RoutingFieldModel", "routerNamed", "(J)I"⟩, 166)) (by decide +kernel))
set_option maxRecDepth 100000 in
theorem ko_Mo_routerNamed : Cond.code ⟨"RoutingFieldModel", "routerNamed", "(J)I"⟩ prog_14_method_21_code 4 (some .int) ∈ pw_T := (pw_in 2570 rfl rfl)
set_option maxRecDepth 100000 in
theorem kD_Mo_routerNamed : ∀ q ∈ kC_Mo_routerNamed, decode prog_14_method_21_code q.1 = .ok (q.2, pm_len q.1 q.2) := by decide +kernel
set_option maxRecDepth 100000 in
theorem kW_Mo_routerNamed (l : Launch) (D : va_G) (base : Nat) (sa : Nat → Nat) : pm_Met l D kcl base (kZ sa) ⟨"RoutingFieldModel", "routerNamed", "(J)I"⟩ (.code ⟨"RoutingFieldModel", "routerNamed", "(J)I"⟩ prog_14_method_21_code 4 (some .int) :: pw_T) 0 0 (kP_Mo_routerNamed base sa) := by
  refine pm_met (by decide) rfl rfl ?_
  intro mc ms p e s m args below meth c hx hb hml hown hnm hts hbs hZ
  have ht : ∀ w ∈ pw_T, w.before args s = true := fun w h => hts w (List.mem_cons_of_mem _ h)
  exact ⟨hx, hb, hown, hbs, pm_look_all kD_Mo_routerNamed, kf_ok (init := false) ht hZ kF_Mo_ok (fun h => by cases h), km_ok ht kM_Mo_ok, kci_ok ht kI_Mo_ok, kli_ok ht kJ_Mo_ok, kar_ok ht hZ kA_Mo_ok,
    pm_look_all (fun _ h => absurd h List.not_mem_nil),
    hZ, kst_ok ht hZ (kS_Mo_ok sa), knar_ok ht, ktx_ok (kE_Mo_ok sa)⟩
set_option maxRecDepth 100000 in
theorem ki_Mo_listNamed : Cond.instanceMethod ⟨"RoutingFieldModel", "listNamed", "(J)I"⟩ ∈ pw_T := (pw_in 2907 (by decide +kernel) rfl)
set_option maxRecDepth 100000 in
theorem ks_Mo_listNamed : Cond.selects "RoutingFieldModel" ⟨"RoutingFieldModel", "listNamed", "(J)I"⟩ ⟨"RoutingFieldModel", "listNamed", "(J)I"⟩ ∈ pw_T := (pw_sel 173 (q := (⟨"RoutingFieldModel", "listNamed", "(J)I"⟩, 166)) (by decide +kernel))
set_option maxRecDepth 100000 in
theorem ko_Mo_listNamed : Cond.code ⟨"RoutingFieldModel", "listNamed", "(J)I"⟩ prog_14_method_22_code 4 (some .int) ∈ pw_T := (pw_in 2908 rfl rfl)
set_option maxRecDepth 100000 in
theorem kD_Mo_listNamed : ∀ q ∈ kC_Mo_listNamed, decode prog_14_method_22_code q.1 = .ok (q.2, pm_len q.1 q.2) := by decide +kernel
set_option maxRecDepth 100000 in
theorem kW_Mo_listNamed (l : Launch) (D : va_G) (base : Nat) (sa : Nat → Nat) : pm_Met l D kcl base (kZ sa) ⟨"RoutingFieldModel", "listNamed", "(J)I"⟩ (.code ⟨"RoutingFieldModel", "listNamed", "(J)I"⟩ prog_14_method_22_code 4 (some .int) :: pw_T) 0 0 (kP_Mo_listNamed base sa) := by
  refine pm_met (by decide) rfl rfl ?_
  intro mc ms p e s m args below meth c hx hb hml hown hnm hts hbs hZ
  have ht : ∀ w ∈ pw_T, w.before args s = true := fun w h => hts w (List.mem_cons_of_mem _ h)
  exact ⟨hx, hb, hown, hbs, pm_look_all kD_Mo_listNamed, kf_ok (init := false) ht hZ kF_Mo_ok (fun h => by cases h), km_ok ht kM_Mo_ok, kci_ok ht kI_Mo_ok, kli_ok ht kJ_Mo_ok, kar_ok ht hZ kA_Mo_ok,
    pm_look_all (fun _ h => absurd h List.not_mem_nil),
    hZ, kst_ok ht hZ (kS_Mo_ok sa), knar_ok ht, ktx_ok (kE_Mo_ok sa)⟩
set_option maxRecDepth 100000 in
theorem ki_Mo_interfaceTo : Cond.instanceMethod ⟨"RoutingFieldModel", "interfaceTo", "(II)I"⟩ ∈ pw_T := (pw_in 2610 (by decide +kernel) rfl)
set_option maxRecDepth 100000 in
theorem ks_Mo_interfaceTo : Cond.selects "RoutingFieldModel" ⟨"RoutingFieldModel", "interfaceTo", "(II)I"⟩ ⟨"RoutingFieldModel", "interfaceTo", "(II)I"⟩ ∈ pw_T := (pw_sel 128 (q := (⟨"RoutingFieldModel", "interfaceTo", "(II)I"⟩, 166)) (by decide +kernel))
set_option maxRecDepth 100000 in
theorem ko_Mo_interfaceTo : Cond.code ⟨"RoutingFieldModel", "interfaceTo", "(II)I"⟩ prog_14_method_23_code 4 (some .int) ∈ pw_T := (pw_in 2611 rfl rfl)
set_option maxRecDepth 100000 in
theorem kD_Mo_interfaceTo : ∀ q ∈ kC_Mo_interfaceTo, decode prog_14_method_23_code q.1 = .ok (q.2, pm_len q.1 q.2) := by decide +kernel
set_option maxRecDepth 100000 in
theorem kW_Mo_interfaceTo (l : Launch) (D : va_G) (base : Nat) (sa : Nat → Nat) : pm_Met l D kcl base (kZ sa) ⟨"RoutingFieldModel", "interfaceTo", "(II)I"⟩ (.code ⟨"RoutingFieldModel", "interfaceTo", "(II)I"⟩ prog_14_method_23_code 4 (some .int) :: pw_T) 0 0 (kP_Mo_interfaceTo base sa) := by
  refine pm_met (by decide) rfl rfl ?_
  intro mc ms p e s m args below meth c hx hb hml hown hnm hts hbs hZ
  have ht : ∀ w ∈ pw_T, w.before args s = true := fun w h => hts w (List.mem_cons_of_mem _ h)
  exact ⟨hx, hb, hown, hbs, pm_look_all kD_Mo_interfaceTo, kf_ok (init := false) ht hZ kF_Mo_ok (fun h => by cases h), km_ok ht kM_Mo_ok, kci_ok ht kI_Mo_ok, kli_ok ht kJ_Mo_ok, kar_ok ht hZ kA_Mo_ok,
    pm_look_all (fun _ h => absurd h List.not_mem_nil),
    hZ, kst_ok ht hZ (kS_Mo_ok sa), knar_ok ht, ktx_ok (kE_Mo_ok sa)⟩
set_option maxRecDepth 100000 in
theorem ki_Mo_plain : Cond.instanceMethod ⟨"RoutingFieldModel", "plain", "(III)I"⟩ ∈ pw_T := (pw_in 2596 (by decide +kernel) rfl)
set_option maxRecDepth 100000 in
theorem ks_Mo_plain : Cond.selects "RoutingFieldModel" ⟨"RoutingFieldModel", "plain", "(III)I"⟩ ⟨"RoutingFieldModel", "plain", "(III)I"⟩ ∈ pw_T := (pw_sel 126 (q := (⟨"RoutingFieldModel", "plain", "(III)I"⟩, 166)) (by decide +kernel))
set_option maxRecDepth 100000 in
theorem ko_Mo_plain : Cond.code ⟨"RoutingFieldModel", "plain", "(III)I"⟩ prog_14_method_24_code 7 (some .int) ∈ pw_T := (pw_in 2597 rfl rfl)
set_option maxRecDepth 100000 in
theorem kD_Mo_plain : ∀ q ∈ kC_Mo_plain, decode prog_14_method_24_code q.1 = .ok (q.2, pm_len q.1 q.2) := by decide +kernel
set_option maxRecDepth 100000 in
theorem kW_Mo_plain (l : Launch) (D : va_G) (base : Nat) (sa : Nat → Nat) : pm_Met l D kcl base (kZ sa) ⟨"RoutingFieldModel", "plain", "(III)I"⟩ (.code ⟨"RoutingFieldModel", "plain", "(III)I"⟩ prog_14_method_24_code 7 (some .int) :: pw_T) 1 24 (kP_Mo_plain base sa) := by
  refine pm_met (by decide) rfl rfl ?_
  intro mc ms p e s m args below meth c hx hb hml hown hnm hts hbs hZ
  have ht : ∀ w ∈ pw_T, w.before args s = true := fun w h => hts w (List.mem_cons_of_mem _ h)
  exact ⟨hx, hb, hown, hbs, pm_look_all kD_Mo_plain, kf_ok (init := false) ht hZ kF_Mo_ok (fun h => by cases h), km_ok ht kM_Mo_ok, kci_ok ht kI_Mo_ok, kli_ok ht kJ_Mo_ok, kar_ok ht hZ kA_Mo_ok,
    pm_look_all (List.forall_mem_cons.mpr ⟨pm_cokS hbs hZ ⟨hx, hb, hml, hown, hts⟩ (kW_Mo_isDigit l D base sa) (fun mc ms => va_cwS 1 hts (pw_gS (pw_in 2520 (w := .methodLink "RoutingFieldModel" 461 ⟨"RoutingFieldModel", "isDigit", "(I)Z"⟩) (by decide +kernel) rfl) kv_Mo_isDigit kn_Mo ko_Mo_isDigit) rfl rfl rfl (by decide +kernel) ⟨Nat.le_of_ble_eq_true rfl, Nat.le_of_ble_eq_true rfl⟩) (Nat.le_of_ble_eq_true rfl), fun _ h => absurd h List.not_mem_nil⟩),
    hZ, kst_ok ht hZ (kS_Mo_ok sa), knar_ok ht, ktx_ok (kE_Mo_ok sa)⟩
set_option maxRecDepth 100000 in
theorem ki_Mo_readFour : Cond.instanceMethod ⟨"RoutingFieldModel", "readFour", "(II)Z"⟩ ∈ pw_T := (pw_in 2592 (by decide +kernel) rfl)
set_option maxRecDepth 100000 in
theorem ks_Mo_readFour : Cond.selects "RoutingFieldModel" ⟨"RoutingFieldModel", "readFour", "(II)Z"⟩ ⟨"RoutingFieldModel", "readFour", "(II)Z"⟩ ∈ pw_T := (pw_sel 125 (q := (⟨"RoutingFieldModel", "readFour", "(II)Z"⟩, 166)) (by decide +kernel))
set_option maxRecDepth 100000 in
theorem ko_Mo_readFour : Cond.code ⟨"RoutingFieldModel", "readFour", "(II)Z"⟩ prog_14_method_25_code 9 (some .boolean) ∈ pw_T := (pw_in 2593 rfl rfl)
set_option maxRecDepth 100000 in
theorem kD_Mo_readFour_0 : ∀ q ∈ kC_Mo_readFour_0, decode prog_14_method_25_code q.1 = .ok (q.2, pm_len q.1 q.2) := by decide +kernel
set_option maxRecDepth 100000 in
theorem kD_Mo_readFour_1 : ∀ q ∈ kC_Mo_readFour_1, decode prog_14_method_25_code q.1 = .ok (q.2, pm_len q.1 q.2) := by decide +kernel
theorem kD_Mo_readFour : ∀ q ∈ kC_Mo_readFour, decode prog_14_method_25_code q.1 = .ok (q.2, pm_len q.1 q.2) := List.forall_mem_append.mpr ⟨kD_Mo_readFour_0, kD_Mo_readFour_1⟩
set_option maxRecDepth 100000 in
theorem kW_Mo_readFour (l : Launch) (D : va_G) (base : Nat) (sa : Nat → Nat) : pm_Met l D kcl base (kZ sa) ⟨"RoutingFieldModel", "readFour", "(II)Z"⟩ (.code ⟨"RoutingFieldModel", "readFour", "(II)Z"⟩ prog_14_method_25_code 9 (some .boolean) :: pw_T) 2 50 (kP_Mo_readFour base sa) := by
  refine pm_met (by decide) rfl rfl ?_
  intro mc ms p e s m args below meth c hx hb hml hown hnm hts hbs hZ
  have ht : ∀ w ∈ pw_T, w.before args s = true := fun w h => hts w (List.mem_cons_of_mem _ h)
  exact ⟨hx, hb, hown, hbs, pm_look_all kD_Mo_readFour, kf_ok (init := false) ht hZ kF_Mo_ok (fun h => by cases h), km_ok ht kM_Mo_ok, kci_ok ht kI_Mo_ok, kli_ok ht kJ_Mo_ok, kar_ok ht hZ kA_Mo_ok,
    pm_look_all (List.forall_mem_cons.mpr ⟨pm_cokV hbs hZ ⟨hx, hb, hml, hown, hts⟩ (kW_Mo_plain l D base sa) (fun mc ms => cwV 3 hts (pw_gV (pw_in 2594 (w := .methodLink "RoutingFieldModel" 483 ⟨"RoutingFieldModel", "plain", "(III)I"⟩) (by decide +kernel) rfl) ki_Mo_plain ks_Mo_plain kn_Mo ko_Mo_plain) rfl rfl rfl (by decide +kernel) ⟨Nat.le_of_ble_eq_true rfl, Nat.le_of_ble_eq_true rfl⟩) (ci := 12) rfl, fun _ h => absurd h List.not_mem_nil⟩),
    hZ, kst_ok ht hZ (kS_Mo_ok sa), knar_ok ht, ktx_ok (kE_Mo_ok sa)⟩
set_option maxRecDepth 100000 in
theorem kv_Mo_hexadecimal : Cond.static ⟨"RoutingFieldModel", "hexadecimal", "(I)I"⟩ ∈ pw_T := (pw_in 2603 (by decide +kernel) rfl)
set_option maxRecDepth 100000 in
theorem ko_Mo_hexadecimal : Cond.code ⟨"RoutingFieldModel", "hexadecimal", "(I)I"⟩ prog_14_method_26_code 1 (some .int) ∈ pw_T := (pw_in 2604 rfl rfl)
set_option maxRecDepth 100000 in
theorem kD_Mo_hexadecimal : ∀ q ∈ kC_Mo_hexadecimal, decode prog_14_method_26_code q.1 = .ok (q.2, pm_len q.1 q.2) := by decide +kernel
set_option maxRecDepth 100000 in
theorem kW_Mo_hexadecimal (l : Launch) (D : va_G) (base : Nat) (sa : Nat → Nat) : pm_Met l D kcl base (kZ sa) ⟨"RoutingFieldModel", "hexadecimal", "(I)I"⟩ (.code ⟨"RoutingFieldModel", "hexadecimal", "(I)I"⟩ prog_14_method_26_code 1 (some .int) :: pw_T) 1 24 (kP_Mo_hexadecimal base sa) := by
  refine pm_met (by decide) rfl rfl ?_
  intro mc ms p e s m args below meth c hx hb hml hown hnm hts hbs hZ
  have ht : ∀ w ∈ pw_T, w.before args s = true := fun w h => hts w (List.mem_cons_of_mem _ h)
  exact ⟨hx, hb, hown, hbs, pm_look_all kD_Mo_hexadecimal, kf_ok (init := false) ht hZ kF_Mo_ok (fun h => by cases h), km_ok ht kM_Mo_ok, kci_ok ht kI_Mo_ok, kli_ok ht kJ_Mo_ok, kar_ok ht hZ kA_Mo_ok,
    pm_look_all (List.forall_mem_cons.mpr ⟨pm_cokS hbs hZ ⟨hx, hb, hml, hown, hts⟩ (kW_Mo_isDigit l D base sa) (fun mc ms => va_cwS 1 hts (pw_gS (pw_in 2520 (w := .methodLink "RoutingFieldModel" 461 ⟨"RoutingFieldModel", "isDigit", "(I)Z"⟩) (by decide +kernel) rfl) kv_Mo_isDigit kn_Mo ko_Mo_isDigit) rfl rfl rfl (by decide +kernel) ⟨Nat.le_of_ble_eq_true rfl, Nat.le_of_ble_eq_true rfl⟩) (Nat.le_of_ble_eq_true rfl), fun _ h => absurd h List.not_mem_nil⟩),
    hZ, kst_ok ht hZ (kS_Mo_ok sa), knar_ok ht, ktx_ok (kE_Mo_ok sa)⟩
