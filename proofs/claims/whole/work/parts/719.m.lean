set_option maxRecDepth 100000 in
theorem ki_Mo_readSix : Cond.instanceMethod ⟨"RoutingFieldModel", "readSix", "(II)Z"⟩ ∈ pw_T := (pw_in 2600 (by decide +kernel) rfl)
set_option maxRecDepth 100000 in
theorem ks_Mo_readSix : Cond.selects "RoutingFieldModel" ⟨"RoutingFieldModel", "readSix", "(II)Z"⟩ ⟨"RoutingFieldModel", "readSix", "(II)Z"⟩ ∈ pw_T := (pw_sel 127 (q := (⟨"RoutingFieldModel", "readSix", "(II)Z"⟩, 166)) (by decide +kernel))
set_option maxRecDepth 100000 in
theorem ko_Mo_readSix : Cond.code ⟨"RoutingFieldModel", "readSix", "(II)Z"⟩ prog_14_method_27_code 13 (some .boolean) ∈ pw_T := (pw_in 2601 rfl rfl)
set_option maxRecDepth 100000 in
theorem kD_Mo_readSix_0 : ∀ q ∈ kC_Mo_readSix_0, decode prog_14_method_27_code q.1 = .ok (q.2, pm_len q.1 q.2) := by decide +kernel
set_option maxRecDepth 100000 in
theorem kD_Mo_readSix_1 : ∀ q ∈ kC_Mo_readSix_1, decode prog_14_method_27_code q.1 = .ok (q.2, pm_len q.1 q.2) := by decide +kernel
set_option maxRecDepth 100000 in
theorem kD_Mo_readSix_2 : ∀ q ∈ kC_Mo_readSix_2, decode prog_14_method_27_code q.1 = .ok (q.2, pm_len q.1 q.2) := by decide +kernel
set_option maxRecDepth 100000 in
theorem kD_Mo_readSix_3 : ∀ q ∈ kC_Mo_readSix_3, decode prog_14_method_27_code q.1 = .ok (q.2, pm_len q.1 q.2) := by decide +kernel
set_option maxRecDepth 100000 in
theorem kD_Mo_readSix_4 : ∀ q ∈ kC_Mo_readSix_4, decode prog_14_method_27_code q.1 = .ok (q.2, pm_len q.1 q.2) := by decide +kernel
theorem kD_Mo_readSix : ∀ q ∈ kC_Mo_readSix, decode prog_14_method_27_code q.1 = .ok (q.2, pm_len q.1 q.2) := List.forall_mem_append.mpr ⟨kD_Mo_readSix_0, List.forall_mem_append.mpr ⟨kD_Mo_readSix_1, List.forall_mem_append.mpr ⟨kD_Mo_readSix_2, List.forall_mem_append.mpr ⟨kD_Mo_readSix_3, kD_Mo_readSix_4⟩⟩⟩⟩
set_option maxRecDepth 100000 in
theorem kW_Mo_readSix (l : Launch) (D : va_G) (base : Nat) (sa : Nat → Nat) : pm_Met l D kcl base (kZ sa) ⟨"RoutingFieldModel", "readSix", "(II)Z"⟩ (.code ⟨"RoutingFieldModel", "readSix", "(II)Z"⟩ prog_14_method_27_code 13 (some .boolean) :: pw_T) 2 48 (kP_Mo_readSix base sa) := by
  refine pm_met (by decide) rfl rfl ?_
  intro mc ms p e s m args below meth c hx hb hml hown hnm hts hbs hZ
  have ht : ∀ w ∈ pw_T, w.before args s = true := fun w h => hts w (List.mem_cons_of_mem _ h)
  exact ⟨hx, hb, hown, hbs, pm_look_all kD_Mo_readSix, kf_ok (init := false) ht hZ kF_Mo_ok (fun h => by cases h), km_ok ht kM_Mo_ok, kci_ok ht kI_Mo_ok, kli_ok ht kJ_Mo_ok, kar_ok ht hZ kA_Mo_ok,
    pm_look_all (List.forall_mem_cons.mpr ⟨pm_cokS hbs hZ ⟨hx, hb, hml, hown, hts⟩ (kW_Mo_hexadecimal l D base sa) (fun mc ms => va_cwS 1 hts (pw_gS (pw_in 2602 (w := .methodLink "RoutingFieldModel" 497 ⟨"RoutingFieldModel", "hexadecimal", "(I)I"⟩) (by decide +kernel) rfl) kv_Mo_hexadecimal kn_Mo ko_Mo_hexadecimal) rfl rfl rfl (by decide +kernel) ⟨Nat.le_of_ble_eq_true rfl, Nat.le_of_ble_eq_true rfl⟩) (Nat.le_of_ble_eq_true rfl), fun _ h => absurd h List.not_mem_nil⟩),
    hZ, kst_ok ht hZ (kS_Mo_ok sa), knar_ok ht, ktx_ok (kE_Mo_ok sa)⟩
set_option maxRecDepth 100000 in
theorem ki_Mo_readAddress : Cond.instanceMethod ⟨"RoutingFieldModel", "readAddress", "(II)Z"⟩ ∈ pw_T := (pw_in 2588 (by decide +kernel) rfl)
set_option maxRecDepth 100000 in
theorem ks_Mo_readAddress : Cond.selects "RoutingFieldModel" ⟨"RoutingFieldModel", "readAddress", "(II)Z"⟩ ⟨"RoutingFieldModel", "readAddress", "(II)Z"⟩ ∈ pw_T := (pw_sel 124 (q := (⟨"RoutingFieldModel", "readAddress", "(II)Z"⟩, 166)) (by decide +kernel))
set_option maxRecDepth 100000 in
theorem ko_Mo_readAddress : Cond.code ⟨"RoutingFieldModel", "readAddress", "(II)Z"⟩ prog_14_method_28_code 3 (some .boolean) ∈ pw_T := (pw_in 2589 rfl rfl)
set_option maxRecDepth 100000 in
theorem kD_Mo_readAddress : ∀ q ∈ kC_Mo_readAddress, decode prog_14_method_28_code q.1 = .ok (q.2, pm_len q.1 q.2) := by decide +kernel
set_option maxRecDepth 100000 in
theorem kW_Mo_readAddress (l : Launch) (D : va_G) (base : Nat) (sa : Nat → Nat) : pm_Met l D kcl base (kZ sa) ⟨"RoutingFieldModel", "readAddress", "(II)Z"⟩ (.code ⟨"RoutingFieldModel", "readAddress", "(II)Z"⟩ prog_14_method_28_code 3 (some .boolean) :: pw_T) 3 80 (kP_Mo_readAddress base sa) := by
  refine pm_met (by decide) rfl rfl ?_
  intro mc ms p e s m args below meth c hx hb hml hown hnm hts hbs hZ
  have ht : ∀ w ∈ pw_T, w.before args s = true := fun w h => hts w (List.mem_cons_of_mem _ h)
  exact ⟨hx, hb, hown, hbs, pm_look_all kD_Mo_readAddress, kf_ok (init := false) ht hZ kF_Mo_ok (fun h => by cases h), km_ok ht kM_Mo_ok, kci_ok ht kI_Mo_ok, kli_ok ht kJ_Mo_ok, kar_ok ht hZ kA_Mo_ok,
    pm_look_all (List.forall_mem_cons.mpr ⟨pm_cokV hbs hZ ⟨hx, hb, hml, hown, hts⟩ (kW_Mo_readFour l D base sa) (fun mc ms => cwV 2 hts (pw_gV (pw_in 2590 (w := .methodLink "RoutingFieldModel" 500 ⟨"RoutingFieldModel", "readFour", "(II)Z"⟩) (by decide +kernel) rfl) ki_Mo_readFour ks_Mo_readFour kn_Mo ko_Mo_readFour) rfl rfl rfl (by decide +kernel) ⟨Nat.le_of_ble_eq_true rfl, Nat.le_of_ble_eq_true rfl⟩) (ci := 12) rfl, List.forall_mem_cons.mpr ⟨pm_cokV hbs hZ ⟨hx, hb, hml, hown, hts⟩ (kW_Mo_readSix l D base sa) (fun mc ms => cwV 2 hts (pw_gV (pw_in 2598 (w := .methodLink "RoutingFieldModel" 504 ⟨"RoutingFieldModel", "readSix", "(II)Z"⟩) (by decide +kernel) rfl) ki_Mo_readSix ks_Mo_readSix kn_Mo ko_Mo_readSix) rfl rfl rfl (by decide +kernel) ⟨Nat.le_of_ble_eq_true rfl, Nat.le_of_ble_eq_true rfl⟩) (ci := 12) rfl, fun _ h => absurd h List.not_mem_nil⟩⟩),
    hZ, kst_ok ht hZ (kS_Mo_ok sa), knar_ok ht, ktx_ok (kE_Mo_ok sa)⟩
set_option maxRecDepth 100000 in
theorem ki_Mo_isAddress : Cond.instanceMethod ⟨"RoutingFieldModel", "isAddress", "(I)Z"⟩ ∈ pw_T := (pw_in 2935 (by decide +kernel) rfl)
set_option maxRecDepth 100000 in
theorem ks_Mo_isAddress : Cond.selects "RoutingFieldModel" ⟨"RoutingFieldModel", "isAddress", "(I)Z"⟩ ⟨"RoutingFieldModel", "isAddress", "(I)Z"⟩ ∈ pw_T := (pw_sel 179 (q := (⟨"RoutingFieldModel", "isAddress", "(I)Z"⟩, 166)) (by decide +kernel))
set_option maxRecDepth 100000 in
theorem ko_Mo_isAddress : Cond.code ⟨"RoutingFieldModel", "isAddress", "(I)Z"⟩ prog_14_method_29_code 2 (some .boolean) ∈ pw_T := (pw_in 2936 rfl rfl)
set_option maxRecDepth 100000 in
theorem kD_Mo_isAddress : ∀ q ∈ kC_Mo_isAddress, decode prog_14_method_29_code q.1 = .ok (q.2, pm_len q.1 q.2) := by decide +kernel
set_option maxRecDepth 100000 in
theorem kW_Mo_isAddress (l : Launch) (D : va_G) (base : Nat) (sa : Nat → Nat) : pm_Met l D kcl base (kZ sa) ⟨"RoutingFieldModel", "isAddress", "(I)Z"⟩ (.code ⟨"RoutingFieldModel", "isAddress", "(I)Z"⟩ prog_14_method_29_code 2 (some .boolean) :: pw_T) 4 102 (kP_Mo_isAddress base sa) := by
  refine pm_met (by decide) rfl rfl ?_
  intro mc ms p e s m args below meth c hx hb hml hown hnm hts hbs hZ
  have ht : ∀ w ∈ pw_T, w.before args s = true := fun w h => hts w (List.mem_cons_of_mem _ h)
  exact ⟨hx, hb, hown, hbs, pm_look_all kD_Mo_isAddress, kf_ok (init := false) ht hZ kF_Mo_ok (fun h => by cases h), km_ok ht kM_Mo_ok, kci_ok ht kI_Mo_ok, kli_ok ht kJ_Mo_ok, kar_ok ht hZ kA_Mo_ok,
    pm_look_all (List.forall_mem_cons.mpr ⟨pm_cokV hbs hZ ⟨hx, hb, hml, hown, hts⟩ (kW_Mo_readAddress l D base sa) (fun mc ms => cwV 2 hts (pw_gV (pw_in 2586 (w := .methodLink "RoutingFieldModel" 507 ⟨"RoutingFieldModel", "readAddress", "(II)Z"⟩) (by decide +kernel) rfl) ki_Mo_readAddress ks_Mo_readAddress kn_Mo ko_Mo_readAddress) rfl rfl rfl (by decide +kernel) ⟨Nat.le_of_ble_eq_true rfl, Nat.le_of_ble_eq_true rfl⟩) (ci := 12) rfl, fun _ h => absurd h List.not_mem_nil⟩),
    hZ, kst_ok ht hZ (kS_Mo_ok sa), knar_ok ht, ktx_ok (kE_Mo_ok sa)⟩
set_option maxRecDepth 100000 in
theorem ki_Mo_isAddressWithLength : Cond.instanceMethod ⟨"RoutingFieldModel", "isAddressWithLength", "(I)Z"⟩ ∈ pw_T := (pw_in 2584 (by decide +kernel) rfl)
set_option maxRecDepth 100000 in
theorem ks_Mo_isAddressWithLength : Cond.selects "RoutingFieldModel" ⟨"RoutingFieldModel", "isAddressWithLength", "(I)Z"⟩ ⟨"RoutingFieldModel", "isAddressWithLength", "(I)Z"⟩ ∈ pw_T := (pw_sel 123 (q := (⟨"RoutingFieldModel", "isAddressWithLength", "(I)Z"⟩, 166)) (by decide +kernel))
set_option maxRecDepth 100000 in
theorem ko_Mo_isAddressWithLength : Cond.code ⟨"RoutingFieldModel", "isAddressWithLength", "(I)Z"⟩ prog_14_method_30_code 4 (some .boolean) ∈ pw_T := (pw_in 2585 rfl rfl)
set_option maxRecDepth 100000 in
theorem kD_Mo_isAddressWithLength : ∀ q ∈ kC_Mo_isAddressWithLength, decode prog_14_method_30_code q.1 = .ok (q.2, pm_len q.1 q.2) := by decide +kernel
set_option maxRecDepth 100000 in
theorem kW_Mo_isAddressWithLength (l : Launch) (D : va_G) (base : Nat) (sa : Nat → Nat) : pm_Met l D kcl base (kZ sa) ⟨"RoutingFieldModel", "isAddressWithLength", "(I)Z"⟩ (.code ⟨"RoutingFieldModel", "isAddressWithLength", "(I)Z"⟩ prog_14_method_30_code 4 (some .boolean) :: pw_T) 4 102 (kP_Mo_isAddressWithLength base sa) := by
  refine pm_met (by decide) rfl rfl ?_
  intro mc ms p e s m args below meth c hx hb hml hown hnm hts hbs hZ
  have ht : ∀ w ∈ pw_T, w.before args s = true := fun w h => hts w (List.mem_cons_of_mem _ h)
  exact ⟨hx, hb, hown, hbs, pm_look_all kD_Mo_isAddressWithLength, kf_ok (init := false) ht hZ kF_Mo_ok (fun h => by cases h), km_ok ht kM_Mo_ok, kci_ok ht kI_Mo_ok, kli_ok ht kJ_Mo_ok, kar_ok ht hZ kA_Mo_ok,
    pm_look_all (List.forall_mem_cons.mpr ⟨pm_cokV hbs hZ ⟨hx, hb, hml, hown, hts⟩ (kW_Mo_readAddress l D base sa) (fun mc ms => cwV 2 hts (pw_gV (pw_in 2586 (w := .methodLink "RoutingFieldModel" 507 ⟨"RoutingFieldModel", "readAddress", "(II)Z"⟩) (by decide +kernel) rfl) ki_Mo_readAddress ks_Mo_readAddress kn_Mo ko_Mo_readAddress) rfl rfl rfl (by decide +kernel) ⟨Nat.le_of_ble_eq_true rfl, Nat.le_of_ble_eq_true rfl⟩) (ci := 12) rfl, List.forall_mem_cons.mpr ⟨pm_cokS hbs hZ ⟨hx, hb, hml, hown, hts⟩ (kW_Mo_bitsOf l D base sa) (fun mc ms => va_cwS 1 hts (pw_gS (pw_in 2605 (w := .methodLink "RoutingFieldModel" 510 ⟨"RoutingFieldModel", "bitsOf", "(I)I"⟩) (by decide +kernel) rfl) kv_Mo_bitsOf kn_Mo ko_Mo_bitsOf) rfl rfl rfl (by decide +kernel) ⟨Nat.le_of_ble_eq_true rfl, Nat.le_of_ble_eq_true rfl⟩) (Nat.le_of_ble_eq_true rfl), List.forall_mem_cons.mpr ⟨pm_cokV hbs hZ ⟨hx, hb, hml, hown, hts⟩ (kW_Mo_plain l D base sa) (fun mc ms => cwV 3 hts (pw_gV (pw_in 2594 (w := .methodLink "RoutingFieldModel" 483 ⟨"RoutingFieldModel", "plain", "(III)I"⟩) (by decide +kernel) rfl) ki_Mo_plain ks_Mo_plain kn_Mo ko_Mo_plain) rfl rfl rfl (by decide +kernel) ⟨Nat.le_of_ble_eq_true rfl, Nat.le_of_ble_eq_true rfl⟩) (ci := 12) rfl, fun _ h => absurd h List.not_mem_nil⟩⟩⟩),
    hZ, kst_ok ht hZ (kS_Mo_ok sa), knar_ok ht, ktx_ok (kE_Mo_ok sa)⟩
set_option maxRecDepth 100000 in
theorem ki_Mo_isPrefixWord : Cond.instanceMethod ⟨"RoutingFieldModel", "isPrefixWord", "(I)Z"⟩ ∈ pw_T := (pw_in 2871 (by decide +kernel) rfl)
set_option maxRecDepth 100000 in
theorem ks_Mo_isPrefixWord : Cond.selects "RoutingFieldModel" ⟨"RoutingFieldModel", "isPrefixWord", "(I)Z"⟩ ⟨"RoutingFieldModel", "isPrefixWord", "(I)Z"⟩ ∈ pw_T := (pw_sel 167 (q := (⟨"RoutingFieldModel", "isPrefixWord", "(I)Z"⟩, 166)) (by decide +kernel))
set_option maxRecDepth 100000 in
theorem ko_Mo_isPrefixWord : Cond.code ⟨"RoutingFieldModel", "isPrefixWord", "(I)Z"⟩ prog_14_method_31_code 2 (some .boolean) ∈ pw_T := (pw_in 2872 rfl rfl)
set_option maxRecDepth 100000 in
theorem kD_Mo_isPrefixWord : ∀ q ∈ kC_Mo_isPrefixWord, decode prog_14_method_31_code q.1 = .ok (q.2, pm_len q.1 q.2) := by decide +kernel
set_option maxRecDepth 100000 in
theorem kW_Mo_isPrefixWord (l : Launch) (D : va_G) (base : Nat) (sa : Nat → Nat) : pm_Met l D kcl base (kZ sa) ⟨"RoutingFieldModel", "isPrefixWord", "(I)Z"⟩ (.code ⟨"RoutingFieldModel", "isPrefixWord", "(I)Z"⟩ prog_14_method_31_code 2 (some .boolean) :: pw_T) 5 125 (kP_Mo_isPrefixWord base sa) := by
  refine pm_met (by decide) rfl rfl ?_
  intro mc ms p e s m args below meth c hx hb hml hown hnm hts hbs hZ
  have ht : ∀ w ∈ pw_T, w.before args s = true := fun w h => hts w (List.mem_cons_of_mem _ h)
  exact ⟨hx, hb, hown, hbs, pm_look_all kD_Mo_isPrefixWord, kf_ok (init := false) ht hZ kF_Mo_ok (fun h => by cases h), km_ok ht kM_Mo_ok, kci_ok ht kI_Mo_ok, kli_ok ht kJ_Mo_ok, kar_ok ht hZ kA_Mo_ok,
    pm_look_all (List.forall_mem_cons.mpr ⟨pm_cokV hbs hZ ⟨hx, hb, hml, hown, hts⟩ (kW_Mo_isAddressWithLength l D base sa) (fun mc ms => cwV 1 hts (pw_gV (pw_in 2582 (w := .methodLink "RoutingFieldModel" 516 ⟨"RoutingFieldModel", "isAddressWithLength", "(I)Z"⟩) (by decide +kernel) rfl) ki_Mo_isAddressWithLength ks_Mo_isAddressWithLength kn_Mo ko_Mo_isAddressWithLength) rfl rfl rfl (by decide +kernel) ⟨Nat.le_of_ble_eq_true rfl, Nat.le_of_ble_eq_true rfl⟩) (ci := 12) rfl, List.forall_mem_cons.mpr ⟨pm_cokS hbs hZ ⟨hx, hb, hml, hown, hts⟩ (kW_Mo_isPrefix l D base sa) (fun mc ms => va_cwS 3 hts (pw_gS (pw_in 2873 (w := .methodLink "RoutingFieldModel" 519 ⟨"RoutingFieldModel", "isPrefix", "(JJI)Z"⟩) (by decide +kernel) rfl) kv_Mo_isPrefix kn_Mo ko_Mo_isPrefix) rfl rfl rfl (by decide +kernel) ⟨Nat.le_of_ble_eq_true rfl, Nat.le_of_ble_eq_true rfl⟩) (Nat.le_of_ble_eq_true rfl), fun _ h => absurd h List.not_mem_nil⟩⟩),
    hZ, kst_ok ht hZ (kS_Mo_ok sa), knar_ok ht, ktx_ok (kE_Mo_ok sa)⟩
set_option maxRecDepth 100000 in
theorem ki_Mo_fault : Cond.instanceMethod ⟨"RoutingFieldModel", "fault", "()I"⟩ ∈ pw_T := (pw_in 2497 (by decide +kernel) rfl)
set_option maxRecDepth 100000 in
theorem ks_Mo_fault : Cond.selects "RoutingFieldModel" ⟨"RoutingFieldModel", "fault", "()I"⟩ ⟨"RoutingFieldModel", "fault", "()I"⟩ ∈ pw_T := (pw_in 2498 (by decide +kernel) rfl)
set_option maxRecDepth 100000 in
theorem ko_Mo_fault : Cond.code ⟨"RoutingFieldModel", "fault", "()I"⟩ prog_14_method_32_code 1 (some .int) ∈ pw_T := (pw_in 2499 rfl rfl)
set_option maxRecDepth 100000 in
theorem kD_Mo_fault : ∀ q ∈ kC_Mo_fault, decode prog_14_method_32_code q.1 = .ok (q.2, pm_len q.1 q.2) := by decide +kernel
set_option maxRecDepth 100000 in
theorem kW_Mo_fault (l : Launch) (D : va_G) (base : Nat) (sa : Nat → Nat) : pm_Met l D kcl base (kZ sa) ⟨"RoutingFieldModel", "fault", "()I"⟩ (.code ⟨"RoutingFieldModel", "fault", "()I"⟩ prog_14_method_32_code 1 (some .int) :: pw_T) 0 0 (kP_Mo_fault base sa) := by
  refine pm_met (by decide) rfl rfl ?_
  intro mc ms p e s m args below meth c hx hb hml hown hnm hts hbs hZ
  have ht : ∀ w ∈ pw_T, w.before args s = true := fun w h => hts w (List.mem_cons_of_mem _ h)
  exact ⟨hx, hb, hown, hbs, pm_look_all kD_Mo_fault, kf_ok (init := false) ht hZ kF_Mo_ok (fun h => by cases h), km_ok ht kM_Mo_ok, kci_ok ht kI_Mo_ok, kli_ok ht kJ_Mo_ok, kar_ok ht hZ kA_Mo_ok,
    pm_look_all (fun _ h => absurd h List.not_mem_nil),
    hZ, kst_ok ht hZ (kS_Mo_ok sa), knar_ok ht, ktx_ok (kE_Mo_ok sa)⟩
set_option maxRecDepth 100000 in
theorem kv_Mo_isBlank : Cond.static ⟨"RoutingFieldModel", "isBlank", "(I)Z"⟩ ∈ pw_T := (pw_in 2509 (by decide +kernel) rfl)
set_option maxRecDepth 100000 in
theorem ko_Mo_isBlank : Cond.code ⟨"RoutingFieldModel", "isBlank", "(I)Z"⟩ prog_14_method_34_code 1 (some .boolean) ∈ pw_T := (pw_in 2510 rfl rfl)
set_option maxRecDepth 100000 in
theorem kD_Mo_isBlank : ∀ q ∈ kC_Mo_isBlank, decode prog_14_method_34_code q.1 = .ok (q.2, pm_len q.1 q.2) := by decide +kernel
set_option maxRecDepth 100000 in
theorem kW_Mo_isBlank (l : Launch) (D : va_G) (base : Nat) (sa : Nat → Nat) : pm_Met l D kcl base (kZ sa) ⟨"RoutingFieldModel", "isBlank", "(I)Z"⟩ (.code ⟨"RoutingFieldModel", "isBlank", "(I)Z"⟩ prog_14_method_34_code 1 (some .boolean) :: pw_T) 0 0 (kP_Mo_isBlank base sa) := by
  refine pm_met (by decide) rfl rfl ?_
  intro mc ms p e s m args below meth c hx hb hml hown hnm hts hbs hZ
  have ht : ∀ w ∈ pw_T, w.before args s = true := fun w h => hts w (List.mem_cons_of_mem _ h)
  exact ⟨hx, hb, hown, hbs, pm_look_all kD_Mo_isBlank, kf_ok (init := false) ht hZ kF_Mo_ok (fun h => by cases h), km_ok ht kM_Mo_ok, kci_ok ht kI_Mo_ok, kli_ok ht kJ_Mo_ok, kar_ok ht hZ kA_Mo_ok,
    pm_look_all (fun _ h => absurd h List.not_mem_nil),
    hZ, kst_ok ht hZ (kS_Mo_ok sa), knar_ok ht, ktx_ok (kE_Mo_ok sa)⟩
set_option maxRecDepth 100000 in
theorem ki_Mo_part : Cond.instanceMethod ⟨"RoutingFieldModel", "part", "(II)V"⟩ ∈ pw_T := (pw_in 2506 (by decide +kernel) rfl)
set_option maxRecDepth 100000 in
theorem ks_Mo_part : Cond.selects "RoutingFieldModel" ⟨"RoutingFieldModel", "part", "(II)V"⟩ ⟨"RoutingFieldModel", "part", "(II)V"⟩ ∈ pw_T := (pw_sel 110 (q := (⟨"RoutingFieldModel", "part", "(II)V"⟩, 166)) (by decide +kernel))
set_option maxRecDepth 100000 in
theorem ko_Mo_part : Cond.code ⟨"RoutingFieldModel", "part", "(II)V"⟩ prog_14_method_35_code 4 none ∈ pw_T := (pw_in 2507 rfl rfl)
set_option maxRecDepth 100000 in
theorem kD_Mo_part : ∀ q ∈ kC_Mo_part, decode prog_14_method_35_code q.1 = .ok (q.2, pm_len q.1 q.2) := by decide +kernel
set_option maxRecDepth 100000 in
theorem kW_Mo_part (l : Launch) (D : va_G) (base : Nat) (sa : Nat → Nat) : pm_Met l D kcl base (kZ sa) ⟨"RoutingFieldModel", "part", "(II)V"⟩ (.code ⟨"RoutingFieldModel", "part", "(II)V"⟩ prog_14_method_35_code 4 none :: pw_T) 1 24 (kP_Mo_part base sa) := by
  refine pm_met (by decide) rfl rfl ?_
  intro mc ms p e s m args below meth c hx hb hml hown hnm hts hbs hZ
  have ht : ∀ w ∈ pw_T, w.before args s = true := fun w h => hts w (List.mem_cons_of_mem _ h)
  exact ⟨hx, hb, hown, hbs, pm_look_all kD_Mo_part, kf_ok (init := false) ht hZ kF_Mo_ok (fun h => by cases h), km_ok ht kM_Mo_ok, kci_ok ht kI_Mo_ok, kli_ok ht kJ_Mo_ok, kar_ok ht hZ kA_Mo_ok,
    pm_look_all (List.forall_mem_cons.mpr ⟨pm_cokS hbs hZ ⟨hx, hb, hml, hown, hts⟩ (kW_Mo_isBlank l D base sa) (fun mc ms => va_cwS 1 hts (pw_gS (pw_in 2508 (w := .methodLink "RoutingFieldModel" 537 ⟨"RoutingFieldModel", "isBlank", "(I)Z"⟩) (by decide +kernel) rfl) kv_Mo_isBlank kn_Mo ko_Mo_isBlank) rfl rfl rfl (by decide +kernel) ⟨Nat.le_of_ble_eq_true rfl, Nat.le_of_ble_eq_true rfl⟩) (Nat.le_of_ble_eq_true rfl), fun _ h => absurd h List.not_mem_nil⟩),
    hZ, kst_ok ht hZ (kS_Mo_ok sa), knar_ok ht, ktx_ok (kE_Mo_ok sa)⟩
set_option maxRecDepth 100000 in
theorem kv_Mo_own : Cond.static ⟨"RoutingFieldModel", "own", "(J)I"⟩ ∈ pw_T := (pw_in 2536 (by decide +kernel) rfl)
set_option maxRecDepth 100000 in
theorem ko_Mo_own : Cond.code ⟨"RoutingFieldModel", "own", "(J)I"⟩ prog_14_method_38_code 2 (some .int) ∈ pw_T := (pw_in 2537 rfl rfl)
set_option maxRecDepth 100000 in
theorem kD_Mo_own : ∀ q ∈ kC_Mo_own, decode prog_14_method_38_code q.1 = .ok (q.2, pm_len q.1 q.2) := by decide +kernel
set_option maxRecDepth 100000 in
theorem kW_Mo_own (l : Launch) (D : va_G) (base : Nat) (sa : Nat → Nat) : pm_Met l D kcl base (kZ sa) ⟨"RoutingFieldModel", "own", "(J)I"⟩ (.code ⟨"RoutingFieldModel", "own", "(J)I"⟩ prog_14_method_38_code 2 (some .int) :: pw_T) 0 0 (kP_Mo_own base sa) := by
  refine pm_met (by decide) rfl rfl ?_
  intro mc ms p e s m args below meth c hx hb hml hown hnm hts hbs hZ
  have ht : ∀ w ∈ pw_T, w.before args s = true := fun w h => hts w (List.mem_cons_of_mem _ h)
  exact ⟨hx, hb, hown, hbs, pm_look_all kD_Mo_own, kf_ok (init := false) ht hZ kF_Mo_ok (fun h => by cases h), km_ok ht kM_Mo_ok, kci_ok ht kI_Mo_ok, kli_ok ht kJ_Mo_ok, kar_ok ht hZ kA_Mo_ok,
    pm_look_all (fun _ h => absurd h List.not_mem_nil),
    hZ, kst_ok ht hZ (kS_Mo_ok sa), knar_ok ht, ktx_ok (kE_Mo_ok sa)⟩
set_option maxRecDepth 100000 in
theorem ki_Mo_areOptions : Cond.instanceMethod ⟨"RoutingFieldModel", "areOptions", "(IJJJJJJ)Z"⟩ ∈ pw_T := (pw_in 2533 (by decide +kernel) rfl)
set_option maxRecDepth 100000 in
theorem ks_Mo_areOptions : Cond.selects "RoutingFieldModel" ⟨"RoutingFieldModel", "areOptions", "(IJJJJJJ)Z"⟩ ⟨"RoutingFieldModel", "areOptions", "(IJJJJJJ)Z"⟩ ∈ pw_T := (pw_sel 114 (q := (⟨"RoutingFieldModel", "areOptions", "(IJJJJJJ)Z"⟩, 166)) (by decide +kernel))
set_option maxRecDepth 100000 in
theorem ko_Mo_areOptions : Cond.code ⟨"RoutingFieldModel", "areOptions", "(IJJJJJJ)Z"⟩ prog_14_method_39_code 19 (some .boolean) ∈ pw_T := (pw_in 2534 rfl rfl)
set_option maxRecDepth 100000 in
theorem kD_Mo_areOptions_0 : ∀ q ∈ kC_Mo_areOptions_0, decode prog_14_method_39_code q.1 = .ok (q.2, pm_len q.1 q.2) := by decide +kernel
set_option maxRecDepth 100000 in
theorem kD_Mo_areOptions_1 : ∀ q ∈ kC_Mo_areOptions_1, decode prog_14_method_39_code q.1 = .ok (q.2, pm_len q.1 q.2) := by decide +kernel
theorem kD_Mo_areOptions : ∀ q ∈ kC_Mo_areOptions, decode prog_14_method_39_code q.1 = .ok (q.2, pm_len q.1 q.2) := List.forall_mem_append.mpr ⟨kD_Mo_areOptions_0, kD_Mo_areOptions_1⟩
set_option maxRecDepth 100000 in
theorem kW_Mo_areOptions (l : Launch) (D : va_G) (base : Nat) (sa : Nat → Nat) : pm_Met l D kcl base (kZ sa) ⟨"RoutingFieldModel", "areOptions", "(IJJJJJJ)Z"⟩ (.code ⟨"RoutingFieldModel", "areOptions", "(IJJJJJJ)Z"⟩ prog_14_method_39_code 19 (some .boolean) :: pw_T) 2 51 (kP_Mo_areOptions base sa) := by
  refine pm_met (by decide) rfl rfl ?_
  intro mc ms p e s m args below meth c hx hb hml hown hnm hts hbs hZ
  have ht : ∀ w ∈ pw_T, w.before args s = true := fun w h => hts w (List.mem_cons_of_mem _ h)
  exact ⟨hx, hb, hown, hbs, pm_look_all kD_Mo_areOptions, kf_ok (init := false) ht hZ kF_Mo_ok (fun h => by cases h), km_ok ht kM_Mo_ok, kci_ok ht kI_Mo_ok, kli_ok ht kJ_Mo_ok, kar_ok ht hZ kA_Mo_ok,
    pm_look_all (List.forall_mem_cons.mpr ⟨pm_cokV hbs hZ ⟨hx, hb, hml, hown, hts⟩ (kW_Mo_code l D base sa) (fun mc ms => cwV 1 hts (pw_gV (pw_in 2515 (w := .methodLink "RoutingFieldModel" 467 ⟨"RoutingFieldModel", "code", "(I)J"⟩) (by decide +kernel) rfl) ki_Mo_code ks_Mo_code kn_Mo ko_Mo_code) rfl rfl rfl (by decide +kernel) ⟨Nat.le_of_ble_eq_true rfl, Nat.le_of_ble_eq_true rfl⟩) (ci := 12) rfl, List.forall_mem_cons.mpr ⟨pm_cokS hbs hZ ⟨hx, hb, hml, hown, hts⟩ (kW_Mo_own l D base sa) (fun mc ms => va_cwS 1 hts (pw_gS (pw_in 2535 (w := .methodLink "RoutingFieldModel" 620 ⟨"RoutingFieldModel", "own", "(J)I"⟩) (by decide +kernel) rfl) kv_Mo_own kn_Mo ko_Mo_own) rfl rfl rfl (by decide +kernel) ⟨Nat.le_of_ble_eq_true rfl, Nat.le_of_ble_eq_true rfl⟩) (Nat.le_of_ble_eq_true rfl), fun _ h => absurd h List.not_mem_nil⟩⟩),
    hZ, kst_ok ht hZ (kS_Mo_ok sa), knar_ok ht, ktx_ok (kE_Mo_ok sa)⟩
set_option maxRecDepth 100000 in
theorem ki_Mo_option : Cond.instanceMethod ⟨"RoutingFieldModel", "option", "(JI)I"⟩ ∈ pw_T := (pw_in 2552 (by decide +kernel) rfl)
set_option maxRecDepth 100000 in
theorem ks_Mo_option : Cond.selects "RoutingFieldModel" ⟨"RoutingFieldModel", "option", "(JI)I"⟩ ⟨"RoutingFieldModel", "option", "(JI)I"⟩ ∈ pw_T := (pw_sel 117 (q := (⟨"RoutingFieldModel", "option", "(JI)I"⟩, 166)) (by decide +kernel))
set_option maxRecDepth 100000 in
theorem ko_Mo_option : Cond.code ⟨"RoutingFieldModel", "option", "(JI)I"⟩ prog_14_method_37_code 5 (some .int) ∈ pw_T := (pw_in 2553 rfl rfl)
set_option maxRecDepth 100000 in
theorem kD_Mo_option : ∀ q ∈ kC_Mo_option, decode prog_14_method_37_code q.1 = .ok (q.2, pm_len q.1 q.2) := by decide +kernel
set_option maxRecDepth 100000 in
theorem kW_Mo_option (l : Launch) (D : va_G) (base : Nat) (sa : Nat → Nat) : pm_Met l D kcl base (kZ sa) ⟨"RoutingFieldModel", "option", "(JI)I"⟩ (.code ⟨"RoutingFieldModel", "option", "(JI)I"⟩ prog_14_method_37_code 5 (some .int) :: pw_T) 2 51 (kP_Mo_option base sa) := by
  refine pm_met (by decide) rfl rfl ?_
  intro mc ms p e s m args below meth c hx hb hml hown hnm hts hbs hZ
  have ht : ∀ w ∈ pw_T, w.before args s = true := fun w h => hts w (List.mem_cons_of_mem _ h)
  exact ⟨hx, hb, hown, hbs, pm_look_all kD_Mo_option, kf_ok (init := false) ht hZ kF_Mo_ok (fun h => by cases h), km_ok ht kM_Mo_ok, kci_ok ht kI_Mo_ok, kli_ok ht kJ_Mo_ok, kar_ok ht hZ kA_Mo_ok,
    pm_look_all (List.forall_mem_cons.mpr ⟨pm_cokV hbs hZ ⟨hx, hb, hml, hown, hts⟩ (kW_Mo_code l D base sa) (fun mc ms => cwV 1 hts (pw_gV (pw_in 2515 (w := .methodLink "RoutingFieldModel" 467 ⟨"RoutingFieldModel", "code", "(I)J"⟩) (by decide +kernel) rfl) ki_Mo_code ks_Mo_code kn_Mo ko_Mo_code) rfl rfl rfl (by decide +kernel) ⟨Nat.le_of_ble_eq_true rfl, Nat.le_of_ble_eq_true rfl⟩) (ci := 12) rfl, List.forall_mem_cons.mpr ⟨pm_cokS hbs hZ ⟨hx, hb, hml, hown, hts⟩ (kW_Mo_own l D base sa) (fun mc ms => va_cwS 1 hts (pw_gS (pw_in 2535 (w := .methodLink "RoutingFieldModel" 620 ⟨"RoutingFieldModel", "own", "(J)I"⟩) (by decide +kernel) rfl) kv_Mo_own kn_Mo ko_Mo_own) rfl rfl rfl (by decide +kernel) ⟨Nat.le_of_ble_eq_true rfl, Nat.le_of_ble_eq_true rfl⟩) (Nat.le_of_ble_eq_true rfl), fun _ h => absurd h List.not_mem_nil⟩⟩),
    hZ, kst_ok ht hZ (kS_Mo_ok sa), knar_ok ht, ktx_ok (kE_Mo_ok sa)⟩
set_option maxRecDepth 100000 in
theorem ki_Mo_lineLink : Cond.instanceMethod ⟨"RoutingFieldModel", "lineLink", "()I"⟩ ∈ pw_T := (pw_in 2527 (by decide +kernel) rfl)
set_option maxRecDepth 100000 in
theorem ks_Mo_lineLink : Cond.selects "RoutingFieldModel" ⟨"RoutingFieldModel", "lineLink", "()I"⟩ ⟨"RoutingFieldModel", "lineLink", "()I"⟩ ∈ pw_T := (pw_sel 113 (q := (⟨"RoutingFieldModel", "lineLink", "()I"⟩, 166)) (by decide +kernel))
set_option maxRecDepth 100000 in
theorem ko_Mo_lineLink : Cond.code ⟨"RoutingFieldModel", "lineLink", "()I"⟩ prog_14_method_40_code 5 (some .int) ∈ pw_T := (pw_in 2528 rfl rfl)
set_option maxRecDepth 100000 in
theorem kD_Mo_lineLink_0 : ∀ q ∈ kC_Mo_lineLink_0, decode prog_14_method_40_code q.1 = .ok (q.2, pm_len q.1 q.2) := by decide +kernel
set_option maxRecDepth 100000 in
theorem kD_Mo_lineLink_1 : ∀ q ∈ kC_Mo_lineLink_1, decode prog_14_method_40_code q.1 = .ok (q.2, pm_len q.1 q.2) := by decide +kernel
set_option maxRecDepth 100000 in
theorem kD_Mo_lineLink_2 : ∀ q ∈ kC_Mo_lineLink_2, decode prog_14_method_40_code q.1 = .ok (q.2, pm_len q.1 q.2) := by decide +kernel
theorem kD_Mo_lineLink : ∀ q ∈ kC_Mo_lineLink, decode prog_14_method_40_code q.1 = .ok (q.2, pm_len q.1 q.2) := List.forall_mem_append.mpr ⟨kD_Mo_lineLink_0, List.forall_mem_append.mpr ⟨kD_Mo_lineLink_1, kD_Mo_lineLink_2⟩⟩
set_option maxRecDepth 100000 in
theorem kW_Mo_lineLink (l : Launch) (D : va_G) (base : Nat) (sa : Nat → Nat) : pm_Met l D kcl base (kZ sa) ⟨"RoutingFieldModel", "lineLink", "()I"⟩ (.code ⟨"RoutingFieldModel", "lineLink", "()I"⟩ prog_14_method_40_code 5 (some .int) :: pw_T) 3 89 (kP_Mo_lineLink base sa) := by
  refine pm_met (by decide) rfl rfl ?_
  intro mc ms p e s m args below meth c hx hb hml hown hnm hts hbs hZ
  have ht : ∀ w ∈ pw_T, w.before args s = true := fun w h => hts w (List.mem_cons_of_mem _ h)
  exact ⟨hx, hb, hown, hbs, pm_look_all kD_Mo_lineLink, kf_ok (init := false) ht hZ kF_Mo_ok (fun h => by cases h), km_ok ht kM_Mo_ok, kci_ok ht kI_Mo_ok, kli_ok ht kJ_Mo_ok, kar_ok ht hZ kA_Mo_ok,
    pm_look_all (List.forall_mem_cons.mpr ⟨pm_cokV hbs hZ ⟨hx, hb, hml, hown, hts⟩ (kW_Mo_areOptions l D base sa) (fun mc ms => cwV 7 hts (pw_gV (pw_in 2531 (w := .methodLink "RoutingFieldModel" 636 ⟨"RoutingFieldModel", "areOptions", "(IJJJJJJ)Z"⟩) (by decide +kernel) rfl) ki_Mo_areOptions ks_Mo_areOptions kn_Mo ko_Mo_areOptions) rfl rfl rfl (by decide +kernel) ⟨Nat.le_of_ble_eq_true rfl, Nat.le_of_ble_eq_true rfl⟩) (ci := 12) rfl, List.forall_mem_cons.mpr ⟨pm_cokV hbs hZ ⟨hx, hb, hml, hown, hts⟩ (kW_Mo_name l D base sa) (fun mc ms => cwV 1 hts (pw_gV (pw_in 2542 (w := .methodLink "RoutingFieldModel" 640 ⟨"RoutingFieldModel", "name", "(I)J"⟩) (by decide +kernel) rfl) ki_Mo_name ks_Mo_name kn_Mo ko_Mo_name) rfl rfl rfl (by decide +kernel) ⟨Nat.le_of_ble_eq_true rfl, Nat.le_of_ble_eq_true rfl⟩) (ci := 12) rfl, List.forall_mem_cons.mpr ⟨pm_cokV hbs hZ ⟨hx, hb, hml, hown, hts⟩ (kW_Mo_linkNamed l D base sa) (fun mc ms => cwV 1 hts (pw_gV (pw_in 2546 (w := .methodLink "RoutingFieldModel" 643 ⟨"RoutingFieldModel", "linkNamed", "(J)I"⟩) (by decide +kernel) rfl) ki_Mo_linkNamed ks_Mo_linkNamed kn_Mo ko_Mo_linkNamed) rfl rfl rfl (by decide +kernel) ⟨Nat.le_of_ble_eq_true rfl, Nat.le_of_ble_eq_true rfl⟩) (ci := 12) rfl, List.forall_mem_cons.mpr ⟨pm_cokV hbs hZ ⟨hx, hb, hml, hown, hts⟩ (kW_Mo_option l D base sa) (fun mc ms => cwV 2 hts (pw_gV (pw_in 2550 (w := .methodLink "RoutingFieldModel" 646 ⟨"RoutingFieldModel", "option", "(JI)I"⟩) (by decide +kernel) rfl) ki_Mo_option ks_Mo_option kn_Mo ko_Mo_option) rfl rfl rfl (by decide +kernel) ⟨Nat.le_of_ble_eq_true rfl, Nat.le_of_ble_eq_true rfl⟩) (ci := 12) rfl, List.forall_mem_cons.mpr ⟨pm_cokV hbs hZ ⟨hx, hb, hml, hown, hts⟩ (kW_Mo_isNumber l D base sa) (fun mc ms => cwV 3 hts (pw_gV (pw_in 2554 (w := .methodLink "RoutingFieldModel" 650 ⟨"RoutingFieldModel", "isNumber", "(III)Z"⟩) (by decide +kernel) rfl) ki_Mo_isNumber ks_Mo_isNumber kn_Mo ko_Mo_isNumber) rfl rfl rfl (by decide +kernel) ⟨Nat.le_of_ble_eq_true rfl, Nat.le_of_ble_eq_true rfl⟩) (ci := 12) rfl, List.forall_mem_cons.mpr ⟨pm_cokV hbs hZ ⟨hx, hb, hml, hown, hts⟩ (kW_Mo_number l D base sa) (fun mc ms => cwV 1 hts (pw_gV (pw_in 2558 (w := .methodLink "RoutingFieldModel" 470 ⟨"RoutingFieldModel", "number", "(I)I"⟩) (by decide +kernel) rfl) ki_Mo_number ks_Mo_number kn_Mo ko_Mo_number) rfl rfl rfl (by decide +kernel) ⟨Nat.le_of_ble_eq_true rfl, Nat.le_of_ble_eq_true rfl⟩) (ci := 12) rfl, fun _ h => absurd h List.not_mem_nil⟩⟩⟩⟩⟩⟩),
    hZ, kst_ok ht hZ (kS_Mo_ok sa), knar_ok ht, ktx_ok (kE_Mo_ok sa)⟩
