set_option maxRecDepth 100000 in
theorem ki_Re_hasOptions : Cond.instanceMethod ⟨"RoutingField$Reader", "hasOptions", "(ILjava/lang/String;Ljava/lang/String;)Z"⟩ ∈ pw_T := (pw_in 462 (by decide +kernel) rfl)
set_option maxRecDepth 100000 in
theorem ks_Re_hasOptions : Cond.selects "RoutingField$Reader" ⟨"RoutingField$Reader", "hasOptions", "(ILjava/lang/String;Ljava/lang/String;)Z"⟩ ⟨"RoutingField$Reader", "hasOptions", "(ILjava/lang/String;Ljava/lang/String;)Z"⟩ ∈ pw_T := (pw_sel 4 (q := (⟨"RoutingField$Reader", "hasOptions", "(ILjava/lang/String;Ljava/lang/String;)Z"⟩, 12)) (by decide +kernel))
set_option maxRecDepth 100000 in
theorem ko_Re_hasOptions : Cond.code ⟨"RoutingField$Reader", "hasOptions", "(ILjava/lang/String;Ljava/lang/String;)Z"⟩ prog_9_method_16_code 5 (some .boolean) ∈ pw_T := (pw_in 463 rfl rfl)
set_option maxRecDepth 100000 in
theorem kD_Re_hasOptions_0 : ∀ q ∈ kC_Re_hasOptions_0, decode prog_9_method_16_code q.1 = .ok (q.2, pm_len q.1 q.2) := by decide +kernel
set_option maxRecDepth 100000 in
theorem kD_Re_hasOptions_1 : ∀ q ∈ kC_Re_hasOptions_1, decode prog_9_method_16_code q.1 = .ok (q.2, pm_len q.1 q.2) := by decide +kernel
theorem kD_Re_hasOptions : ∀ q ∈ kC_Re_hasOptions, decode prog_9_method_16_code q.1 = .ok (q.2, pm_len q.1 q.2) := List.forall_mem_append.mpr ⟨kD_Re_hasOptions_0, kD_Re_hasOptions_1⟩
set_option maxRecDepth 100000 in
theorem kW_Re_hasOptions (l : Launch) (D : va_G) (base : Nat) (sa : Nat → Nat) : pm_Met l D kcl base (kZ sa) ⟨"RoutingField$Reader", "hasOptions", "(ILjava/lang/String;Ljava/lang/String;)Z"⟩ (.code ⟨"RoutingField$Reader", "hasOptions", "(ILjava/lang/String;Ljava/lang/String;)Z"⟩ prog_9_method_16_code 5 (some .boolean) :: pw_T) 6 145 (kP_Re_hasOptions base sa) := by
  refine pm_met (by decide) rfl rfl ?_
  intro mc ms p e s m args below meth c hx hb hml hown hnm hts hbs hZ
  have ht : ∀ w ∈ pw_T, w.before args s = true := fun w h => hts w (List.mem_cons_of_mem _ h)
  exact ⟨hx, hb, hown, hbs, pm_look_all kD_Re_hasOptions, kf_ok (init := false) ht hZ kF_Re_ok (fun h => by cases h), km_ok ht kM_Re_ok, kci_ok ht kI_Re_ok, kli_ok ht kJ_Re_ok, kar_ok ht hZ kA_Re_ok,
    pm_look_all (List.forall_mem_cons.mpr ⟨pm_cokV hbs hZ ⟨hx, hb, hml, hown, hts⟩ (kW_Re_is l D base sa) (fun mc ms => cwV 2 hts (pw_gV (pw_in 398 (w := .methodLink "RoutingField$Reader" 76 ⟨"RoutingField$Reader", "is", "(ILjava/lang/String;)Z"⟩) (by decide +kernel) rfl) ki_Re_is ks_Re_is kn_Re ko_Re_is) rfl rfl rfl (by decide +kernel) ⟨Nat.le_of_ble_eq_true rfl, Nat.le_of_ble_eq_true rfl⟩) (ci := 7) rfl, fun _ h => absurd h List.not_mem_nil⟩),
    hZ, kst_ok ht hZ (kS_Re_ok sa), knar_ok ht, ktx_ok (kE_Re_ok sa)⟩
set_option maxRecDepth 100000 in
theorem ki_Re_isName : Cond.instanceMethod ⟨"RoutingField$Reader", "isName", "(I)Z"⟩ ∈ pw_T := (pw_in 466 (by decide +kernel) rfl)
set_option maxRecDepth 100000 in
theorem ks_Re_isName : Cond.selects "RoutingField$Reader" ⟨"RoutingField$Reader", "isName", "(I)Z"⟩ ⟨"RoutingField$Reader", "isName", "(I)Z"⟩ ∈ pw_T := (pw_sel 5 (q := (⟨"RoutingField$Reader", "isName", "(I)Z"⟩, 12)) (by decide +kernel))
set_option maxRecDepth 100000 in
theorem ko_Re_isName : Cond.code ⟨"RoutingField$Reader", "isName", "(I)Z"⟩ prog_9_method_6_code 4 (some .boolean) ∈ pw_T := (pw_in 467 rfl rfl)
set_option maxRecDepth 100000 in
theorem kD_Re_isName : ∀ q ∈ kC_Re_isName, decode prog_9_method_6_code q.1 = .ok (q.2, pm_len q.1 q.2) := by decide +kernel
set_option maxRecDepth 100000 in
theorem kW_Re_isName (l : Launch) (D : va_G) (base : Nat) (sa : Nat → Nat) : pm_Met l D kcl base (kZ sa) ⟨"RoutingField$Reader", "isName", "(I)Z"⟩ (.code ⟨"RoutingField$Reader", "isName", "(I)Z"⟩ prog_9_method_6_code 4 (some .boolean) :: pw_T) 1 21 (kP_Re_isName base sa) := by
  refine pm_met (by decide) rfl rfl ?_
  intro mc ms p e s m args below meth c hx hb hml hown hnm hts hbs hZ
  have ht : ∀ w ∈ pw_T, w.before args s = true := fun w h => hts w (List.mem_cons_of_mem _ h)
  exact ⟨hx, hb, hown, hbs, pm_look_all kD_Re_isName, kf_ok (init := false) ht hZ kF_Re_ok (fun h => by cases h), km_ok ht kM_Re_ok, kci_ok ht kI_Re_ok, kli_ok ht kJ_Re_ok, kar_ok ht hZ kA_Re_ok,
    pm_look_all (List.forall_mem_cons.mpr ⟨pm_cokV hbs hZ ⟨hx, hb, hml, hown, hts⟩ (kW_Re_isWord l D base sa) (fun mc ms => cwV 1 hts (pw_gV (pw_in 402 (w := .methodLink "RoutingField$Reader" 159 ⟨"RoutingField$Reader", "isWord", "(I)Z"⟩) (by decide +kernel) rfl) ki_Re_isWord ks_Re_isWord kn_Re ko_Re_isWord) rfl rfl rfl (by decide +kernel) ⟨Nat.le_of_ble_eq_true rfl, Nat.le_of_ble_eq_true rfl⟩) (ci := 7) rfl, List.forall_mem_cons.mpr ⟨pm_cokV hbs hZ ⟨hx, hb, hml, hown, hts⟩ (kW_By_at l D base sa) (fun mc ms => cwV 1 hts (pw_gV (pw_in 396 (w := .methodLink "RoutingField$Reader" 68 ⟨"RoutingField$Bytes", "at", "(I)I"⟩) (by decide +kernel) rfl) ki_By_at ks_By_at kn_By ko_By_at) rfl rfl rfl (by decide +kernel) ⟨Nat.le_of_ble_eq_true rfl, Nat.le_of_ble_eq_true rfl⟩) (ci := 0) rfl, fun _ h => absurd h List.not_mem_nil⟩⟩),
    hZ, kst_ok ht hZ (kS_Re_ok sa), knar_ok ht, ktx_ok (kE_Re_ok sa)⟩
set_option maxRecDepth 100000 in
theorem ki_Re_linkNamed : Cond.instanceMethod ⟨"RoutingField$Reader", "linkNamed", "(I)I"⟩ ∈ pw_T := (pw_in 470 (by decide +kernel) rfl)
set_option maxRecDepth 100000 in
theorem ks_Re_linkNamed : Cond.selects "RoutingField$Reader" ⟨"RoutingField$Reader", "linkNamed", "(I)I"⟩ ⟨"RoutingField$Reader", "linkNamed", "(I)I"⟩ ∈ pw_T := (pw_sel 6 (q := (⟨"RoutingField$Reader", "linkNamed", "(I)I"⟩, 12)) (by decide +kernel))
set_option maxRecDepth 100000 in
theorem ko_Re_linkNamed : Cond.code ⟨"RoutingField$Reader", "linkNamed", "(I)I"⟩ prog_9_method_11_code 3 (some .int) ∈ pw_T := (pw_in 471 rfl rfl)
set_option maxRecDepth 100000 in
theorem kD_Re_linkNamed : ∀ q ∈ kC_Re_linkNamed, decode prog_9_method_11_code q.1 = .ok (q.2, pm_len q.1 q.2) := by decide +kernel
set_option maxRecDepth 100000 in
theorem kW_Re_linkNamed (l : Launch) (D : va_G) (base : Nat) (sa : Nat → Nat) : pm_Met l D kcl base (kZ sa) ⟨"RoutingField$Reader", "linkNamed", "(I)I"⟩ (.code ⟨"RoutingField$Reader", "linkNamed", "(I)I"⟩ prog_9_method_11_code 3 (some .int) :: pw_T) 6 145 (kP_Re_linkNamed base sa) := by
  refine pm_met (by decide) rfl rfl ?_
  intro mc ms p e s m args below meth c hx hb hml hown hnm hts hbs hZ
  have ht : ∀ w ∈ pw_T, w.before args s = true := fun w h => hts w (List.mem_cons_of_mem _ h)
  exact ⟨hx, hb, hown, hbs, pm_look_all kD_Re_linkNamed, kf_ok (init := false) ht hZ kF_Re_ok (fun h => by cases h), km_ok ht kM_Re_ok, kci_ok ht kI_Re_ok, kli_ok ht kJ_Re_ok, kar_ok ht hZ kA_Re_ok,
    pm_look_all (List.forall_mem_cons.mpr ⟨pm_cokV hbs hZ ⟨hx, hb, hml, hown, hts⟩ (kW_Re_is l D base sa) (fun mc ms => cwV 2 hts (pw_gV (pw_in 398 (w := .methodLink "RoutingField$Reader" 76 ⟨"RoutingField$Reader", "is", "(ILjava/lang/String;)Z"⟩) (by decide +kernel) rfl) ki_Re_is ks_Re_is kn_Re ko_Re_is) rfl rfl rfl (by decide +kernel) ⟨Nat.le_of_ble_eq_true rfl, Nat.le_of_ble_eq_true rfl⟩) (ci := 7) rfl, fun _ h => absurd h List.not_mem_nil⟩),
    hZ, kst_ok ht hZ (kS_Re_ok sa), knar_ok ht, ktx_ok (kE_Re_ok sa)⟩
set_option maxRecDepth 100000 in
theorem ki_Re_number : Cond.instanceMethod ⟨"RoutingField$Reader", "number", "(III)I"⟩ ∈ pw_T := (pw_in 474 (by decide +kernel) rfl)
set_option maxRecDepth 100000 in
theorem ks_Re_number : Cond.selects "RoutingField$Reader" ⟨"RoutingField$Reader", "number", "(III)I"⟩ ⟨"RoutingField$Reader", "number", "(III)I"⟩ ∈ pw_T := (pw_sel 7 (q := (⟨"RoutingField$Reader", "number", "(III)I"⟩, 12)) (by decide +kernel))
set_option maxRecDepth 100000 in
theorem ko_Re_number : Cond.code ⟨"RoutingField$Reader", "number", "(III)I"⟩ prog_9_method_8_code 7 (some .int) ∈ pw_T := (pw_in 475 rfl rfl)
set_option maxRecDepth 100000 in
theorem kD_Re_number_0 : ∀ q ∈ kC_Re_number_0, decode prog_9_method_8_code q.1 = .ok (q.2, pm_len q.1 q.2) := by decide +kernel
set_option maxRecDepth 100000 in
theorem kD_Re_number_1 : ∀ q ∈ kC_Re_number_1, decode prog_9_method_8_code q.1 = .ok (q.2, pm_len q.1 q.2) := by decide +kernel
theorem kD_Re_number : ∀ q ∈ kC_Re_number, decode prog_9_method_8_code q.1 = .ok (q.2, pm_len q.1 q.2) := List.forall_mem_append.mpr ⟨kD_Re_number_0, kD_Re_number_1⟩
set_option maxRecDepth 100000 in
theorem kW_Re_number (l : Launch) (D : va_G) (base : Nat) (sa : Nat → Nat) : pm_Met l D kcl base (kZ sa) ⟨"RoutingField$Reader", "number", "(III)I"⟩ (.code ⟨"RoutingField$Reader", "number", "(III)I"⟩ prog_9_method_8_code 7 (some .int) :: pw_T) 1 21 (kP_Re_number base sa) := by
  refine pm_met (by decide) rfl rfl ?_
  intro mc ms p e s m args below meth c hx hb hml hown hnm hts hbs hZ
  have ht : ∀ w ∈ pw_T, w.before args s = true := fun w h => hts w (List.mem_cons_of_mem _ h)
  exact ⟨hx, hb, hown, hbs, pm_look_all kD_Re_number, kf_ok (init := false) ht hZ kF_Re_ok (fun h => by cases h), km_ok ht kM_Re_ok, kci_ok ht kI_Re_ok, kli_ok ht kJ_Re_ok, kar_ok ht hZ kA_Re_ok,
    pm_look_all (List.forall_mem_cons.mpr ⟨pm_cokV hbs hZ ⟨hx, hb, hml, hown, hts⟩ (kW_Re_isWord l D base sa) (fun mc ms => cwV 1 hts (pw_gV (pw_in 402 (w := .methodLink "RoutingField$Reader" 159 ⟨"RoutingField$Reader", "isWord", "(I)Z"⟩) (by decide +kernel) rfl) ki_Re_isWord ks_Re_isWord kn_Re ko_Re_isWord) rfl rfl rfl (by decide +kernel) ⟨Nat.le_of_ble_eq_true rfl, Nat.le_of_ble_eq_true rfl⟩) (ci := 7) rfl, List.forall_mem_cons.mpr ⟨pm_cokV hbs hZ ⟨hx, hb, hml, hown, hts⟩ (kW_By_at l D base sa) (fun mc ms => cwV 1 hts (pw_gV (pw_in 396 (w := .methodLink "RoutingField$Reader" 68 ⟨"RoutingField$Bytes", "at", "(I)I"⟩) (by decide +kernel) rfl) ki_By_at ks_By_at kn_By ko_By_at) rfl rfl rfl (by decide +kernel) ⟨Nat.le_of_ble_eq_true rfl, Nat.le_of_ble_eq_true rfl⟩) (ci := 0) rfl, fun _ h => absurd h List.not_mem_nil⟩⟩),
    hZ, kst_ok ht hZ (kS_Re_ok sa), knar_ok ht, ktx_ok (kE_Re_ok sa)⟩
set_option maxRecDepth 100000 in
theorem kv_S2_compress2 : Cond.static ⟨"java/lang/StringUTF16", "compress", "([CI[BII)I"⟩ ∈ pw_T := (pw_in 500 (by decide +kernel) rfl)
set_option maxRecDepth 100000 in
theorem ko_S2_compress2 : Cond.code ⟨"java/lang/StringUTF16", "compress", "([CI[BII)I"⟩ prog_21_method_21_code 7 (some .int) ∈ pw_T := (pw_in 501 rfl rfl)
set_option maxRecDepth 100000 in
theorem kD_S2_compress2 : ∀ q ∈ kC_S2_compress2, decode prog_21_method_21_code q.1 = .ok (q.2, pm_len q.1 q.2) := by decide +kernel
set_option maxRecDepth 100000 in
theorem kW_S2_compress2 (l : Launch) (D : va_G) (base : Nat) (sa : Nat → Nat) : pm_Met l D kcl base (kZ sa) ⟨"java/lang/StringUTF16", "compress", "([CI[BII)I"⟩ (.code ⟨"java/lang/StringUTF16", "compress", "([CI[BII)I"⟩ prog_21_method_21_code 7 (some .int) :: pw_T) 0 0 (kP_S2_compress2 base sa) := by
  refine pm_met (by decide) rfl rfl ?_
  intro mc ms p e s m args below meth c hx hb hml hown hnm hts hbs hZ
  have ht : ∀ w ∈ pw_T, w.before args s = true := fun w h => hts w (List.mem_cons_of_mem _ h)
  exact ⟨hx, hb, hown, hbs, pm_look_all kD_S2_compress2, kf_ok (init := false) ht hZ kF_S2_ok (fun h => by cases h), km_ok ht kM_S2_ok, kci_ok ht kI_S2_ok, kli_ok ht kJ_S2_ok, kar_ok ht hZ kA_S2_ok,
    pm_look_all (fun _ h => absurd h List.not_mem_nil),
    hZ, kst_ok ht hZ (kS_S2_ok sa), knar_ok ht, ktx_ok (kE_S2_ok sa)⟩
set_option maxRecDepth 100000 in
theorem kv_S2_newBytesLength : Cond.static ⟨"java/lang/StringUTF16", "newBytesLength", "(I)I"⟩ ∈ pw_T := (pw_in 509 (by decide +kernel) rfl)
set_option maxRecDepth 100000 in
theorem ko_S2_newBytesLength : Cond.code ⟨"java/lang/StringUTF16", "newBytesLength", "(I)I"⟩ prog_21_method_3_code 1 (some .int) ∈ pw_T := (pw_in 510 rfl rfl)
set_option maxRecDepth 100000 in
theorem kD_S2_newBytesLength : ∀ q ∈ kC_S2_newBytesLength, decode prog_21_method_3_code q.1 = .ok (q.2, pm_len q.1 q.2) := by decide +kernel
set_option maxRecDepth 100000 in
theorem kW_S2_newBytesLength (l : Launch) (D : va_G) (base : Nat) (sa : Nat → Nat) : pm_Met l D kcl base (kZ sa) ⟨"java/lang/StringUTF16", "newBytesLength", "(I)I"⟩ (.code ⟨"java/lang/StringUTF16", "newBytesLength", "(I)I"⟩ prog_21_method_3_code 1 (some .int) :: pw_T) 0 0 (kP_S2_newBytesLength base sa) := by
  refine pm_met (by decide) rfl rfl ?_
  intro mc ms p e s m args below meth c hx hb hml hown hnm hts hbs hZ
  have ht : ∀ w ∈ pw_T, w.before args s = true := fun w h => hts w (List.mem_cons_of_mem _ h)
  exact ⟨hx, hb, hown, hbs, pm_look_all kD_S2_newBytesLength, kf_ok (init := false) ht hZ kF_S2_ok (fun h => by cases h), km_ok ht kM_S2_ok, kci_ok ht kI_S2_ok, kli_ok ht kJ_S2_ok, kar_ok ht hZ kA_S2_ok,
    pm_look_all (fun _ h => absurd h List.not_mem_nil),
    hZ, kst_ok ht hZ (kS_S2_ok sa), knar_ok ht, ktx_ok (kE_S2_ok sa)⟩
set_option maxRecDepth 100000 in
theorem kv_S2_newBytesFor : Cond.static ⟨"java/lang/StringUTF16", "newBytesFor", "(I)[B"⟩ ∈ pw_T := (pw_in 506 (by decide +kernel) rfl)
set_option maxRecDepth 100000 in
theorem ko_S2_newBytesFor : Cond.code ⟨"java/lang/StringUTF16", "newBytesFor", "(I)[B"⟩ prog_21_method_2_code 1 (some (.array .byte)) ∈ pw_T := (pw_in 507 rfl rfl)
set_option maxRecDepth 100000 in
theorem kD_S2_newBytesFor : ∀ q ∈ kC_S2_newBytesFor, decode prog_21_method_2_code q.1 = .ok (q.2, pm_len q.1 q.2) := by decide +kernel
set_option maxRecDepth 100000 in
theorem kW_S2_newBytesFor (l : Launch) (D : va_G) (base : Nat) (sa : Nat → Nat) : pm_Met l D kcl base (kZ sa) ⟨"java/lang/StringUTF16", "newBytesFor", "(I)[B"⟩ (.code ⟨"java/lang/StringUTF16", "newBytesFor", "(I)[B"⟩ prog_21_method_2_code 1 (some (.array .byte)) :: pw_T) 1 24 (kP_S2_newBytesFor base sa) := by
  refine pm_met (by decide) rfl rfl ?_
  intro mc ms p e s m args below meth c hx hb hml hown hnm hts hbs hZ
  have ht : ∀ w ∈ pw_T, w.before args s = true := fun w h => hts w (List.mem_cons_of_mem _ h)
  exact ⟨hx, hb, hown, hbs, pm_look_all kD_S2_newBytesFor, kf_ok (init := false) ht hZ kF_S2_ok (fun h => by cases h), km_ok ht kM_S2_ok, kci_ok ht kI_S2_ok, kli_ok ht kJ_S2_ok, kar_ok ht hZ kA_S2_ok,
    pm_look_all (List.forall_mem_cons.mpr ⟨pm_cokS hbs hZ ⟨hx, hb, hml, hown, hts⟩ (kW_S2_newBytesLength l D base sa) (fun mc ms => va_cwS 1 hts (pw_gS (pw_in 508 (w := .methodLink "java/lang/StringUTF16" 11 ⟨"java/lang/StringUTF16", "newBytesLength", "(I)I"⟩) (by decide +kernel) rfl) kv_S2_newBytesLength kn_S2 ko_S2_newBytesLength) rfl rfl rfl (by decide +kernel) ⟨Nat.le_of_ble_eq_true rfl, Nat.le_of_ble_eq_true rfl⟩) (Nat.le_of_ble_eq_true rfl), fun _ h => absurd h List.not_mem_nil⟩),
    hZ, kst_ok ht hZ (kS_S2_ok sa), knar_ok ht, ktx_ok (kE_S2_ok sa)⟩
set_option maxRecDepth 100000 in
theorem kv_S2_putChar : Cond.static ⟨"java/lang/StringUTF16", "putChar", "([BII)V"⟩ ∈ pw_T := (pw_in 513 (by decide +kernel) rfl)
set_option maxRecDepth 100000 in
theorem ko_S2_putChar : Cond.code ⟨"java/lang/StringUTF16", "putChar", "([BII)V"⟩ prog_21_method_4_code 3 none ∈ pw_T := (pw_in 514 rfl rfl)
set_option maxRecDepth 100000 in
theorem kD_S2_putChar : ∀ q ∈ kC_S2_putChar, decode prog_21_method_4_code q.1 = .ok (q.2, pm_len q.1 q.2) := by decide +kernel
set_option maxRecDepth 100000 in
theorem kW_S2_putChar (l : Launch) (D : va_G) (base : Nat) (sa : Nat → Nat) : pm_Met l D kcl base (kZ sa) ⟨"java/lang/StringUTF16", "putChar", "([BII)V"⟩ (.code ⟨"java/lang/StringUTF16", "putChar", "([BII)V"⟩ prog_21_method_4_code 3 none :: pw_T) 1 24 (kP_S2_putChar base sa) := by
  refine pm_met (by decide) rfl rfl ?_
  intro mc ms p e s m args below meth c hx hb hml hown hnm hts hbs hZ
  have ht : ∀ w ∈ pw_T, w.before args s = true := fun w h => hts w (List.mem_cons_of_mem _ h)
  exact ⟨hx, hb, hown, hbs, pm_look_all kD_S2_putChar, kf_ok (init := false) ht hZ kF_S2_ok (fun h => by cases h), km_ok ht kM_S2_ok, kci_ok ht kI_S2_ok, kli_ok ht kJ_S2_ok, kar_ok ht hZ kA_S2_ok,
    pm_look_all (List.forall_mem_cons.mpr ⟨pm_cokS hbs hZ ⟨hx, hb, hml, hown, hts⟩ (kW_S2_length l D base sa) (fun mc ms => va_cwS 1 hts (pw_gS (pw_in 441 (w := .methodLink "java/lang/StringUTF16" 48 ⟨"java/lang/StringUTF16", "length", "([B)I"⟩) (by decide +kernel) rfl) kv_S2_length kn_S2 ko_S2_length) rfl rfl rfl (by decide +kernel) ⟨Nat.le_of_ble_eq_true rfl, Nat.le_of_ble_eq_true rfl⟩) (Nat.le_of_ble_eq_true rfl), fun _ h => absurd h List.not_mem_nil⟩),
    hZ, kst_ok ht hZ (kS_S2_ok sa), knar_ok ht, ktx_ok (kE_S2_ok sa)⟩
set_option maxRecDepth 100000 in
theorem kv_S2_toBytes : Cond.static ⟨"java/lang/StringUTF16", "toBytes", "([CII)[B"⟩ ∈ pw_T := (pw_in 503 (by decide +kernel) rfl)
set_option maxRecDepth 100000 in
theorem ko_S2_toBytes : Cond.code ⟨"java/lang/StringUTF16", "toBytes", "([CII)[B"⟩ prog_21_method_14_code 5 (some (.array .byte)) ∈ pw_T := (pw_in 504 rfl rfl)
set_option maxRecDepth 100000 in
theorem kD_S2_toBytes : ∀ q ∈ kC_S2_toBytes, decode prog_21_method_14_code q.1 = .ok (q.2, pm_len q.1 q.2) := by decide +kernel
set_option maxRecDepth 100000 in
theorem kW_S2_toBytes (l : Launch) (D : va_G) (base : Nat) (sa : Nat → Nat) : pm_Met l D kcl base (kZ sa) ⟨"java/lang/StringUTF16", "toBytes", "([CII)[B"⟩ (.code ⟨"java/lang/StringUTF16", "toBytes", "([CII)[B"⟩ prog_21_method_14_code 5 (some (.array .byte)) :: pw_T) 2 50 (kP_S2_toBytes base sa) := by
  refine pm_met (by decide) rfl rfl ?_
  intro mc ms p e s m args below meth c hx hb hml hown hnm hts hbs hZ
  have ht : ∀ w ∈ pw_T, w.before args s = true := fun w h => hts w (List.mem_cons_of_mem _ h)
  exact ⟨hx, hb, hown, hbs, pm_look_all kD_S2_toBytes, kf_ok (init := false) ht hZ kF_S2_ok (fun h => by cases h), km_ok ht kM_S2_ok, kci_ok ht kI_S2_ok, kli_ok ht kJ_S2_ok, kar_ok ht hZ kA_S2_ok,
    pm_look_all (List.forall_mem_cons.mpr ⟨pm_cokS hbs hZ ⟨hx, hb, hml, hown, hts⟩ (kW_S2_newBytesFor l D base sa) (fun mc ms => va_cwS 1 hts (pw_gS (pw_in 505 (w := .methodLink "java/lang/StringUTF16" 107 ⟨"java/lang/StringUTF16", "newBytesFor", "(I)[B"⟩) (by decide +kernel) rfl) kv_S2_newBytesFor kn_S2 ko_S2_newBytesFor) rfl rfl rfl (by decide +kernel) ⟨Nat.le_of_ble_eq_true rfl, Nat.le_of_ble_eq_true rfl⟩) (Nat.le_of_ble_eq_true rfl), List.forall_mem_cons.mpr ⟨pm_cokS hbs hZ ⟨hx, hb, hml, hown, hts⟩ (kW_S2_putChar l D base sa) (fun mc ms => va_cwS 3 hts (pw_gS (pw_in 512 (w := .methodLink "java/lang/StringUTF16" 111 ⟨"java/lang/StringUTF16", "putChar", "([BII)V"⟩) (by decide +kernel) rfl) kv_S2_putChar kn_S2 ko_S2_putChar) rfl rfl rfl (by decide +kernel) ⟨Nat.le_of_ble_eq_true rfl, Nat.le_of_ble_eq_true rfl⟩) (Nat.le_of_ble_eq_true rfl), fun _ h => absurd h List.not_mem_nil⟩⟩),
    hZ, kst_ok ht hZ (kS_S2_ok sa), knar_ok ht, ktx_ok (kE_S2_ok sa)⟩
set_option maxRecDepth 100000 in
theorem kv_Pc_checkFromIndexSize : Cond.static ⟨"jdk/internal/util/Preconditions", "checkFromIndexSize", "(IIILjava/util/function/BiFunction;)I"⟩ ∈ pw_T := (pw_in 525 (by decide +kernel) rfl)
set_option maxRecDepth 100000 in
theorem ko_Pc_checkFromIndexSize : Cond.code ⟨"jdk/internal/util/Preconditions", "checkFromIndexSize", "(IIILjava/util/function/BiFunction;)I"⟩ prog_25_method_13_code 4 (some .int) ∈ pw_T := (pw_in 526 rfl rfl)
set_option maxRecDepth 100000 in
theorem kD_Pc_checkFromIndexSize : ∀ q ∈ kC_Pc_checkFromIndexSize, decode prog_25_method_13_code q.1 = .ok (q.2, pm_len q.1 q.2) := by decide +kernel
set_option maxRecDepth 100000 in
theorem kW_Pc_checkFromIndexSize (l : Launch) (D : va_G) (base : Nat) (sa : Nat → Nat) : pm_Met l D kcl base (kZ sa) ⟨"jdk/internal/util/Preconditions", "checkFromIndexSize", "(IIILjava/util/function/BiFunction;)I"⟩ (.code ⟨"jdk/internal/util/Preconditions", "checkFromIndexSize", "(IIILjava/util/function/BiFunction;)I"⟩ prog_25_method_13_code 4 (some .int) :: pw_T) 0 0 (kP_Pc_checkFromIndexSize base sa) := by
  refine pm_met (by decide) rfl rfl ?_
  intro mc ms p e s m args below meth c hx hb hml hown hnm hts hbs hZ
  have ht : ∀ w ∈ pw_T, w.before args s = true := fun w h => hts w (List.mem_cons_of_mem _ h)
  exact ⟨hx, hb, hown, hbs, pm_look_all kD_Pc_checkFromIndexSize, kf_ok (init := false) ht hZ kF_Pc_ok (fun h => by cases h), km_ok ht kM_Pc_ok, kci_ok ht kI_Pc_ok, kli_ok ht kJ_Pc_ok, kar_ok ht hZ kA_Pc_ok,
    pm_look_all (fun _ h => absurd h List.not_mem_nil),
    hZ, kst_ok ht hZ (kS_Pc_ok sa), knar_ok ht, ktx_ok (kE_Pc_ok sa)⟩
set_option maxRecDepth 100000 in
theorem kv_St_checkBoundsOffCount : Cond.static ⟨"java/lang/String", "checkBoundsOffCount", "(III)I"⟩ ∈ pw_T := (pw_in 522 (by decide +kernel) rfl)
set_option maxRecDepth 100000 in
theorem ko_St_checkBoundsOffCount : Cond.code ⟨"java/lang/String", "checkBoundsOffCount", "(III)I"⟩ prog_19_method_157_code 3 (some .int) ∈ pw_T := (pw_in 523 rfl rfl)
set_option maxRecDepth 100000 in
theorem kD_St_checkBoundsOffCount : ∀ q ∈ kC_St_checkBoundsOffCount, decode prog_19_method_157_code q.1 = .ok (q.2, pm_len q.1 q.2) := by decide +kernel
set_option maxRecDepth 100000 in
theorem kW_St_checkBoundsOffCount (l : Launch) (D : va_G) (base : Nat) (sa : Nat → Nat) : pm_Met l D kcl base (kZ sa) ⟨"java/lang/String", "checkBoundsOffCount", "(III)I"⟩ (.code ⟨"java/lang/String", "checkBoundsOffCount", "(III)I"⟩ prog_19_method_157_code 3 (some .int) :: pw_T) 1 27 (kP_St_checkBoundsOffCount base sa) := by
  refine pm_met (by decide) rfl rfl ?_
  intro mc ms p e s m args below meth c hx hb hml hown hnm hts hbs hZ
  have ht : ∀ w ∈ pw_T, w.before args s = true := fun w h => hts w (List.mem_cons_of_mem _ h)
  exact ⟨hx, hb, hown, hbs, pm_look_all kD_St_checkBoundsOffCount, kf_ok (init := false) ht hZ kF_St_ok (fun h => by cases h), km_ok ht kM_St_ok, kci_ok ht kI_St_ok, kli_ok ht kJ_St_ok, kar_ok ht hZ kA_St_ok,
    pm_look_all (List.forall_mem_cons.mpr ⟨pm_cokS hbs hZ ⟨hx, hb, hml, hown, hts⟩ (kW_Pc_checkFromIndexSize l D base sa) (fun mc ms => va_cwS 4 hts (pw_gS (pw_in 524 (w := .methodLink "java/lang/String" 1065 ⟨"jdk/internal/util/Preconditions", "checkFromIndexSize", "(IIILjava/util/function/BiFunction;)I"⟩) (by decide +kernel) rfl) kv_Pc_checkFromIndexSize kn_Pc ko_Pc_checkFromIndexSize) rfl rfl rfl (by decide +kernel) ⟨Nat.le_of_ble_eq_true rfl, Nat.le_of_ble_eq_true rfl⟩) (Nat.le_of_ble_eq_true rfl), fun _ h => absurd h List.not_mem_nil⟩),
    hZ, kst_ok ht hZ (kS_St_ok sa), knar_ok ht, ktx_ok (kE_St_ok sa)⟩
set_option maxRecDepth 100000 in
theorem kv_S2_checkBoundsOffCount : Cond.static ⟨"java/lang/StringUTF16", "checkBoundsOffCount", "(II[B)V"⟩ ∈ pw_T := (pw_in 519 (by decide +kernel) rfl)
set_option maxRecDepth 100000 in
theorem ko_S2_checkBoundsOffCount : Cond.code ⟨"java/lang/StringUTF16", "checkBoundsOffCount", "(II[B)V"⟩ prog_21_method_94_code 3 none ∈ pw_T := (pw_in 520 rfl rfl)
set_option maxRecDepth 100000 in
theorem kD_S2_checkBoundsOffCount : ∀ q ∈ kC_S2_checkBoundsOffCount, decode prog_21_method_94_code q.1 = .ok (q.2, pm_len q.1 q.2) := by decide +kernel
set_option maxRecDepth 100000 in
theorem kW_S2_checkBoundsOffCount (l : Launch) (D : va_G) (base : Nat) (sa : Nat → Nat) : pm_Met l D kcl base (kZ sa) ⟨"java/lang/StringUTF16", "checkBoundsOffCount", "(II[B)V"⟩ (.code ⟨"java/lang/StringUTF16", "checkBoundsOffCount", "(II[B)V"⟩ prog_21_method_94_code 3 none :: pw_T) 2 53 (kP_S2_checkBoundsOffCount base sa) := by
  refine pm_met (by decide) rfl rfl ?_
  intro mc ms p e s m args below meth c hx hb hml hown hnm hts hbs hZ
  have ht : ∀ w ∈ pw_T, w.before args s = true := fun w h => hts w (List.mem_cons_of_mem _ h)
  exact ⟨hx, hb, hown, hbs, pm_look_all kD_S2_checkBoundsOffCount, kf_ok (init := false) ht hZ kF_S2_ok (fun h => by cases h), km_ok ht kM_S2_ok, kci_ok ht kI_S2_ok, kli_ok ht kJ_S2_ok, kar_ok ht hZ kA_S2_ok,
    pm_look_all (List.forall_mem_cons.mpr ⟨pm_cokS hbs hZ ⟨hx, hb, hml, hown, hts⟩ (kW_S2_length l D base sa) (fun mc ms => va_cwS 1 hts (pw_gS (pw_in 441 (w := .methodLink "java/lang/StringUTF16" 48 ⟨"java/lang/StringUTF16", "length", "([B)I"⟩) (by decide +kernel) rfl) kv_S2_length kn_S2 ko_S2_length) rfl rfl rfl (by decide +kernel) ⟨Nat.le_of_ble_eq_true rfl, Nat.le_of_ble_eq_true rfl⟩) (Nat.le_of_ble_eq_true rfl), List.forall_mem_cons.mpr ⟨pm_cokS hbs hZ ⟨hx, hb, hml, hown, hts⟩ (kW_St_checkBoundsOffCount l D base sa) (fun mc ms => va_cwS 3 hts (pw_gS (pw_in 521 (w := .methodLink "java/lang/StringUTF16" 419 ⟨"java/lang/String", "checkBoundsOffCount", "(III)I"⟩) (by decide +kernel) rfl) kv_St_checkBoundsOffCount kn_St ko_St_checkBoundsOffCount) rfl rfl rfl (by decide +kernel) ⟨Nat.le_of_ble_eq_true rfl, Nat.le_of_ble_eq_true rfl⟩) (Nat.le_of_ble_eq_true rfl), fun _ h => absurd h List.not_mem_nil⟩⟩),
    hZ, kst_ok ht hZ (kS_S2_ok sa), knar_ok ht, ktx_ok (kE_S2_ok sa)⟩
set_option maxRecDepth 100000 in
theorem kv_S2_compress3 : Cond.static ⟨"java/lang/StringUTF16", "compress", "([BI[BII)I"⟩ ∈ pw_T := (pw_in 516 (by decide +kernel) rfl)
set_option maxRecDepth 100000 in
theorem ko_S2_compress3 : Cond.code ⟨"java/lang/StringUTF16", "compress", "([BI[BII)I"⟩ prog_21_method_22_code 7 (some .int) ∈ pw_T := (pw_in 517 rfl rfl)
set_option maxRecDepth 100000 in
theorem kD_S2_compress3 : ∀ q ∈ kC_S2_compress3, decode prog_21_method_22_code q.1 = .ok (q.2, pm_len q.1 q.2) := by decide +kernel
set_option maxRecDepth 100000 in
theorem kW_S2_compress3 (l : Launch) (D : va_G) (base : Nat) (sa : Nat → Nat) : pm_Met l D kcl base (kZ sa) ⟨"java/lang/StringUTF16", "compress", "([BI[BII)I"⟩ (.code ⟨"java/lang/StringUTF16", "compress", "([BI[BII)I"⟩ prog_21_method_22_code 7 (some .int) :: pw_T) 3 79 (kP_S2_compress3 base sa) := by
  refine pm_met (by decide) rfl rfl ?_
  intro mc ms p e s m args below meth c hx hb hml hown hnm hts hbs hZ
  have ht : ∀ w ∈ pw_T, w.before args s = true := fun w h => hts w (List.mem_cons_of_mem _ h)
  exact ⟨hx, hb, hown, hbs, pm_look_all kD_S2_compress3, kf_ok (init := false) ht hZ kF_S2_ok (fun h => by cases h), km_ok ht kM_S2_ok, kci_ok ht kI_S2_ok, kli_ok ht kJ_S2_ok, kar_ok ht hZ kA_S2_ok,
    pm_look_all (List.forall_mem_cons.mpr ⟨pm_cokS hbs hZ ⟨hx, hb, hml, hown, hts⟩ (kW_S2_checkBoundsOffCount l D base sa) (fun mc ms => va_cwS 3 hts (pw_gS (pw_in 518 (w := .methodLink "java/lang/StringUTF16" 173 ⟨"java/lang/StringUTF16", "checkBoundsOffCount", "(II[B)V"⟩) (by decide +kernel) rfl) kv_S2_checkBoundsOffCount kn_S2 ko_S2_checkBoundsOffCount) rfl rfl rfl (by decide +kernel) ⟨Nat.le_of_ble_eq_true rfl, Nat.le_of_ble_eq_true rfl⟩) (Nat.le_of_ble_eq_true rfl), List.forall_mem_cons.mpr ⟨pm_cokS hbs hZ ⟨hx, hb, hml, hown, hts⟩ (kW_S2_getChar l D base sa) (fun mc ms => va_cwS 2 hts (pw_gS (pw_in 445 (w := .methodLink "java/lang/StringUTF16" 71 ⟨"java/lang/StringUTF16", "getChar", "([BI)C"⟩) (by decide +kernel) rfl) kv_S2_getChar kn_S2 ko_S2_getChar) rfl rfl rfl (by decide +kernel) ⟨Nat.le_of_ble_eq_true rfl, Nat.le_of_ble_eq_true rfl⟩) (Nat.le_of_ble_eq_true rfl), fun _ h => absurd h List.not_mem_nil⟩⟩),
    hZ, kst_ok ht hZ (kS_S2_ok sa), knar_ok ht, ktx_ok (kE_S2_ok sa)⟩
set_option maxRecDepth 100000 in
theorem kv_S2_compress : Cond.static ⟨"java/lang/StringUTF16", "compress", "([CII)[B"⟩ ∈ pw_T := (pw_in 497 (by decide +kernel) rfl)
set_option maxRecDepth 100000 in
theorem ko_S2_compress : Cond.code ⟨"java/lang/StringUTF16", "compress", "([CII)[B"⟩ prog_21_method_16_code 6 (some (.array .byte)) ∈ pw_T := (pw_in 498 rfl rfl)
set_option maxRecDepth 100000 in
theorem kD_S2_compress : ∀ q ∈ kC_S2_compress, decode prog_21_method_16_code q.1 = .ok (q.2, pm_len q.1 q.2) := by decide +kernel
set_option maxRecDepth 100000 in
theorem kW_S2_compress (l : Launch) (D : va_G) (base : Nat) (sa : Nat → Nat) : pm_Met l D kcl base (kZ sa) ⟨"java/lang/StringUTF16", "compress", "([CII)[B"⟩ (.code ⟨"java/lang/StringUTF16", "compress", "([CII)[B"⟩ prog_21_method_16_code 6 (some (.array .byte)) :: pw_T) 4 109 (kP_S2_compress base sa) := by
  refine pm_met (by decide) rfl rfl ?_
  intro mc ms p e s m args below meth c hx hb hml hown hnm hts hbs hZ
  have ht : ∀ w ∈ pw_T, w.before args s = true := fun w h => hts w (List.mem_cons_of_mem _ h)
  exact ⟨hx, hb, hown, hbs, pm_look_all kD_S2_compress, kf_ok (init := false) ht hZ kF_S2_ok (fun h => by cases h), km_ok ht kM_S2_ok, kci_ok ht kI_S2_ok, kli_ok ht kJ_S2_ok, kar_ok ht hZ kA_S2_ok,
    pm_look_all (List.forall_mem_cons.mpr ⟨pm_cokS hbs hZ ⟨hx, hb, hml, hown, hts⟩ (kW_S2_compress2 l D base sa) (fun mc ms => va_cwS 5 hts (pw_gS (pw_in 499 (w := .methodLink "java/lang/StringUTF16" 115 ⟨"java/lang/StringUTF16", "compress", "([CI[BII)I"⟩) (by decide +kernel) rfl) kv_S2_compress2 kn_S2 ko_S2_compress2) rfl rfl rfl (by decide +kernel) ⟨Nat.le_of_ble_eq_true rfl, Nat.le_of_ble_eq_true rfl⟩) (Nat.le_of_ble_eq_true rfl), List.forall_mem_cons.mpr ⟨pm_cokS hbs hZ ⟨hx, hb, hml, hown, hts⟩ (kW_S2_toBytes l D base sa) (fun mc ms => va_cwS 3 hts (pw_gS (pw_in 502 (w := .methodLink "java/lang/StringUTF16" 119 ⟨"java/lang/StringUTF16", "toBytes", "([CII)[B"⟩) (by decide +kernel) rfl) kv_S2_toBytes kn_S2 ko_S2_toBytes) rfl rfl rfl (by decide +kernel) ⟨Nat.le_of_ble_eq_true rfl, Nat.le_of_ble_eq_true rfl⟩) (Nat.le_of_ble_eq_true rfl), List.forall_mem_cons.mpr ⟨pm_cokS hbs hZ ⟨hx, hb, hml, hown, hts⟩ (kW_S2_getChar l D base sa) (fun mc ms => va_cwS 2 hts (pw_gS (pw_in 445 (w := .methodLink "java/lang/StringUTF16" 71 ⟨"java/lang/StringUTF16", "getChar", "([BI)C"⟩) (by decide +kernel) rfl) kv_S2_getChar kn_S2 ko_S2_getChar) rfl rfl rfl (by decide +kernel) ⟨Nat.le_of_ble_eq_true rfl, Nat.le_of_ble_eq_true rfl⟩) (Nat.le_of_ble_eq_true rfl), List.forall_mem_cons.mpr ⟨pm_cokS hbs hZ ⟨hx, hb, hml, hown, hts⟩ (kW_S2_compress3 l D base sa) (fun mc ms => va_cwS 5 hts (pw_gS (pw_in 515 (w := .methodLink "java/lang/StringUTF16" 123 ⟨"java/lang/StringUTF16", "compress", "([BI[BII)I"⟩) (by decide +kernel) rfl) kv_S2_compress3 kn_S2 ko_S2_compress3) rfl rfl rfl (by decide +kernel) ⟨Nat.le_of_ble_eq_true rfl, Nat.le_of_ble_eq_true rfl⟩) (Nat.le_of_ble_eq_true rfl), fun _ h => absurd h List.not_mem_nil⟩⟩⟩⟩),
    hZ, kst_ok ht hZ (kS_S2_ok sa), knar_ok ht, ktx_ok (kE_S2_ok sa)⟩
set_option maxRecDepth 100000 in
theorem kv_S2_coderFromArrayLen : Cond.static ⟨"java/lang/StringUTF16", "coderFromArrayLen", "([BI)B"⟩ ∈ pw_T := (pw_in 528 (by decide +kernel) rfl)
set_option maxRecDepth 100000 in
theorem ko_S2_coderFromArrayLen : Cond.code ⟨"java/lang/StringUTF16", "coderFromArrayLen", "([BI)B"⟩ prog_21_method_15_code 2 (some .byte) ∈ pw_T := (pw_in 529 rfl rfl)
set_option maxRecDepth 100000 in
theorem kD_S2_coderFromArrayLen : ∀ q ∈ kC_S2_coderFromArrayLen, decode prog_21_method_15_code q.1 = .ok (q.2, pm_len q.1 q.2) := by decide +kernel
set_option maxRecDepth 100000 in
theorem kW_S2_coderFromArrayLen (l : Launch) (D : va_G) (base : Nat) (sa : Nat → Nat) : pm_Met l D kcl base (kZ sa) ⟨"java/lang/StringUTF16", "coderFromArrayLen", "([BI)B"⟩ (.code ⟨"java/lang/StringUTF16", "coderFromArrayLen", "([BI)B"⟩ prog_21_method_15_code 2 (some .byte) :: pw_T) 0 0 (kP_S2_coderFromArrayLen base sa) := by
  refine pm_met (by decide) rfl rfl ?_
  intro mc ms p e s m args below meth c hx hb hml hown hnm hts hbs hZ
  have ht : ∀ w ∈ pw_T, w.before args s = true := fun w h => hts w (List.mem_cons_of_mem _ h)
  exact ⟨hx, hb, hown, hbs, pm_look_all kD_S2_coderFromArrayLen, kf_ok (init := false) ht hZ kF_S2_ok (fun h => by cases h), km_ok ht kM_S2_ok, kci_ok ht kI_S2_ok, kli_ok ht kJ_S2_ok, kar_ok ht hZ kA_S2_ok,
    pm_look_all (fun _ h => absurd h List.not_mem_nil),
    hZ, kst_ok ht hZ (kS_S2_ok sa), knar_ok ht, ktx_ok (kE_S2_ok sa)⟩
set_option maxRecDepth 100000 in
theorem ki_St_init2 : Cond.instanceMethod ⟨"java/lang/String", "<init>", "([CIILjava/lang/Void;)V"⟩ ∈ pw_T := (pw_in 492 (by decide +kernel) rfl)
set_option maxRecDepth 100000 in
theorem ko_St_init2 : Cond.code ⟨"java/lang/String", "<init>", "([CIILjava/lang/Void;)V"⟩ prog_19_method_149_code 6 none ∈ pw_T := (pw_in 493 rfl rfl)
set_option maxRecDepth 100000 in
theorem kD_St_init2 : ∀ q ∈ kC_St_init2, decode prog_19_method_149_code q.1 = .ok (q.2, pm_len q.1 q.2) := by decide +kernel
set_option maxRecDepth 100000 in
theorem kW_St_init2 (l : Launch) (D : va_G) (base : Nat) (sa : Nat → Nat) : pm_Met l D kcl base (kZ sa) ⟨"java/lang/String", "<init>", "([CIILjava/lang/Void;)V"⟩ (.code ⟨"java/lang/String", "<init>", "([CIILjava/lang/Void;)V"⟩ prog_19_method_149_code 6 none :: pw_T) 5 138 (kP_St_init2 base sa) := by
  refine pm_met (by decide) rfl rfl ?_
  intro mc ms p e s m args below meth c hx hb hml hown hnm hts hbs hZ
  have ht : ∀ w ∈ pw_T, w.before args s = true := fun w h => hts w (List.mem_cons_of_mem _ h)
  exact ⟨hx, hb, hown, hbs, pm_look_all kD_St_init2, kf_ok (init := true) ht hZ kF_St_ok (fun _ => hnm), km_ok ht kM_St_ok, kci_ok ht kI_St_ok, kli_ok ht kJ_St_ok, kar_ok ht hZ kA_St_ok,
    pm_look_all (List.forall_mem_cons.mpr ⟨pm_cokO hx hb hml hown (ht _ (pw_in 494 (by decide +kernel) rfl)) (ht _ (pw_in 31 (by decide +kernel) rfl)) (ht _ (pw_in 32 rfl rfl)) (Nat.le_of_ble_eq_true rfl) (Nat.le_of_ble_eq_true rfl), List.forall_mem_cons.mpr ⟨pm_cokS hbs hZ ⟨hx, hb, hml, hown, hts⟩ (kW_S2_compress l D base sa) (fun mc ms => va_cwS 3 hts (pw_gS (pw_in 496 (w := .methodLink "java/lang/String" 177 ⟨"java/lang/StringUTF16", "compress", "([CII)[B"⟩) (by decide +kernel) rfl) kv_S2_compress kn_S2 ko_S2_compress) rfl rfl rfl (by decide +kernel) ⟨Nat.le_of_ble_eq_true rfl, Nat.le_of_ble_eq_true rfl⟩) (Nat.le_of_ble_eq_true rfl), List.forall_mem_cons.mpr ⟨pm_cokS hbs hZ ⟨hx, hb, hml, hown, hts⟩ (kW_S2_coderFromArrayLen l D base sa) (fun mc ms => va_cwS 2 hts (pw_gS (pw_in 527 (w := .methodLink "java/lang/String" 47 ⟨"java/lang/StringUTF16", "coderFromArrayLen", "([BI)B"⟩) (by decide +kernel) rfl) kv_S2_coderFromArrayLen kn_S2 ko_S2_coderFromArrayLen) rfl rfl rfl (by decide +kernel) ⟨Nat.le_of_ble_eq_true rfl, Nat.le_of_ble_eq_true rfl⟩) (Nat.le_of_ble_eq_true rfl), List.forall_mem_cons.mpr ⟨pm_cokS hbs hZ ⟨hx, hb, hml, hown, hts⟩ (kW_S2_toBytes l D base sa) (fun mc ms => va_cwS 3 hts (pw_gS (pw_in 530 (w := .methodLink "java/lang/String" 180 ⟨"java/lang/StringUTF16", "toBytes", "([CII)[B"⟩) (by decide +kernel) rfl) kv_S2_toBytes kn_S2 ko_S2_toBytes) rfl rfl rfl (by decide +kernel) ⟨Nat.le_of_ble_eq_true rfl, Nat.le_of_ble_eq_true rfl⟩) (Nat.le_of_ble_eq_true rfl), fun _ h => absurd h List.not_mem_nil⟩⟩⟩⟩),
    hZ, kst_ok ht hZ (kS_St_ok sa), knar_ok ht, ktx_ok (kE_St_ok sa)⟩
set_option maxRecDepth 100000 in
theorem ki_St_init : Cond.instanceMethod ⟨"java/lang/String", "<init>", "([C)V"⟩ ∈ pw_T := (pw_in 489 (by decide +kernel) rfl)
set_option maxRecDepth 100000 in
theorem ko_St_init : Cond.code ⟨"java/lang/String", "<init>", "([C)V"⟩ prog_19_method_3_code 2 none ∈ pw_T := (pw_in 490 rfl rfl)
set_option maxRecDepth 100000 in
theorem kD_St_init : ∀ q ∈ kC_St_init, decode prog_19_method_3_code q.1 = .ok (q.2, pm_len q.1 q.2) := by decide +kernel
set_option maxRecDepth 100000 in
theorem kW_St_init (l : Launch) (D : va_G) (base : Nat) (sa : Nat → Nat) : pm_Met l D kcl base (kZ sa) ⟨"java/lang/String", "<init>", "([C)V"⟩ (.code ⟨"java/lang/String", "<init>", "([C)V"⟩ prog_19_method_3_code 2 none :: pw_T) 6 163 (kP_St_init base sa) := by
  refine pm_met (by decide) rfl rfl ?_
  intro mc ms p e s m args below meth c hx hb hml hown hnm hts hbs hZ
  have ht : ∀ w ∈ pw_T, w.before args s = true := fun w h => hts w (List.mem_cons_of_mem _ h)
  exact ⟨hx, hb, hown, hbs, pm_look_all kD_St_init, kf_ok (init := true) ht hZ kF_St_ok (fun _ => hnm), km_ok ht kM_St_ok, kci_ok ht kI_St_ok, kli_ok ht kJ_St_ok, kar_ok ht hZ kA_St_ok,
    pm_look_all (List.forall_mem_cons.mpr ⟨pm_cokI hbs hZ ⟨hx, hb, hml, hown, hts⟩ (kW_St_init2 l D base sa) (fun mc ms => cwI 4 hts (pw_gC ko_St_init2) rfl rfl rfl (ht _ kn_St) (ht _ (pw_in 491 (w := .methodLink "java/lang/String" 27 ⟨"java/lang/String", "<init>", "([CIILjava/lang/Void;)V"⟩) (by decide +kernel) rfl)) (ht _ ki_St_init2) rfl (by decide +kernel) ⟨Nat.le_of_ble_eq_true rfl, Nat.le_of_ble_eq_true rfl⟩), fun _ h => absurd h List.not_mem_nil⟩),
    hZ, kst_ok ht hZ (kS_St_ok sa), knar_ok ht, ktx_ok (kE_St_ok sa)⟩
set_option maxRecDepth 100000 in
theorem ki_Re_nameAt : Cond.instanceMethod ⟨"RoutingField$Reader", "nameAt", "(I)Ljava/lang/String;"⟩ ∈ pw_T := (pw_in 480 (by decide +kernel) rfl)
set_option maxRecDepth 100000 in
theorem ks_Re_nameAt : Cond.selects "RoutingField$Reader" ⟨"RoutingField$Reader", "nameAt", "(I)Ljava/lang/String;"⟩ ⟨"RoutingField$Reader", "nameAt", "(I)Ljava/lang/String;"⟩ ∈ pw_T := (pw_sel 8 (q := (⟨"RoutingField$Reader", "nameAt", "(I)Ljava/lang/String;"⟩, 12)) (by decide +kernel))
set_option maxRecDepth 100000 in
theorem ko_Re_nameAt : Cond.code ⟨"RoutingField$Reader", "nameAt", "(I)Ljava/lang/String;"⟩ prog_9_method_7_code 4 (some (.object "java/lang/String")) ∈ pw_T := (pw_in 481 rfl rfl)
set_option maxRecDepth 100000 in
theorem kD_Re_nameAt : ∀ q ∈ kC_Re_nameAt, decode prog_9_method_7_code q.1 = .ok (q.2, pm_len q.1 q.2) := by decide +kernel
set_option maxRecDepth 100000 in
theorem kW_Re_nameAt (l : Launch) (D : va_G) (base : Nat) (sa : Nat → Nat) : pm_Met l D kcl base (kZ sa) ⟨"RoutingField$Reader", "nameAt", "(I)Ljava/lang/String;"⟩ (.code ⟨"RoutingField$Reader", "nameAt", "(I)Ljava/lang/String;"⟩ prog_9_method_7_code 4 (some (.object "java/lang/String")) :: pw_T) 7 184 (kP_Re_nameAt base sa) := by
  refine pm_met (by decide) rfl rfl ?_
  intro mc ms p e s m args below meth c hx hb hml hown hnm hts hbs hZ
  have ht : ∀ w ∈ pw_T, w.before args s = true := fun w h => hts w (List.mem_cons_of_mem _ h)
  exact ⟨hx, hb, hown, hbs, pm_look_all kD_Re_nameAt, kf_ok (init := false) ht hZ kF_Re_ok (fun h => by cases h), km_ok ht kM_Re_ok, kci_ok ht kI_Re_ok, kli_ok ht kJ_Re_ok, kar_ok ht hZ kA_Re_ok,
    pm_look_all (List.forall_mem_cons.mpr ⟨pm_cokV hbs hZ ⟨hx, hb, hml, hown, hts⟩ (kW_Re_isWord l D base sa) (fun mc ms => cwV 1 hts (pw_gV (pw_in 402 (w := .methodLink "RoutingField$Reader" 159 ⟨"RoutingField$Reader", "isWord", "(I)Z"⟩) (by decide +kernel) rfl) ki_Re_isWord ks_Re_isWord kn_Re ko_Re_isWord) rfl rfl rfl (by decide +kernel) ⟨Nat.le_of_ble_eq_true rfl, Nat.le_of_ble_eq_true rfl⟩) (ci := 7) rfl, List.forall_mem_cons.mpr ⟨pm_cokMx hx hb hml hown (ht _ (pw_in 483 (w := .methodLink "RoutingField$Reader" 174 ⟨"java/lang/Math", "max", "(II)I"⟩) (by decide +kernel) rfl)) (ht _ (pw_in 484 (by decide +kernel) rfl)) (ht _ (pw_in 14 (by decide +kernel) rfl)) (ht _ (pw_in 485 rfl rfl)) (Nat.le_of_ble_eq_true rfl) (Nat.le_of_ble_eq_true rfl), List.forall_mem_cons.mpr ⟨pm_cokV hbs hZ ⟨hx, hb, hml, hown, hts⟩ (kW_By_at l D base sa) (fun mc ms => cwV 1 hts (pw_gV (pw_in 396 (w := .methodLink "RoutingField$Reader" 68 ⟨"RoutingField$Bytes", "at", "(I)I"⟩) (by decide +kernel) rfl) ki_By_at ks_By_at kn_By ko_By_at) rfl rfl rfl (by decide +kernel) ⟨Nat.le_of_ble_eq_true rfl, Nat.le_of_ble_eq_true rfl⟩) (ci := 0) rfl, List.forall_mem_cons.mpr ⟨pm_cokI hbs hZ ⟨hx, hb, hml, hown, hts⟩ (kW_St_init l D base sa) (fun mc ms => cwI 1 hts (pw_gC ko_St_init) rfl rfl rfl (ht _ kn_St) (ht _ (pw_in 488 (w := .methodLink "RoutingField$Reader" 180 ⟨"java/lang/String", "<init>", "([C)V"⟩) (by decide +kernel) rfl)) (ht _ ki_St_init) rfl (by decide +kernel) ⟨Nat.le_of_ble_eq_true rfl, Nat.le_of_ble_eq_true rfl⟩), fun _ h => absurd h List.not_mem_nil⟩⟩⟩⟩),
    hZ, kst_ok ht hZ (kS_Re_ok sa), knar_ok ht, ktx_ok (kE_Re_ok sa)⟩
set_option maxRecDepth 100000 in
theorem ki_Li_init : Cond.instanceMethod ⟨"RoutingField$Link", "<init>", "(Ljava/lang/String;III)V"⟩ ∈ pw_T := (pw_in 544 (by decide +kernel) rfl)
set_option maxRecDepth 100000 in
theorem ko_Li_init : Cond.code ⟨"RoutingField$Link", "<init>", "(Ljava/lang/String;III)V"⟩ prog_5_method_1_code 5 none ∈ pw_T := (pw_in 545 rfl rfl)
set_option maxRecDepth 100000 in
theorem kD_Li_init : ∀ q ∈ kC_Li_init, decode prog_5_method_1_code q.1 = .ok (q.2, pm_len q.1 q.2) := by decide +kernel
set_option maxRecDepth 100000 in
theorem kW_Li_init (l : Launch) (D : va_G) (base : Nat) (sa : Nat → Nat) : pm_Met l D kcl base (kZ sa) ⟨"RoutingField$Link", "<init>", "(Ljava/lang/String;III)V"⟩ (.code ⟨"RoutingField$Link", "<init>", "(Ljava/lang/String;III)V"⟩ prog_5_method_1_code 5 none :: pw_T) 2 41 (kP_Li_init base sa) := by
  refine pm_met (by decide) rfl rfl ?_
  intro mc ms p e s m args below meth c hx hb hml hown hnm hts hbs hZ
  have ht : ∀ w ∈ pw_T, w.before args s = true := fun w h => hts w (List.mem_cons_of_mem _ h)
  exact ⟨hx, hb, hown, hbs, pm_look_all kD_Li_init, kf_ok (init := true) ht hZ kF_Li_ok (fun _ => hnm), km_ok ht kM_Li_ok, kci_ok ht kI_Li_ok, kli_ok ht kJ_Li_ok, kar_ok ht hZ kA_Li_ok,
    pm_look_all (List.forall_mem_cons.mpr ⟨pm_cokO hx hb hml hown (ht _ (pw_in 546 (by decide +kernel) rfl)) (ht _ (pw_in 31 (by decide +kernel) rfl)) (ht _ (pw_in 32 rfl rfl)) (Nat.le_of_ble_eq_true rfl) (Nat.le_of_ble_eq_true rfl), List.forall_mem_cons.mpr ⟨pm_cokI hbs hZ ⟨hx, hb, hml, hown, hts⟩ (kW_By_init l D base sa) (fun mc ms => cwI 1 hts (pw_gC ko_By_init) rfl rfl rfl (ht _ kn_By) (ht _ (pw_in 548 (w := .methodLink "RoutingField$Link" 22 ⟨"RoutingField$Bytes", "<init>", "(I)V"⟩) (by decide +kernel) rfl)) (ht _ ki_By_init) rfl (by decide +kernel) ⟨Nat.le_of_ble_eq_true rfl, Nat.le_of_ble_eq_true rfl⟩), List.forall_mem_cons.mpr ⟨pm_cokMx hx hb hml hown (ht _ (pw_in 549 (w := .methodLink "RoutingField$Link" 33 ⟨"java/lang/Math", "max", "(II)I"⟩) (by decide +kernel) rfl)) (ht _ (pw_in 484 (by decide +kernel) rfl)) (ht _ (pw_in 14 (by decide +kernel) rfl)) (ht _ (pw_in 485 rfl rfl)) (Nat.le_of_ble_eq_true rfl) (Nat.le_of_ble_eq_true rfl), fun _ h => absurd h List.not_mem_nil⟩⟩⟩),
    hZ, kst_ok ht hZ (kS_Li_ok sa), knar_ok ht, ktx_ok (kE_Li_ok sa)⟩
set_option maxRecDepth 100000 in
theorem ki_Re_linkLine : Cond.instanceMethod ⟨"RoutingField$Reader", "linkLine", "()I"⟩ ∈ pw_T := (pw_in 456 (by decide +kernel) rfl)
set_option maxRecDepth 100000 in
theorem ks_Re_linkLine : Cond.selects "RoutingField$Reader" ⟨"RoutingField$Reader", "linkLine", "()I"⟩ ⟨"RoutingField$Reader", "linkLine", "()I"⟩ ∈ pw_T := (pw_sel 3 (q := (⟨"RoutingField$Reader", "linkLine", "()I"⟩, 12)) (by decide +kernel))
set_option maxRecDepth 100000 in
theorem ko_Re_linkLine : Cond.code ⟨"RoutingField$Reader", "linkLine", "()I"⟩ prog_9_method_18_code 4 (some .int) ∈ pw_T := (pw_in 457 rfl rfl)
set_option maxRecDepth 100000 in
theorem kD_Re_linkLine_0 : ∀ q ∈ kC_Re_linkLine_0, decode prog_9_method_18_code q.1 = .ok (q.2, pm_len q.1 q.2) := by decide +kernel
set_option maxRecDepth 100000 in
theorem kD_Re_linkLine_1 : ∀ q ∈ kC_Re_linkLine_1, decode prog_9_method_18_code q.1 = .ok (q.2, pm_len q.1 q.2) := by decide +kernel
theorem kD_Re_linkLine : ∀ q ∈ kC_Re_linkLine, decode prog_9_method_18_code q.1 = .ok (q.2, pm_len q.1 q.2) := List.forall_mem_append.mpr ⟨kD_Re_linkLine_0, kD_Re_linkLine_1⟩
set_option maxRecDepth 100000 in
theorem kW_Re_linkLine (l : Launch) (D : va_G) (base : Nat) (sa : Nat → Nat) : pm_Met l D kcl base (kZ sa) ⟨"RoutingField$Reader", "linkLine", "()I"⟩ (.code ⟨"RoutingField$Reader", "linkLine", "()I"⟩ prog_9_method_18_code 4 (some .int) :: pw_T) 8 207 (kP_Re_linkLine base sa) := by
  refine pm_met (by decide) rfl rfl ?_
  intro mc ms p e s m args below meth c hx hb hml hown hnm hts hbs hZ
  have ht : ∀ w ∈ pw_T, w.before args s = true := fun w h => hts w (List.mem_cons_of_mem _ h)
  exact ⟨hx, hb, hown, hbs, pm_look_all kD_Re_linkLine, kf_ok (init := false) ht hZ kF_Re_ok (fun h => by cases h), km_ok ht kM_Re_ok, kci_ok ht kI_Re_ok, kli_ok ht kJ_Re_ok, kar_ok ht hZ kA_Re_ok,
    pm_look_all (List.forall_mem_cons.mpr ⟨pm_cokV hbs hZ ⟨hx, hb, hml, hown, hts⟩ (kW_Re_hasOptions l D base sa) (fun mc ms => cwV 3 hts (pw_gV (pw_in 460 (w := .methodLink "RoutingField$Reader" 248 ⟨"RoutingField$Reader", "hasOptions", "(ILjava/lang/String;Ljava/lang/String;)Z"⟩) (by decide +kernel) rfl) ki_Re_hasOptions ks_Re_hasOptions kn_Re ko_Re_hasOptions) rfl rfl rfl (by decide +kernel) ⟨Nat.le_of_ble_eq_true rfl, Nat.le_of_ble_eq_true rfl⟩) (ci := 7) rfl, List.forall_mem_cons.mpr ⟨pm_cokV hbs hZ ⟨hx, hb, hml, hown, hts⟩ (kW_Re_isName l D base sa) (fun mc ms => cwV 1 hts (pw_gV (pw_in 464 (w := .methodLink "RoutingField$Reader" 252 ⟨"RoutingField$Reader", "isName", "(I)Z"⟩) (by decide +kernel) rfl) ki_Re_isName ks_Re_isName kn_Re ko_Re_isName) rfl rfl rfl (by decide +kernel) ⟨Nat.le_of_ble_eq_true rfl, Nat.le_of_ble_eq_true rfl⟩) (ci := 7) rfl, List.forall_mem_cons.mpr ⟨pm_cokV hbs hZ ⟨hx, hb, hml, hown, hts⟩ (kW_Re_linkNamed l D base sa) (fun mc ms => cwV 1 hts (pw_gV (pw_in 468 (w := .methodLink "RoutingField$Reader" 231 ⟨"RoutingField$Reader", "linkNamed", "(I)I"⟩) (by decide +kernel) rfl) ki_Re_linkNamed ks_Re_linkNamed kn_Re ko_Re_linkNamed) rfl rfl rfl (by decide +kernel) ⟨Nat.le_of_ble_eq_true rfl, Nat.le_of_ble_eq_true rfl⟩) (ci := 7) rfl, List.forall_mem_cons.mpr ⟨pm_cokV hbs hZ ⟨hx, hb, hml, hown, hts⟩ (kW_Re_number l D base sa) (fun mc ms => cwV 3 hts (pw_gV (pw_in 472 (w := .methodLink "RoutingField$Reader" 255 ⟨"RoutingField$Reader", "number", "(III)I"⟩) (by decide +kernel) rfl) ki_Re_number ks_Re_number kn_Re ko_Re_number) rfl rfl rfl (by decide +kernel) ⟨Nat.le_of_ble_eq_true rfl, Nat.le_of_ble_eq_true rfl⟩) (ci := 7) rfl, List.forall_mem_cons.mpr ⟨pm_cokV hbs hZ ⟨hx, hb, hml, hown, hts⟩ (kW_Re_nameAt l D base sa) (fun mc ms => cwV 1 hts (pw_gV (pw_in 478 (w := .methodLink "RoutingField$Reader" 259 ⟨"RoutingField$Reader", "nameAt", "(I)Ljava/lang/String;"⟩) (by decide +kernel) rfl) ki_Re_nameAt ks_Re_nameAt kn_Re ko_Re_nameAt) rfl rfl rfl (by decide +kernel) ⟨Nat.le_of_ble_eq_true rfl, Nat.le_of_ble_eq_true rfl⟩) (ci := 7) rfl, List.forall_mem_cons.mpr ⟨pm_cokI hbs hZ ⟨hx, hb, hml, hown, hts⟩ (kW_Li_init l D base sa) (fun mc ms => cwI 4 hts (pw_gC ko_Li_init) rfl rfl rfl (ht _ kn_Li) (ht _ (pw_in 543 (w := .methodLink "RoutingField$Reader" 263 ⟨"RoutingField$Link", "<init>", "(Ljava/lang/String;III)V"⟩) (by decide +kernel) rfl)) (ht _ ki_Li_init) rfl (by decide +kernel) ⟨Nat.le_of_ble_eq_true rfl, Nat.le_of_ble_eq_true rfl⟩), fun _ h => absurd h List.not_mem_nil⟩⟩⟩⟩⟩⟩),
    hZ, kst_ok ht hZ (kS_Re_ok sa), knar_ok ht, ktx_ok (kE_Re_ok sa)⟩
set_option maxRecDepth 100000 in
theorem ki_Re_routerNamed : Cond.instanceMethod ⟨"RoutingField$Reader", "routerNamed", "(I)LRoutingField$Router;"⟩ ∈ pw_T := (pw_in 594 (by decide +kernel) rfl)
set_option maxRecDepth 100000 in
theorem ks_Re_routerNamed : Cond.selects "RoutingField$Reader" ⟨"RoutingField$Reader", "routerNamed", "(I)LRoutingField$Router;"⟩ ⟨"RoutingField$Reader", "routerNamed", "(I)LRoutingField$Router;"⟩ ∈ pw_T := (pw_sel 10 (q := (⟨"RoutingField$Reader", "routerNamed", "(I)LRoutingField$Router;"⟩, 12)) (by decide +kernel))
set_option maxRecDepth 100000 in
theorem ko_Re_routerNamed : Cond.code ⟨"RoutingField$Reader", "routerNamed", "(I)LRoutingField$Router;"⟩ prog_9_method_12_code 3 (some (.object "RoutingField$Router")) ∈ pw_T := (pw_in 595 rfl rfl)
set_option maxRecDepth 100000 in
theorem kD_Re_routerNamed : ∀ q ∈ kC_Re_routerNamed, decode prog_9_method_12_code q.1 = .ok (q.2, pm_len q.1 q.2) := by decide +kernel
set_option maxRecDepth 100000 in
theorem kW_Re_routerNamed (l : Launch) (D : va_G) (base : Nat) (sa : Nat → Nat) : pm_Met l D kcl base (kZ sa) ⟨"RoutingField$Reader", "routerNamed", "(I)LRoutingField$Router;"⟩ (.code ⟨"RoutingField$Reader", "routerNamed", "(I)LRoutingField$Router;"⟩ prog_9_method_12_code 3 (some (.object "RoutingField$Router")) :: pw_T) 6 145 (kP_Re_routerNamed base sa) := by
  refine pm_met (by decide) rfl rfl ?_
  intro mc ms p e s m args below meth c hx hb hml hown hnm hts hbs hZ
  have ht : ∀ w ∈ pw_T, w.before args s = true := fun w h => hts w (List.mem_cons_of_mem _ h)
  exact ⟨hx, hb, hown, hbs, pm_look_all kD_Re_routerNamed, kf_ok (init := false) ht hZ kF_Re_ok (fun h => by cases h), km_ok ht kM_Re_ok, kci_ok ht kI_Re_ok, kli_ok ht kJ_Re_ok, kar_ok ht hZ kA_Re_ok,
    pm_look_all (List.forall_mem_cons.mpr ⟨pm_cokV hbs hZ ⟨hx, hb, hml, hown, hts⟩ (kW_Re_is l D base sa) (fun mc ms => cwV 2 hts (pw_gV (pw_in 398 (w := .methodLink "RoutingField$Reader" 76 ⟨"RoutingField$Reader", "is", "(ILjava/lang/String;)Z"⟩) (by decide +kernel) rfl) ki_Re_is ks_Re_is kn_Re ko_Re_is) rfl rfl rfl (by decide +kernel) ⟨Nat.le_of_ble_eq_true rfl, Nat.le_of_ble_eq_true rfl⟩) (ci := 7) rfl, fun _ h => absurd h List.not_mem_nil⟩),
    hZ, kst_ok ht hZ (kS_Re_ok sa), knar_ok ht, ktx_ok (kE_Re_ok sa)⟩
set_option maxRecDepth 100000 in
theorem ki_Pl_init : Cond.instanceMethod ⟨"RoutingField$PrefixList", "<init>", "(Ljava/lang/String;I)V"⟩ ∈ pw_T := (pw_in 612 (by decide +kernel) rfl)
set_option maxRecDepth 100000 in
theorem ko_Pl_init : Cond.code ⟨"RoutingField$PrefixList", "<init>", "(Ljava/lang/String;I)V"⟩ prog_8_method_1_code 4 none ∈ pw_T := (pw_in 613 rfl rfl)
set_option maxRecDepth 100000 in
theorem kD_Pl_init : ∀ q ∈ kC_Pl_init, decode prog_8_method_1_code q.1 = .ok (q.2, pm_len q.1 q.2) := by decide +kernel
set_option maxRecDepth 100000 in
theorem kW_Pl_init (l : Launch) (D : va_G) (base : Nat) (sa : Nat → Nat) : pm_Met l D kcl base (kZ sa) ⟨"RoutingField$PrefixList", "<init>", "(Ljava/lang/String;I)V"⟩ (.code ⟨"RoutingField$PrefixList", "<init>", "(Ljava/lang/String;I)V"⟩ prog_8_method_1_code 4 none :: pw_T) 1 25 (kP_Pl_init base sa) := by
  refine pm_met (by decide) rfl rfl ?_
  intro mc ms p e s m args below meth c hx hb hml hown hnm hts hbs hZ
  have ht : ∀ w ∈ pw_T, w.before args s = true := fun w h => hts w (List.mem_cons_of_mem _ h)
  exact ⟨hx, hb, hown, hbs, pm_look_all kD_Pl_init, kf_ok (init := true) ht hZ kF_Pl_ok (fun _ => hnm), km_ok ht kM_Pl_ok, kci_ok ht kI_Pl_ok, kli_ok ht kJ_Pl_ok, kar_ok ht hZ kA_Pl_ok,
    pm_look_all (List.forall_mem_cons.mpr ⟨pm_cokO hx hb hml hown (ht _ (pw_in 614 (by decide +kernel) rfl)) (ht _ (pw_in 31 (by decide +kernel) rfl)) (ht _ (pw_in 32 rfl rfl)) (Nat.le_of_ble_eq_true rfl) (Nat.le_of_ble_eq_true rfl), List.forall_mem_cons.mpr ⟨pm_cokMx hx hb hml hown (ht _ (pw_in 615 (w := .methodLink "RoutingField$PrefixList" 15 ⟨"java/lang/Math", "max", "(II)I"⟩) (by decide +kernel) rfl)) (ht _ (pw_in 484 (by decide +kernel) rfl)) (ht _ (pw_in 14 (by decide +kernel) rfl)) (ht _ (pw_in 485 rfl rfl)) (Nat.le_of_ble_eq_true rfl) (Nat.le_of_ble_eq_true rfl), fun _ h => absurd h List.not_mem_nil⟩⟩),
    hZ, kst_ok ht hZ (kS_Pl_ok sa), knar_ok ht, ktx_ok (kE_Pl_ok sa)⟩
