set_option maxRecDepth 100000 in
theorem ki_Po_entryRoom : Cond.instanceMethod ⟨"RoutingField$Port", "entryRoom", "(II)I"⟩ ∈ pw_T := (pw_in 1516 (by decide +kernel) rfl)
set_option maxRecDepth 100000 in
theorem ks_Po_entryRoom : Cond.selects "RoutingField$Port" ⟨"RoutingField$Port", "entryRoom", "(II)I"⟩ ⟨"RoutingField$Port", "entryRoom", "(II)I"⟩ ∈ pw_T := (pw_in 1517 (by decide +kernel) rfl)
set_option maxRecDepth 100000 in
theorem ko_Po_entryRoom : Cond.code ⟨"RoutingField$Port", "entryRoom", "(II)I"⟩ prog_6_method_8_code 5 (some .int) ∈ pw_T := (pw_in 1518 rfl rfl)
set_option maxRecDepth 100000 in
theorem kD_Po_entryRoom : ∀ q ∈ kC_Po_entryRoom, decode prog_6_method_8_code q.1 = .ok (q.2, pm_len q.1 q.2) := by decide +kernel
set_option maxRecDepth 100000 in
theorem kW_Po_entryRoom (l : Launch) (D : va_G) (base : Nat) (sa : Nat → Nat) : pm_Met l D kcl base (kZ sa) ⟨"RoutingField$Port", "entryRoom", "(II)I"⟩ (.code ⟨"RoutingField$Port", "entryRoom", "(II)I"⟩ prog_6_method_8_code 5 (some .int) :: pw_T) 1 25 (kP_Po_entryRoom base sa) := by
  refine pm_met (by decide) rfl rfl ?_
  intro mc ms p e s m args below meth c hx hb hml hown hnm hts hbs hZ
  have ht : ∀ w ∈ pw_T, w.before args s = true := fun w h => hts w (List.mem_cons_of_mem _ h)
  exact ⟨hx, hb, hown, hbs, pm_look_all kD_Po_entryRoom, kf_ok (init := false) ht hZ kF_Po_ok (fun h => by cases h), km_ok ht kM_Po_ok, kci_ok ht kI_Po_ok, kli_ok ht kJ_Po_ok, kar_ok ht hZ kA_Po_ok,
    pm_look_all (List.forall_mem_cons.mpr ⟨pm_cokV hbs hZ ⟨hx, hb, hml, hown, hts⟩ (kW_Ch_endSize l D base sa) (fun mc ms => cwV 1 hts (pw_gV (pw_in 1440 (w := .methodLink "RoutingField$Port" 101 ⟨"RoutingField$Chain", "endSize", "(I)I"⟩) (by decide +kernel) rfl) ki_Ch_endSize ks_Ch_endSize kn_Ch ko_Ch_endSize) rfl rfl rfl (by decide +kernel) ⟨Nat.le_of_ble_eq_true rfl, Nat.le_of_ble_eq_true rfl⟩) (ci := 1) rfl, List.forall_mem_cons.mpr ⟨pm_cokMn hx hb hml hown (ht _ (pw_in 1519 (w := .methodLink "RoutingField$Port" 105 ⟨"java/lang/Math", "min", "(II)I"⟩) (by decide +kernel) rfl)) (ht _ (pw_in 1160 (by decide +kernel) rfl)) (ht _ (pw_in 14 (by decide +kernel) rfl)) (ht _ (pw_in 1161 rfl rfl)) (Nat.le_of_ble_eq_true rfl) (Nat.le_of_ble_eq_true rfl), List.forall_mem_cons.mpr ⟨pm_cokMx hx hb hml hown (ht _ (pw_in 1439 (w := .methodLink "RoutingField$Port" 111 ⟨"java/lang/Math", "max", "(II)I"⟩) (by decide +kernel) rfl)) (ht _ (pw_in 484 (by decide +kernel) rfl)) (ht _ (pw_in 14 (by decide +kernel) rfl)) (ht _ (pw_in 485 rfl rfl)) (Nat.le_of_ble_eq_true rfl) (Nat.le_of_ble_eq_true rfl), fun _ h => absurd h List.not_mem_nil⟩⟩⟩),
    hZ, kst_ok ht hZ (kS_Po_ok sa), knar_ok ht, ktx_ok (kE_Po_ok sa)⟩
set_option maxRecDepth 100000 in
theorem ki_Da_addEntry : Cond.instanceMethod ⟨"RoutingField$Datagram", "addEntry", "(LRoutingField$Prefix;II)V"⟩ ∈ pw_T := (pw_in 1521 (by decide +kernel) rfl)
set_option maxRecDepth 100000 in
theorem ks_Da_addEntry : Cond.selects "RoutingField$Datagram" ⟨"RoutingField$Datagram", "addEntry", "(LRoutingField$Prefix;II)V"⟩ ⟨"RoutingField$Datagram", "addEntry", "(LRoutingField$Prefix;II)V"⟩ ∈ pw_T := (pw_in 1522 (by decide +kernel) rfl)
set_option maxRecDepth 100000 in
theorem ko_Da_addEntry : Cond.code ⟨"RoutingField$Datagram", "addEntry", "(LRoutingField$Prefix;II)V"⟩ prog_4_method_8_code 4 none ∈ pw_T := (pw_in 1523 rfl rfl)
set_option maxRecDepth 100000 in
theorem kD_Da_addEntry_0 : ∀ q ∈ kC_Da_addEntry_0, decode prog_4_method_8_code q.1 = .ok (q.2, pm_len q.1 q.2) := by decide +kernel
set_option maxRecDepth 100000 in
theorem kD_Da_addEntry_1 : ∀ q ∈ kC_Da_addEntry_1, decode prog_4_method_8_code q.1 = .ok (q.2, pm_len q.1 q.2) := by decide +kernel
theorem kD_Da_addEntry : ∀ q ∈ kC_Da_addEntry, decode prog_4_method_8_code q.1 = .ok (q.2, pm_len q.1 q.2) := List.forall_mem_append.mpr ⟨kD_Da_addEntry_0, kD_Da_addEntry_1⟩
set_option maxRecDepth 100000 in
theorem kW_Da_addEntry (l : Launch) (D : va_G) (base : Nat) (sa : Nat → Nat) : pm_Met l D kcl base (kZ sa) ⟨"RoutingField$Datagram", "addEntry", "(LRoutingField$Prefix;II)V"⟩ (.code ⟨"RoutingField$Datagram", "addEntry", "(LRoutingField$Prefix;II)V"⟩ prog_4_method_8_code 4 none :: pw_T) 2 47 (kP_Da_addEntry base sa) := by
  refine pm_met (by decide) rfl rfl ?_
  intro mc ms p e s m args below meth c hx hb hml hown hnm hts hbs hZ
  have ht : ∀ w ∈ pw_T, w.before args s = true := fun w h => hts w (List.mem_cons_of_mem _ h)
  exact ⟨hx, hb, hown, hbs, pm_look_all kD_Da_addEntry, kf_ok (init := false) ht hZ kF_Da_ok (fun h => by cases h), km_ok ht kM_Da_ok, kci_ok ht kI_Da_ok, kli_ok ht kJ_Da_ok, kar_ok ht hZ kA_Da_ok,
    pm_look_all (List.forall_mem_cons.mpr ⟨pm_cokV hbs hZ ⟨hx, hb, hml, hown, hts⟩ (kW_By_addNumber l D base sa) (fun mc ms => cwV 2 hts (pw_gV (pw_in 1525 (w := .methodLink "RoutingField$Datagram" 101 ⟨"RoutingField$Bytes", "addNumber", "(JI)V"⟩) (by decide +kernel) rfl) ki_By_addNumber ks_By_addNumber kn_By ko_By_addNumber) rfl rfl rfl (by decide +kernel) ⟨Nat.le_of_ble_eq_true rfl, Nat.le_of_ble_eq_true rfl⟩) (ci := 0) rfl, List.forall_mem_cons.mpr ⟨pm_cokS hbs hZ ⟨hx, hb, hml, hown, hts⟩ (kW_Pr_maskHigh l D base sa) (fun mc ms => va_cwS 1 hts (pw_gS (pw_in 1526 (w := .methodLink "RoutingField$Datagram" 98 ⟨"RoutingField$Prefix", "maskHigh", "(I)J"⟩) (by decide +kernel) rfl) kv_Pr_maskHigh kn_Pr ko_Pr_maskHigh) rfl rfl rfl (by decide +kernel) ⟨Nat.le_of_ble_eq_true rfl, Nat.le_of_ble_eq_true rfl⟩) (Nat.le_of_ble_eq_true rfl), List.forall_mem_cons.mpr ⟨pm_cokV hbs hZ ⟨hx, hb, hml, hown, hts⟩ (kW_By_add l D base sa) (fun mc ms => cwV 1 hts (pw_gV (pw_in 1527 (w := .methodLink "RoutingField$Datagram" 112 ⟨"RoutingField$Bytes", "add", "(I)V"⟩) (by decide +kernel) rfl) ki_By_add ks_By_add kn_By ko_By_add) rfl rfl rfl (by decide +kernel) ⟨Nat.le_of_ble_eq_true rfl, Nat.le_of_ble_eq_true rfl⟩) (ci := 0) rfl, fun _ h => absurd h List.not_mem_nil⟩⟩⟩),
    hZ, kst_ok ht hZ (kS_Da_ok sa), knar_ok ht, ktx_ok (kE_Da_ok sa)⟩
set_option maxRecDepth 100000 in
theorem ki_Rr_sendTold : Cond.instanceMethod ⟨"RoutingField$Router", "sendTold", "(LRoutingField$Port;ILRoutingField$Prefix;)V"⟩ ∈ pw_T := (pw_in 1513 (by decide +kernel) rfl)
set_option maxRecDepth 100000 in
theorem ks_Rr_sendTold : Cond.selects "RoutingField$Router" ⟨"RoutingField$Router", "sendTold", "(LRoutingField$Port;ILRoutingField$Prefix;)V"⟩ ⟨"RoutingField$Router", "sendTold", "(LRoutingField$Port;ILRoutingField$Prefix;)V"⟩ ∈ pw_T := (pw_sel 73 (q := (⟨"RoutingField$Router", "sendTold", "(LRoutingField$Port;ILRoutingField$Prefix;)V"⟩, 20)) (by decide +kernel))
set_option maxRecDepth 100000 in
theorem ko_Rr_sendTold : Cond.code ⟨"RoutingField$Router", "sendTold", "(LRoutingField$Port;ILRoutingField$Prefix;)V"⟩ prog_11_method_28_code 8 none ∈ pw_T := (pw_in 1514 rfl rfl)
set_option maxRecDepth 100000 in
theorem kD_Rr_sendTold_0 : ∀ q ∈ kC_Rr_sendTold_0, decode prog_11_method_28_code q.1 = .ok (q.2, pm_len q.1 q.2) := by decide +kernel
set_option maxRecDepth 100000 in
theorem kD_Rr_sendTold_1 : ∀ q ∈ kC_Rr_sendTold_1, decode prog_11_method_28_code q.1 = .ok (q.2, pm_len q.1 q.2) := by decide +kernel
theorem kD_Rr_sendTold : ∀ q ∈ kC_Rr_sendTold, decode prog_11_method_28_code q.1 = .ok (q.2, pm_len q.1 q.2) := List.forall_mem_append.mpr ⟨kD_Rr_sendTold_0, kD_Rr_sendTold_1⟩
set_option maxRecDepth 100000 in
theorem kW_Rr_sendTold (l : Launch) (D : va_G) (base : Nat) (sa : Nat → Nat) : pm_Met l D kcl base (kZ sa) ⟨"RoutingField$Router", "sendTold", "(LRoutingField$Port;ILRoutingField$Prefix;)V"⟩ (.code ⟨"RoutingField$Router", "sendTold", "(LRoutingField$Port;ILRoutingField$Prefix;)V"⟩ prog_11_method_28_code 8 none :: pw_T) 5 107 (kP_Rr_sendTold base sa) := by
  refine pm_met (by decide) rfl rfl ?_
  intro mc ms p e s m args below meth c hx hb hml hown hnm hts hbs hZ
  have ht : ∀ w ∈ pw_T, w.before args s = true := fun w h => hts w (List.mem_cons_of_mem _ h)
  exact ⟨hx, hb, hown, hbs, pm_look_all kD_Rr_sendTold, kf_ok (init := false) ht hZ kF_Rr_ok (fun h => by cases h), km_ok ht kM_Rr_ok, kci_ok ht kI_Rr_ok, kli_ok ht kJ_Rr_ok, kar_ok ht hZ kA_Rr_ok,
    pm_look_all (List.forall_mem_cons.mpr ⟨pm_cokV hbs hZ ⟨hx, hb, hml, hown, hts⟩ (kW_Rr_openDraft l D base sa) (fun mc ms => cwV 3 hts (pw_gV (pw_in 1115 (w := .methodLink "RoutingField$Router" 399 ⟨"RoutingField$Router", "openDraft", "(LRoutingField$Port;II)I"⟩) (by decide +kernel) rfl) ki_Rr_openDraft ks_Rr_openDraft kn_Rr ko_Rr_openDraft) rfl rfl rfl (by decide +kernel) ⟨Nat.le_of_ble_eq_true rfl, Nat.le_of_ble_eq_true rfl⟩) (ci := 9) rfl, List.forall_mem_cons.mpr ⟨pm_cokV hbs hZ ⟨hx, hb, hml, hown, hts⟩ (kW_Po_entryRoom l D base sa) (fun mc ms => cwV 2 hts (pw_gV (pw_in 1515 (w := .methodLink "RoutingField$Router" 403 ⟨"RoutingField$Port", "entryRoom", "(II)I"⟩) (by decide +kernel) rfl) ki_Po_entryRoom ks_Po_entryRoom kn_Po ko_Po_entryRoom) rfl rfl rfl (by decide +kernel) ⟨Nat.le_of_ble_eq_true rfl, Nat.le_of_ble_eq_true rfl⟩) (ci := 4) rfl, List.forall_mem_cons.mpr ⟨pm_cokMn hx hb hml hown (ht _ (pw_in 1495 (w := .methodLink "RoutingField$Router" 229 ⟨"java/lang/Math", "min", "(II)I"⟩) (by decide +kernel) rfl)) (ht _ (pw_in 1160 (by decide +kernel) rfl)) (ht _ (pw_in 14 (by decide +kernel) rfl)) (ht _ (pw_in 1161 rfl rfl)) (Nat.le_of_ble_eq_true rfl) (Nat.le_of_ble_eq_true rfl), List.forall_mem_cons.mpr ⟨pm_cokV hbs hZ ⟨hx, hb, hml, hown, hts⟩ (kW_Da_addEntry l D base sa) (fun mc ms => cwV 3 hts (pw_gV (pw_in 1520 (w := .methodLink "RoutingField$Router" 406 ⟨"RoutingField$Datagram", "addEntry", "(LRoutingField$Prefix;II)V"⟩) (by decide +kernel) rfl) ki_Da_addEntry ks_Da_addEntry kn_Da ko_Da_addEntry) rfl rfl rfl (by decide +kernel) ⟨Nat.le_of_ble_eq_true rfl, Nat.le_of_ble_eq_true rfl⟩) (ci := 2) rfl, List.forall_mem_cons.mpr ⟨pm_cokV hbs hZ ⟨hx, hb, hml, hown, hts⟩ (kW_Ch_seal l D base sa) (fun mc ms => cwV 2 hts (pw_gV (pw_in 1146 (w := .methodLink "RoutingField$Router" 410 ⟨"RoutingField$Chain", "seal", "(LRoutingField$Bytes;I)V"⟩) (by decide +kernel) rfl) ki_Ch_seal ks_Ch_seal kn_Ch ko_Ch_seal) rfl rfl rfl (by decide +kernel) ⟨Nat.le_of_ble_eq_true rfl, Nat.le_of_ble_eq_true rfl⟩) (ci := 1) rfl, List.forall_mem_cons.mpr ⟨pm_cokV hbs hZ ⟨hx, hb, hml, hown, hts⟩ (kW_Rr_sendDraft l D base sa) (fun mc ms => cwV 2 hts (pw_gV (pw_in 1211 (w := .methodLink "RoutingField$Router" 414 ⟨"RoutingField$Router", "sendDraft", "(LRoutingField$Port;LRoutingField$Prefix;)V"⟩) (by decide +kernel) rfl) ki_Rr_sendDraft ks_Rr_sendDraft kn_Rr ko_Rr_sendDraft) rfl rfl rfl (by decide +kernel) ⟨Nat.le_of_ble_eq_true rfl, Nat.le_of_ble_eq_true rfl⟩) (ci := 9) rfl, fun _ h => absurd h List.not_mem_nil⟩⟩⟩⟩⟩⟩),
    hZ, kst_ok ht hZ (kS_Rr_ok sa), knar_ok ht, ktx_ok (kE_Rr_ok sa)⟩
set_option maxRecDepth 100000 in
theorem ki_Pr_takeBytes : Cond.instanceMethod ⟨"RoutingField$Prefix", "takeBytes", "(LRoutingField$Bytes;II)V"⟩ ∈ pw_T := (pw_in 1537 (by decide +kernel) rfl)
set_option maxRecDepth 100000 in
theorem ks_Pr_takeBytes : Cond.selects "RoutingField$Prefix" ⟨"RoutingField$Prefix", "takeBytes", "(LRoutingField$Bytes;II)V"⟩ ⟨"RoutingField$Prefix", "takeBytes", "(LRoutingField$Bytes;II)V"⟩ ∈ pw_T := (pw_in 1538 (by decide +kernel) rfl)
set_option maxRecDepth 100000 in
theorem ko_Pr_takeBytes : Cond.code ⟨"RoutingField$Prefix", "takeBytes", "(LRoutingField$Bytes;II)V"⟩ prog_7_method_15_code 4 none ∈ pw_T := (pw_in 1539 rfl rfl)
set_option maxRecDepth 100000 in
theorem kD_Pr_takeBytes : ∀ q ∈ kC_Pr_takeBytes, decode prog_7_method_15_code q.1 = .ok (q.2, pm_len q.1 q.2) := by decide +kernel
set_option maxRecDepth 100000 in
theorem kW_Pr_takeBytes (l : Launch) (D : va_G) (base : Nat) (sa : Nat → Nat) : pm_Met l D kcl base (kZ sa) ⟨"RoutingField$Prefix", "takeBytes", "(LRoutingField$Bytes;II)V"⟩ (.code ⟨"RoutingField$Prefix", "takeBytes", "(LRoutingField$Bytes;II)V"⟩ prog_7_method_15_code 4 none :: pw_T) 1 25 (kP_Pr_takeBytes base sa) := by
  refine pm_met (by decide) rfl rfl ?_
  intro mc ms p e s m args below meth c hx hb hml hown hnm hts hbs hZ
  have ht : ∀ w ∈ pw_T, w.before args s = true := fun w h => hts w (List.mem_cons_of_mem _ h)
  exact ⟨hx, hb, hown, hbs, pm_look_all kD_Pr_takeBytes, kf_ok (init := false) ht hZ kF_Pr_ok (fun h => by cases h), km_ok ht kM_Pr_ok, kci_ok ht kI_Pr_ok, kli_ok ht kJ_Pr_ok, kar_ok ht hZ kA_Pr_ok,
    pm_look_all (List.forall_mem_cons.mpr ⟨pm_cokS hbs hZ ⟨hx, hb, hml, hown, hts⟩ (kW_Pr_bitsOf l D base sa) (fun mc ms => va_cwS 1 hts (pw_gS (pw_in 809 (w := .methodLink "RoutingField$Prefix" 41 ⟨"RoutingField$Prefix", "bitsOf", "(I)I"⟩) (by decide +kernel) rfl) kv_Pr_bitsOf kn_Pr ko_Pr_bitsOf) rfl rfl rfl (by decide +kernel) ⟨Nat.le_of_ble_eq_true rfl, Nat.le_of_ble_eq_true rfl⟩) (Nat.le_of_ble_eq_true rfl), List.forall_mem_cons.mpr ⟨pm_cokV hbs hZ ⟨hx, hb, hml, hown, hts⟩ (kW_By_numberAt l D base sa) (fun mc ms => cwV 2 hts (pw_gV (pw_in 1540 (w := .methodLink "RoutingField$Prefix" 45 ⟨"RoutingField$Bytes", "numberAt", "(II)J"⟩) (by decide +kernel) rfl) ki_By_numberAt ks_By_numberAt kn_By ko_By_numberAt) rfl rfl rfl (by decide +kernel) ⟨Nat.le_of_ble_eq_true rfl, Nat.le_of_ble_eq_true rfl⟩) (ci := 0) rfl, fun _ h => absurd h List.not_mem_nil⟩⟩),
    hZ, kst_ok ht hZ (kS_Pr_ok sa), knar_ok ht, ktx_ok (kE_Pr_ok sa)⟩
set_option maxRecDepth 100000 in
theorem kv_Ig_bitCount : Cond.static ⟨"java/lang/Integer", "bitCount", "(I)I"⟩ ∈ pw_T := (pw_in 1543 (by decide +kernel) rfl)
set_option maxRecDepth 100000 in
theorem ko_Ig_bitCount : Cond.code ⟨"java/lang/Integer", "bitCount", "(I)I"⟩ prog_16_method_49_code 1 (some .int) ∈ pw_T := (pw_in 1544 rfl rfl)
set_option maxRecDepth 100000 in
theorem kD_Ig_bitCount : ∀ q ∈ kC_Ig_bitCount, decode prog_16_method_49_code q.1 = .ok (q.2, pm_len q.1 q.2) := by decide +kernel
set_option maxRecDepth 100000 in
theorem kW_Ig_bitCount (l : Launch) (D : va_G) (base : Nat) (sa : Nat → Nat) : pm_Met l D kcl base (kZ sa) ⟨"java/lang/Integer", "bitCount", "(I)I"⟩ (.code ⟨"java/lang/Integer", "bitCount", "(I)I"⟩ prog_16_method_49_code 1 (some .int) :: pw_T) 0 0 (kP_Ig_bitCount base sa) := by
  refine pm_met (by decide) rfl rfl ?_
  intro mc ms p e s m args below meth c hx hb hml hown hnm hts hbs hZ
  have ht : ∀ w ∈ pw_T, w.before args s = true := fun w h => hts w (List.mem_cons_of_mem _ h)
  exact ⟨hx, hb, hown, hbs, pm_look_all kD_Ig_bitCount, kf_ok (init := false) ht hZ kF_Ig_ok (fun h => by cases h), km_ok ht kM_Ig_ok, kci_ok ht kI_Ig_ok, kli_ok ht kJ_Ig_ok, kar_ok ht hZ kA_Ig_ok,
    pm_look_all (fun _ h => absurd h List.not_mem_nil),
    hZ, kst_ok ht hZ (kS_Ig_ok sa), knar_ok ht, ktx_ok (kE_Ig_ok sa)⟩
set_option maxRecDepth 100000 in
theorem ki_Da_takePrefix : Cond.instanceMethod ⟨"RoutingField$Datagram", "takePrefix", "(ILRoutingField$Prefix;)Z"⟩ ∈ pw_T := (pw_in 1533 (by decide +kernel) rfl)
set_option maxRecDepth 100000 in
theorem ks_Da_takePrefix : Cond.selects "RoutingField$Datagram" ⟨"RoutingField$Datagram", "takePrefix", "(ILRoutingField$Prefix;)Z"⟩ ⟨"RoutingField$Datagram", "takePrefix", "(ILRoutingField$Prefix;)Z"⟩ ∈ pw_T := (pw_in 1534 (by decide +kernel) rfl)
set_option maxRecDepth 100000 in
theorem ko_Da_takePrefix : Cond.code ⟨"RoutingField$Datagram", "takePrefix", "(ILRoutingField$Prefix;)Z"⟩ prog_4_method_7_code 5 (some .boolean) ∈ pw_T := (pw_in 1535 rfl rfl)
set_option maxRecDepth 100000 in
theorem kD_Da_takePrefix_0 : ∀ q ∈ kC_Da_takePrefix_0, decode prog_4_method_7_code q.1 = .ok (q.2, pm_len q.1 q.2) := by decide +kernel
set_option maxRecDepth 100000 in
theorem kD_Da_takePrefix_1 : ∀ q ∈ kC_Da_takePrefix_1, decode prog_4_method_7_code q.1 = .ok (q.2, pm_len q.1 q.2) := by decide +kernel
theorem kD_Da_takePrefix : ∀ q ∈ kC_Da_takePrefix, decode prog_4_method_7_code q.1 = .ok (q.2, pm_len q.1 q.2) := List.forall_mem_append.mpr ⟨kD_Da_takePrefix_0, kD_Da_takePrefix_1⟩
set_option maxRecDepth 100000 in
theorem kW_Da_takePrefix (l : Launch) (D : va_G) (base : Nat) (sa : Nat → Nat) : pm_Met l D kcl base (kZ sa) ⟨"RoutingField$Datagram", "takePrefix", "(ILRoutingField$Prefix;)Z"⟩ (.code ⟨"RoutingField$Datagram", "takePrefix", "(ILRoutingField$Prefix;)Z"⟩ prog_4_method_7_code 5 (some .boolean) :: pw_T) 2 48 (kP_Da_takePrefix base sa) := by
  refine pm_met (by decide) rfl rfl ?_
  intro mc ms p e s m args below meth c hx hb hml hown hnm hts hbs hZ
  have ht : ∀ w ∈ pw_T, w.before args s = true := fun w h => hts w (List.mem_cons_of_mem _ h)
  exact ⟨hx, hb, hown, hbs, pm_look_all kD_Da_takePrefix, kf_ok (init := false) ht hZ kF_Da_ok (fun h => by cases h), km_ok ht kM_Da_ok, kci_ok ht kI_Da_ok, kli_ok ht kJ_Da_ok, kar_ok ht hZ kA_Da_ok,
    pm_look_all (List.forall_mem_cons.mpr ⟨pm_cokV hbs hZ ⟨hx, hb, hml, hown, hts⟩ (kW_Pr_takeBytes l D base sa) (fun mc ms => cwV 3 hts (pw_gV (pw_in 1536 (w := .methodLink "RoutingField$Datagram" 82 ⟨"RoutingField$Prefix", "takeBytes", "(LRoutingField$Bytes;II)V"⟩) (by decide +kernel) rfl) ki_Pr_takeBytes ks_Pr_takeBytes kn_Pr ko_Pr_takeBytes) rfl rfl rfl (by decide +kernel) ⟨Nat.le_of_ble_eq_true rfl, Nat.le_of_ble_eq_true rfl⟩) (ci := 5) rfl, List.forall_mem_cons.mpr ⟨pm_cokV hbs hZ ⟨hx, hb, hml, hown, hts⟩ (kW_By_at l D base sa) (fun mc ms => cwV 1 hts (pw_gV (pw_in 1399 (w := .methodLink "RoutingField$Datagram" 64 ⟨"RoutingField$Bytes", "at", "(I)I"⟩) (by decide +kernel) rfl) ki_By_at ks_By_at kn_By ko_By_at) rfl rfl rfl (by decide +kernel) ⟨Nat.le_of_ble_eq_true rfl, Nat.le_of_ble_eq_true rfl⟩) (ci := 0) rfl, List.forall_mem_cons.mpr ⟨pm_cokV hbs hZ ⟨hx, hb, hml, hown, hts⟩ (kW_Pr_hasBitsBehind l D base sa) (fun mc ms => cwV 0 hts (pw_gV (pw_in 1541 (w := .methodLink "RoutingField$Datagram" 87 ⟨"RoutingField$Prefix", "hasBitsBehind", "()Z"⟩) (by decide +kernel) rfl) ki_Pr_hasBitsBehind ks_Pr_hasBitsBehind kn_Pr ko_Pr_hasBitsBehind) rfl rfl rfl (by decide +kernel) ⟨Nat.le_of_ble_eq_true rfl, Nat.le_of_ble_eq_true rfl⟩) (ci := 5) rfl, List.forall_mem_cons.mpr ⟨pm_cokV hbs hZ ⟨hx, hb, hml, hown, hts⟩ (kW_By_numberAt l D base sa) (fun mc ms => cwV 2 hts (pw_gV (pw_in 1459 (w := .methodLink "RoutingField$Datagram" 78 ⟨"RoutingField$Bytes", "numberAt", "(II)J"⟩) (by decide +kernel) rfl) ki_By_numberAt ks_By_numberAt kn_By ko_By_numberAt) rfl rfl rfl (by decide +kernel) ⟨Nat.le_of_ble_eq_true rfl, Nat.le_of_ble_eq_true rfl⟩) (ci := 0) rfl, List.forall_mem_cons.mpr ⟨pm_cokS hbs hZ ⟨hx, hb, hml, hown, hts⟩ (kW_Ig_bitCount l D base sa) (fun mc ms => va_cwS 1 hts (pw_gS (pw_in 1542 (w := .methodLink "RoutingField$Datagram" 91 ⟨"java/lang/Integer", "bitCount", "(I)I"⟩) (by decide +kernel) rfl) kv_Ig_bitCount kn_Ig ko_Ig_bitCount) rfl rfl rfl (by decide +kernel) ⟨Nat.le_of_ble_eq_true rfl, Nat.le_of_ble_eq_true rfl⟩) (Nat.le_of_ble_eq_true rfl), List.forall_mem_cons.mpr ⟨pm_cokS hbs hZ ⟨hx, hb, hml, hown, hts⟩ (kW_Pr_maskHigh l D base sa) (fun mc ms => va_cwS 1 hts (pw_gS (pw_in 1526 (w := .methodLink "RoutingField$Datagram" 98 ⟨"RoutingField$Prefix", "maskHigh", "(I)J"⟩) (by decide +kernel) rfl) kv_Pr_maskHigh kn_Pr ko_Pr_maskHigh) rfl rfl rfl (by decide +kernel) ⟨Nat.le_of_ble_eq_true rfl, Nat.le_of_ble_eq_true rfl⟩) (Nat.le_of_ble_eq_true rfl), fun _ h => absurd h List.not_mem_nil⟩⟩⟩⟩⟩⟩),
    hZ, kst_ok ht hZ (kS_Da_ok sa), knar_ok ht, ktx_ok (kE_Da_ok sa)⟩
set_option maxRecDepth 100000 in
theorem ki_Rr_answerEach : Cond.instanceMethod ⟨"RoutingField$Router", "answerEach", "(LRoutingField$Datagram;LRoutingField$Port;)V"⟩ ∈ pw_T := (pw_in 1530 (by decide +kernel) rfl)
set_option maxRecDepth 100000 in
theorem ks_Rr_answerEach : Cond.selects "RoutingField$Router" ⟨"RoutingField$Router", "answerEach", "(LRoutingField$Datagram;LRoutingField$Port;)V"⟩ ⟨"RoutingField$Router", "answerEach", "(LRoutingField$Datagram;LRoutingField$Port;)V"⟩ ∈ pw_T := (pw_sel 74 (q := (⟨"RoutingField$Router", "answerEach", "(LRoutingField$Datagram;LRoutingField$Port;)V"⟩, 20)) (by decide +kernel))
set_option maxRecDepth 100000 in
theorem ko_Rr_answerEach : Cond.code ⟨"RoutingField$Router", "answerEach", "(LRoutingField$Datagram;LRoutingField$Port;)V"⟩ prog_11_method_33_code 8 none ∈ pw_T := (pw_in 1531 rfl rfl)
set_option maxRecDepth 100000 in
theorem kD_Rr_answerEach_0 : ∀ q ∈ kC_Rr_answerEach_0, decode prog_11_method_33_code q.1 = .ok (q.2, pm_len q.1 q.2) := by decide +kernel
set_option maxRecDepth 100000 in
theorem kD_Rr_answerEach_1 : ∀ q ∈ kC_Rr_answerEach_1, decode prog_11_method_33_code q.1 = .ok (q.2, pm_len q.1 q.2) := by decide +kernel
theorem kD_Rr_answerEach : ∀ q ∈ kC_Rr_answerEach, decode prog_11_method_33_code q.1 = .ok (q.2, pm_len q.1 q.2) := List.forall_mem_append.mpr ⟨kD_Rr_answerEach_0, kD_Rr_answerEach_1⟩
set_option maxRecDepth 100000 in
theorem kW_Rr_answerEach (l : Launch) (D : va_G) (base : Nat) (sa : Nat → Nat) : pm_Met l D kcl base (kZ sa) ⟨"RoutingField$Router", "answerEach", "(LRoutingField$Datagram;LRoutingField$Port;)V"⟩ (.code ⟨"RoutingField$Router", "answerEach", "(LRoutingField$Datagram;LRoutingField$Port;)V"⟩ prog_11_method_33_code 8 none :: pw_T) 5 107 (kP_Rr_answerEach base sa) := by
  refine pm_met (by decide) rfl rfl ?_
  intro mc ms p e s m args below meth c hx hb hml hown hnm hts hbs hZ
  have ht : ∀ w ∈ pw_T, w.before args s = true := fun w h => hts w (List.mem_cons_of_mem _ h)
  exact ⟨hx, hb, hown, hbs, pm_look_all kD_Rr_answerEach, kf_ok (init := false) ht hZ kF_Rr_ok (fun h => by cases h), km_ok ht kM_Rr_ok, kci_ok ht kI_Rr_ok, kli_ok ht kJ_Rr_ok, kar_ok ht hZ kA_Rr_ok,
    pm_look_all (List.forall_mem_cons.mpr ⟨pm_cokV hbs hZ ⟨hx, hb, hml, hown, hts⟩ (kW_Rr_openDraft l D base sa) (fun mc ms => cwV 3 hts (pw_gV (pw_in 1115 (w := .methodLink "RoutingField$Router" 399 ⟨"RoutingField$Router", "openDraft", "(LRoutingField$Port;II)I"⟩) (by decide +kernel) rfl) ki_Rr_openDraft ks_Rr_openDraft kn_Rr ko_Rr_openDraft) rfl rfl rfl (by decide +kernel) ⟨Nat.le_of_ble_eq_true rfl, Nat.le_of_ble_eq_true rfl⟩) (ci := 9) rfl, List.forall_mem_cons.mpr ⟨pm_cokV hbs hZ ⟨hx, hb, hml, hown, hts⟩ (kW_Da_takePrefix l D base sa) (fun mc ms => cwV 2 hts (pw_gV (pw_in 1532 (w := .methodLink "RoutingField$Router" 454 ⟨"RoutingField$Datagram", "takePrefix", "(ILRoutingField$Prefix;)Z"⟩) (by decide +kernel) rfl) ki_Da_takePrefix ks_Da_takePrefix kn_Da ko_Da_takePrefix) rfl rfl rfl (by decide +kernel) ⟨Nat.le_of_ble_eq_true rfl, Nat.le_of_ble_eq_true rfl⟩) (ci := 2) rfl, List.forall_mem_cons.mpr ⟨pm_cokV hbs hZ ⟨hx, hb, hml, hown, hts⟩ (kW_Ta_find l D base sa) (fun mc ms => cwV 1 hts (pw_gV (pw_in 1000 (w := .methodLink "RoutingField$Router" 150 ⟨"RoutingField$Table", "find", "(LRoutingField$Prefix;)LRoutingField$Route;"⟩) (by decide +kernel) rfl) ki_Ta_find ks_Ta_find kn_Ta ko_Ta_find) rfl rfl rfl (by decide +kernel) ⟨Nat.le_of_ble_eq_true rfl, Nat.le_of_ble_eq_true rfl⟩) (ci := 10) rfl, List.forall_mem_cons.mpr ⟨pm_cokV hbs hZ ⟨hx, hb, hml, hown, hts⟩ (kW_By_addPart l D base sa) (fun mc ms => cwV 3 hts (pw_gV (pw_in 1548 (w := .methodLink "RoutingField$Router" 458 ⟨"RoutingField$Bytes", "addPart", "(LRoutingField$Bytes;II)V"⟩) (by decide +kernel) rfl) ki_By_addPart ks_By_addPart kn_By ko_By_addPart) rfl rfl rfl (by decide +kernel) ⟨Nat.le_of_ble_eq_true rfl, Nat.le_of_ble_eq_true rfl⟩) (ci := 0) rfl, List.forall_mem_cons.mpr ⟨pm_cokV hbs hZ ⟨hx, hb, hml, hown, hts⟩ (kW_By_addNumber l D base sa) (fun mc ms => cwV 2 hts (pw_gV (pw_in 1550 (w := .methodLink "RoutingField$Router" 463 ⟨"RoutingField$Bytes", "addNumber", "(JI)V"⟩) (by decide +kernel) rfl) ki_By_addNumber ks_By_addNumber kn_By ko_By_addNumber) rfl rfl rfl (by decide +kernel) ⟨Nat.le_of_ble_eq_true rfl, Nat.le_of_ble_eq_true rfl⟩) (ci := 0) rfl, List.forall_mem_cons.mpr ⟨pm_cokV hbs hZ ⟨hx, hb, hml, hown, hts⟩ (kW_Ch_seal l D base sa) (fun mc ms => cwV 2 hts (pw_gV (pw_in 1146 (w := .methodLink "RoutingField$Router" 410 ⟨"RoutingField$Chain", "seal", "(LRoutingField$Bytes;I)V"⟩) (by decide +kernel) rfl) ki_Ch_seal ks_Ch_seal kn_Ch ko_Ch_seal) rfl rfl rfl (by decide +kernel) ⟨Nat.le_of_ble_eq_true rfl, Nat.le_of_ble_eq_true rfl⟩) (ci := 1) rfl, List.forall_mem_cons.mpr ⟨pm_cokV hbs hZ ⟨hx, hb, hml, hown, hts⟩ (kW_Rr_sendDraft l D base sa) (fun mc ms => cwV 2 hts (pw_gV (pw_in 1211 (w := .methodLink "RoutingField$Router" 414 ⟨"RoutingField$Router", "sendDraft", "(LRoutingField$Port;LRoutingField$Prefix;)V"⟩) (by decide +kernel) rfl) ki_Rr_sendDraft ks_Rr_sendDraft kn_Rr ko_Rr_sendDraft) rfl rfl rfl (by decide +kernel) ⟨Nat.le_of_ble_eq_true rfl, Nat.le_of_ble_eq_true rfl⟩) (ci := 9) rfl, fun _ h => absurd h List.not_mem_nil⟩⟩⟩⟩⟩⟩⟩),
    hZ, kst_ok ht hZ (kS_Rr_ok sa), knar_ok ht, ktx_ok (kE_Rr_ok sa)⟩
set_option maxRecDepth 100000 in
theorem ki_Rr_answer : Cond.instanceMethod ⟨"RoutingField$Router", "answer", "(LRoutingField$Datagram;LRoutingField$Port;)V"⟩ ∈ pw_T := (pw_in 1448 (by decide +kernel) rfl)
set_option maxRecDepth 100000 in
theorem ks_Rr_answer : Cond.selects "RoutingField$Router" ⟨"RoutingField$Router", "answer", "(LRoutingField$Datagram;LRoutingField$Port;)V"⟩ ⟨"RoutingField$Router", "answer", "(LRoutingField$Datagram;LRoutingField$Port;)V"⟩ ∈ pw_T := (pw_in 1449 (by decide +kernel) rfl)
set_option maxRecDepth 100000 in
theorem ko_Rr_answer : Cond.code ⟨"RoutingField$Router", "answer", "(LRoutingField$Datagram;LRoutingField$Port;)V"⟩ prog_11_method_32_code 3 none ∈ pw_T := (pw_in 1450 rfl rfl)
set_option maxRecDepth 100000 in
theorem kD_Rr_answer : ∀ q ∈ kC_Rr_answer, decode prog_11_method_32_code q.1 = .ok (q.2, pm_len q.1 q.2) := by decide +kernel
set_option maxRecDepth 100000 in
theorem kW_Rr_answer (l : Launch) (D : va_G) (base : Nat) (sa : Nat → Nat) : pm_Met l D kcl base (kZ sa) ⟨"RoutingField$Router", "answer", "(LRoutingField$Datagram;LRoutingField$Port;)V"⟩ (.code ⟨"RoutingField$Router", "answer", "(LRoutingField$Datagram;LRoutingField$Port;)V"⟩ prog_11_method_32_code 3 none :: pw_T) 6 142 (kP_Rr_answer base sa) := by
  refine pm_met (by decide) rfl rfl ?_
  intro mc ms p e s m args below meth c hx hb hml hown hnm hts hbs hZ
  have ht : ∀ w ∈ pw_T, w.before args s = true := fun w h => hts w (List.mem_cons_of_mem _ h)
  exact ⟨hx, hb, hown, hbs, pm_look_all kD_Rr_answer, kf_ok (init := false) ht hZ kF_Rr_ok (fun h => by cases h), km_ok ht kM_Rr_ok, kci_ok ht kI_Rr_ok, kli_ok ht kJ_Rr_ok, kar_ok ht hZ kA_Rr_ok,
    pm_look_all (List.forall_mem_cons.mpr ⟨pm_cokV hbs hZ ⟨hx, hb, hml, hown, hts⟩ (kW_Da_asksForAll l D base sa) (fun mc ms => cwV 0 hts (pw_gV (pw_in 1451 (w := .methodLink "RoutingField$Router" 447 ⟨"RoutingField$Datagram", "asksForAll", "()Z"⟩) (by decide +kernel) rfl) ki_Da_asksForAll ks_Da_asksForAll kn_Da ko_Da_asksForAll) rfl rfl rfl (by decide +kernel) ⟨Nat.le_of_ble_eq_true rfl, Nat.le_of_ble_eq_true rfl⟩) (ci := 2) rfl, List.forall_mem_cons.mpr ⟨pm_cokV hbs hZ ⟨hx, hb, hml, hown, hts⟩ (kW_Rr_gather l D base sa) (fun mc ms => cwV 3 hts (pw_gV (pw_in 1461 (w := .methodLink "RoutingField$Router" 250 ⟨"RoutingField$Router", "gather", "(LRoutingField$Port;II)V"⟩) (by decide +kernel) rfl) ki_Rr_gather ks_Rr_gather kn_Rr ko_Rr_gather) rfl rfl rfl (by decide +kernel) ⟨Nat.le_of_ble_eq_true rfl, Nat.le_of_ble_eq_true rfl⟩) (ci := 9) rfl, List.forall_mem_cons.mpr ⟨pm_cokV hbs hZ ⟨hx, hb, hml, hown, hts⟩ (kW_Rr_sendTold l D base sa) (fun mc ms => cwV 3 hts (pw_gV (pw_in 1511 (w := .methodLink "RoutingField$Router" 257 ⟨"RoutingField$Router", "sendTold", "(LRoutingField$Port;ILRoutingField$Prefix;)V"⟩) (by decide +kernel) rfl) ki_Rr_sendTold ks_Rr_sendTold kn_Rr ko_Rr_sendTold) rfl rfl rfl (by decide +kernel) ⟨Nat.le_of_ble_eq_true rfl, Nat.le_of_ble_eq_true rfl⟩) (ci := 9) rfl, List.forall_mem_cons.mpr ⟨pm_cokV hbs hZ ⟨hx, hb, hml, hown, hts⟩ (kW_Rr_answerEach l D base sa) (fun mc ms => cwV 2 hts (pw_gV (pw_in 1528 (w := .methodLink "RoutingField$Router" 450 ⟨"RoutingField$Router", "answerEach", "(LRoutingField$Datagram;LRoutingField$Port;)V"⟩) (by decide +kernel) rfl) ki_Rr_answerEach ks_Rr_answerEach kn_Rr ko_Rr_answerEach) rfl rfl rfl (by decide +kernel) ⟨Nat.le_of_ble_eq_true rfl, Nat.le_of_ble_eq_true rfl⟩) (ci := 9) rfl, fun _ h => absurd h List.not_mem_nil⟩⟩⟩⟩),
    hZ, kst_ok ht hZ (kS_Rr_ok sa), knar_ok ht, ktx_ok (kE_Rr_ok sa)⟩
set_option maxRecDepth 100000 in
theorem ki_Rr_takeHop : Cond.instanceMethod ⟨"RoutingField$Router", "takeHop", "(LRoutingField$Datagram;ILRoutingField$Port;)V"⟩ ∈ pw_T := (pw_in 1557 (by decide +kernel) rfl)
set_option maxRecDepth 100000 in
theorem ks_Rr_takeHop : Cond.selects "RoutingField$Router" ⟨"RoutingField$Router", "takeHop", "(LRoutingField$Datagram;ILRoutingField$Port;)V"⟩ ⟨"RoutingField$Router", "takeHop", "(LRoutingField$Datagram;ILRoutingField$Port;)V"⟩ ∈ pw_T := (pw_sel 75 (q := (⟨"RoutingField$Router", "takeHop", "(LRoutingField$Datagram;ILRoutingField$Port;)V"⟩, 20)) (by decide +kernel))
set_option maxRecDepth 100000 in
theorem ko_Rr_takeHop : Cond.code ⟨"RoutingField$Router", "takeHop", "(LRoutingField$Datagram;ILRoutingField$Port;)V"⟩ prog_11_method_35_code 5 none ∈ pw_T := (pw_in 1558 rfl rfl)
set_option maxRecDepth 100000 in
theorem kD_Rr_takeHop : ∀ q ∈ kC_Rr_takeHop, decode prog_11_method_35_code q.1 = .ok (q.2, pm_len q.1 q.2) := by decide +kernel
set_option maxRecDepth 100000 in
theorem kW_Rr_takeHop (l : Launch) (D : va_G) (base : Nat) (sa : Nat → Nat) : pm_Met l D kcl base (kZ sa) ⟨"RoutingField$Router", "takeHop", "(LRoutingField$Datagram;ILRoutingField$Port;)V"⟩ (.code ⟨"RoutingField$Router", "takeHop", "(LRoutingField$Datagram;ILRoutingField$Port;)V"⟩ prog_11_method_35_code 5 none :: pw_T) 2 48 (kP_Rr_takeHop base sa) := by
  refine pm_met (by decide) rfl rfl ?_
  intro mc ms p e s m args below meth c hx hb hml hown hnm hts hbs hZ
  have ht : ∀ w ∈ pw_T, w.before args s = true := fun w h => hts w (List.mem_cons_of_mem _ h)
  exact ⟨hx, hb, hown, hbs, pm_look_all kD_Rr_takeHop, kf_ok (init := false) ht hZ kF_Rr_ok (fun h => by cases h), km_ok ht kM_Rr_ok, kci_ok ht kI_Rr_ok, kli_ok ht kJ_Rr_ok, kar_ok ht hZ kA_Rr_ok,
    pm_look_all (List.forall_mem_cons.mpr ⟨pm_cokV hbs hZ ⟨hx, hb, hml, hown, hts⟩ (kW_Po_addressOf l D base sa) (fun mc ms => cwV 1 hts (pw_gV (pw_in 978 (w := .methodLink "RoutingField$Router" 133 ⟨"RoutingField$Port", "addressOf", "(I)LRoutingField$Prefix;"⟩) (by decide +kernel) rfl) ki_Po_addressOf ks_Po_addressOf kn_Po ko_Po_addressOf) rfl rfl rfl (by decide +kernel) ⟨Nat.le_of_ble_eq_true rfl, Nat.le_of_ble_eq_true rfl⟩) (ci := 4) rfl, List.forall_mem_cons.mpr ⟨pm_cokV hbs hZ ⟨hx, hb, hml, hown, hts⟩ (kW_Pr_takeBytes l D base sa) (fun mc ms => cwV 3 hts (pw_gV (pw_in 1559 (w := .methodLink "RoutingField$Router" 483 ⟨"RoutingField$Prefix", "takeBytes", "(LRoutingField$Bytes;II)V"⟩) (by decide +kernel) rfl) ki_Pr_takeBytes ks_Pr_takeBytes kn_Pr ko_Pr_takeBytes) rfl rfl rfl (by decide +kernel) ⟨Nat.le_of_ble_eq_true rfl, Nat.le_of_ble_eq_true rfl⟩) (ci := 5) rfl, List.forall_mem_cons.mpr ⟨pm_cokV hbs hZ ⟨hx, hb, hml, hown, hts⟩ (kW_Pr_isZero l D base sa) (fun mc ms => cwV 0 hts (pw_gV (pw_in 1560 (w := .methodLink "RoutingField$Router" 486 ⟨"RoutingField$Prefix", "isZero", "()Z"⟩) (by decide +kernel) rfl) ki_Pr_isZero ks_Pr_isZero kn_Pr ko_Pr_isZero) rfl rfl rfl (by decide +kernel) ⟨Nat.le_of_ble_eq_true rfl, Nat.le_of_ble_eq_true rfl⟩) (ci := 5) rfl, List.forall_mem_cons.mpr ⟨pm_cokV hbs hZ ⟨hx, hb, hml, hown, hts⟩ (kW_Pr_covers l D base sa) (fun mc ms => cwV 1 hts (pw_gV (pw_in 1394 (w := .methodLink "RoutingField$Router" 426 ⟨"RoutingField$Prefix", "covers", "(LRoutingField$Prefix;)Z"⟩) (by decide +kernel) rfl) ki_Pr_covers ks_Pr_covers kn_Pr ko_Pr_covers) rfl rfl rfl (by decide +kernel) ⟨Nat.le_of_ble_eq_true rfl, Nat.le_of_ble_eq_true rfl⟩) (ci := 5) rfl, List.forall_mem_cons.mpr ⟨pm_cokV hbs hZ ⟨hx, hb, hml, hown, hts⟩ (kW_Pr_sameAddress l D base sa) (fun mc ms => cwV 1 hts (pw_gV (pw_in 1386 (w := .methodLink "RoutingField$Router" 423 ⟨"RoutingField$Prefix", "sameAddress", "(LRoutingField$Prefix;)Z"⟩) (by decide +kernel) rfl) ki_Pr_sameAddress ks_Pr_sameAddress kn_Pr ko_Pr_sameAddress) rfl rfl rfl (by decide +kernel) ⟨Nat.le_of_ble_eq_true rfl, Nat.le_of_ble_eq_true rfl⟩) (ci := 5) rfl, List.forall_mem_cons.mpr ⟨pm_cokV hbs hZ ⟨hx, hb, hml, hown, hts⟩ (kW_Pr_copy l D base sa) (fun mc ms => cwV 1 hts (pw_gV (pw_in 979 (w := .methodLink "RoutingField$Router" 185 ⟨"RoutingField$Prefix", "copy", "(LRoutingField$Prefix;)V"⟩) (by decide +kernel) rfl) ki_Pr_copy ks_Pr_copy kn_Pr ko_Pr_copy) rfl rfl rfl (by decide +kernel) ⟨Nat.le_of_ble_eq_true rfl, Nat.le_of_ble_eq_true rfl⟩) (ci := 5) rfl, fun _ h => absurd h List.not_mem_nil⟩⟩⟩⟩⟩⟩),
    hZ, kst_ok ht hZ (kS_Rr_ok sa), knar_ok ht, ktx_ok (kE_Rr_ok sa)⟩
set_option maxRecDepth 100000 in
theorem ki_Pr_isForbidden : Cond.instanceMethod ⟨"RoutingField$Prefix", "isForbidden", "()Z"⟩ ∈ pw_T := (pw_in 1568 (by decide +kernel) rfl)
set_option maxRecDepth 100000 in
theorem ks_Pr_isForbidden : Cond.selects "RoutingField$Prefix" ⟨"RoutingField$Prefix", "isForbidden", "()Z"⟩ ⟨"RoutingField$Prefix", "isForbidden", "()Z"⟩ ∈ pw_T := (pw_in 1569 (by decide +kernel) rfl)
set_option maxRecDepth 100000 in
theorem ko_Pr_isForbidden : Cond.code ⟨"RoutingField$Prefix", "isForbidden", "()Z"⟩ prog_7_method_16_code 1 (some .boolean) ∈ pw_T := (pw_in 1570 rfl rfl)
set_option maxRecDepth 100000 in
theorem kD_Pr_isForbidden : ∀ q ∈ kC_Pr_isForbidden, decode prog_7_method_16_code q.1 = .ok (q.2, pm_len q.1 q.2) := by decide +kernel
set_option maxRecDepth 100000 in
theorem kW_Pr_isForbidden (l : Launch) (D : va_G) (base : Nat) (sa : Nat → Nat) : pm_Met l D kcl base (kZ sa) ⟨"RoutingField$Prefix", "isForbidden", "()Z"⟩ (.code ⟨"RoutingField$Prefix", "isForbidden", "()Z"⟩ prog_7_method_16_code 1 (some .boolean) :: pw_T) 0 0 (kP_Pr_isForbidden base sa) := by
  refine pm_met (by decide) rfl rfl ?_
  intro mc ms p e s m args below meth c hx hb hml hown hnm hts hbs hZ
  have ht : ∀ w ∈ pw_T, w.before args s = true := fun w h => hts w (List.mem_cons_of_mem _ h)
  exact ⟨hx, hb, hown, hbs, pm_look_all kD_Pr_isForbidden, kf_ok (init := false) ht hZ kF_Pr_ok (fun h => by cases h), km_ok ht kM_Pr_ok, kci_ok ht kI_Pr_ok, kli_ok ht kJ_Pr_ok, kar_ok ht hZ kA_Pr_ok,
    pm_look_all (fun _ h => absurd h List.not_mem_nil),
    hZ, kst_ok ht hZ (kS_Pr_ok sa), knar_ok ht, ktx_ok (kE_Pr_ok sa)⟩
set_option maxRecDepth 100000 in
theorem ki_Rr_startTimeout : Cond.instanceMethod ⟨"RoutingField$Router", "startTimeout", "(LRoutingField$Route;)V"⟩ ∈ pw_T := (pw_in 1581 (by decide +kernel) rfl)
set_option maxRecDepth 100000 in
theorem ks_Rr_startTimeout : Cond.selects "RoutingField$Router" ⟨"RoutingField$Router", "startTimeout", "(LRoutingField$Route;)V"⟩ ⟨"RoutingField$Router", "startTimeout", "(LRoutingField$Route;)V"⟩ ∈ pw_T := (pw_sel 78 (q := (⟨"RoutingField$Router", "startTimeout", "(LRoutingField$Route;)V"⟩, 20)) (by decide +kernel))
set_option maxRecDepth 100000 in
theorem ko_Rr_startTimeout : Cond.code ⟨"RoutingField$Router", "startTimeout", "(LRoutingField$Route;)V"⟩ prog_11_method_5_code 2 none ∈ pw_T := (pw_in 1582 rfl rfl)
set_option maxRecDepth 100000 in
theorem kD_Rr_startTimeout : ∀ q ∈ kC_Rr_startTimeout, decode prog_11_method_5_code q.1 = .ok (q.2, pm_len q.1 q.2) := by decide +kernel
set_option maxRecDepth 100000 in
theorem kW_Rr_startTimeout (l : Launch) (D : va_G) (base : Nat) (sa : Nat → Nat) : pm_Met l D kcl base (kZ sa) ⟨"RoutingField$Router", "startTimeout", "(LRoutingField$Route;)V"⟩ (.code ⟨"RoutingField$Router", "startTimeout", "(LRoutingField$Route;)V"⟩ prog_11_method_5_code 2 none :: pw_T) 1 22 (kP_Rr_startTimeout base sa) := by
  refine pm_met (by decide) rfl rfl ?_
  intro mc ms p e s m args below meth c hx hb hml hown hnm hts hbs hZ
  have ht : ∀ w ∈ pw_T, w.before args s = true := fun w h => hts w (List.mem_cons_of_mem _ h)
  exact ⟨hx, hb, hown, hbs, pm_look_all kD_Rr_startTimeout, kf_ok (init := false) ht hZ kF_Rr_ok (fun h => by cases h), km_ok ht kM_Rr_ok, kci_ok ht kI_Rr_ok, kli_ok ht kJ_Rr_ok, kar_ok ht hZ kA_Rr_ok,
    pm_look_all (List.forall_mem_cons.mpr ⟨pm_cokV hbs hZ ⟨hx, hb, hml, hown, hts⟩ (kW_Rr_startDeadline l D base sa) (fun mc ms => cwV 2 hts (pw_gV (pw_in 1021 (w := .methodLink "RoutingField$Router" 114 ⟨"RoutingField$Router", "startDeadline", "(LRoutingField$Route;I)V"⟩) (by decide +kernel) rfl) ki_Rr_startDeadline ks_Rr_startDeadline kn_Rr ko_Rr_startDeadline) rfl rfl rfl (by decide +kernel) ⟨Nat.le_of_ble_eq_true rfl, Nat.le_of_ble_eq_true rfl⟩) (ci := 9) rfl, fun _ h => absurd h List.not_mem_nil⟩),
    hZ, kst_ok ht hZ (kS_Rr_ok sa), knar_ok ht, ktx_ok (kE_Rr_ok sa)⟩
set_option maxRecDepth 100000 in
theorem ki_Da_tagAt : Cond.instanceMethod ⟨"RoutingField$Datagram", "tagAt", "(I)I"⟩ ∈ pw_T := (pw_in 1588 (by decide +kernel) rfl)
set_option maxRecDepth 100000 in
theorem ks_Da_tagAt : Cond.selects "RoutingField$Datagram" ⟨"RoutingField$Datagram", "tagAt", "(I)I"⟩ ⟨"RoutingField$Datagram", "tagAt", "(I)I"⟩ ∈ pw_T := (pw_in 1589 (by decide +kernel) rfl)
set_option maxRecDepth 100000 in
theorem ko_Da_tagAt : Cond.code ⟨"RoutingField$Datagram", "tagAt", "(I)I"⟩ prog_4_method_6_code 2 (some .int) ∈ pw_T := (pw_in 1590 rfl rfl)
set_option maxRecDepth 100000 in
theorem kD_Da_tagAt : ∀ q ∈ kC_Da_tagAt, decode prog_4_method_6_code q.1 = .ok (q.2, pm_len q.1 q.2) := by decide +kernel
set_option maxRecDepth 100000 in
theorem kW_Da_tagAt (l : Launch) (D : va_G) (base : Nat) (sa : Nat → Nat) : pm_Met l D kcl base (kZ sa) ⟨"RoutingField$Datagram", "tagAt", "(I)I"⟩ (.code ⟨"RoutingField$Datagram", "tagAt", "(I)I"⟩ prog_4_method_6_code 2 (some .int) :: pw_T) 1 25 (kP_Da_tagAt base sa) := by
  refine pm_met (by decide) rfl rfl ?_
  intro mc ms p e s m args below meth c hx hb hml hown hnm hts hbs hZ
  have ht : ∀ w ∈ pw_T, w.before args s = true := fun w h => hts w (List.mem_cons_of_mem _ h)
  exact ⟨hx, hb, hown, hbs, pm_look_all kD_Da_tagAt, kf_ok (init := false) ht hZ kF_Da_ok (fun h => by cases h), km_ok ht kM_Da_ok, kci_ok ht kI_Da_ok, kli_ok ht kJ_Da_ok, kar_ok ht hZ kA_Da_ok,
    pm_look_all (List.forall_mem_cons.mpr ⟨pm_cokV hbs hZ ⟨hx, hb, hml, hown, hts⟩ (kW_By_numberAt l D base sa) (fun mc ms => cwV 2 hts (pw_gV (pw_in 1459 (w := .methodLink "RoutingField$Datagram" 78 ⟨"RoutingField$Bytes", "numberAt", "(II)J"⟩) (by decide +kernel) rfl) ki_By_numberAt ks_By_numberAt kn_By ko_By_numberAt) rfl rfl rfl (by decide +kernel) ⟨Nat.le_of_ble_eq_true rfl, Nat.le_of_ble_eq_true rfl⟩) (ci := 0) rfl, fun _ h => absurd h List.not_mem_nil⟩),
    hZ, kst_ok ht hZ (kS_Da_ok sa), knar_ok ht, ktx_ok (kE_Da_ok sa)⟩
set_option maxRecDepth 100000 in
theorem ki_Rr_take : Cond.instanceMethod ⟨"RoutingField$Router", "take", "(LRoutingField$Route;LRoutingField$Datagram;ILRoutingField$Port;I)V"⟩ ∈ pw_T := (pw_in 1585 (by decide +kernel) rfl)
set_option maxRecDepth 100000 in
theorem ks_Rr_take : Cond.selects "RoutingField$Router" ⟨"RoutingField$Router", "take", "(LRoutingField$Route;LRoutingField$Datagram;ILRoutingField$Port;I)V"⟩ ⟨"RoutingField$Router", "take", "(LRoutingField$Route;LRoutingField$Datagram;ILRoutingField$Port;I)V"⟩ ∈ pw_T := (pw_sel 79 (q := (⟨"RoutingField$Router", "take", "(LRoutingField$Route;LRoutingField$Datagram;ILRoutingField$Port;I)V"⟩, 20)) (by decide +kernel))
set_option maxRecDepth 100000 in
theorem ko_Rr_take : Cond.code ⟨"RoutingField$Router", "take", "(LRoutingField$Route;LRoutingField$Datagram;ILRoutingField$Port;I)V"⟩ prog_11_method_38_code 7 none ∈ pw_T := (pw_in 1586 rfl rfl)
set_option maxRecDepth 100000 in
theorem kD_Rr_take_0 : ∀ q ∈ kC_Rr_take_0, decode prog_11_method_38_code q.1 = .ok (q.2, pm_len q.1 q.2) := by decide +kernel
set_option maxRecDepth 100000 in
theorem kD_Rr_take_1 : ∀ q ∈ kC_Rr_take_1, decode prog_11_method_38_code q.1 = .ok (q.2, pm_len q.1 q.2) := by decide +kernel
theorem kD_Rr_take : ∀ q ∈ kC_Rr_take, decode prog_11_method_38_code q.1 = .ok (q.2, pm_len q.1 q.2) := List.forall_mem_append.mpr ⟨kD_Rr_take_0, kD_Rr_take_1⟩
set_option maxRecDepth 100000 in
theorem kW_Rr_take (l : Launch) (D : va_G) (base : Nat) (sa : Nat → Nat) : pm_Met l D kcl base (kZ sa) ⟨"RoutingField$Router", "take", "(LRoutingField$Route;LRoutingField$Datagram;ILRoutingField$Port;I)V"⟩ (.code ⟨"RoutingField$Router", "take", "(LRoutingField$Route;LRoutingField$Datagram;ILRoutingField$Port;I)V"⟩ prog_11_method_38_code 7 none :: pw_T) 2 46 (kP_Rr_take base sa) := by
  refine pm_met (by decide) rfl rfl ?_
  intro mc ms p e s m args below meth c hx hb hml hown hnm hts hbs hZ
  have ht : ∀ w ∈ pw_T, w.before args s = true := fun w h => hts w (List.mem_cons_of_mem _ h)
  exact ⟨hx, hb, hown, hbs, pm_look_all kD_Rr_take, kf_ok (init := false) ht hZ kF_Rr_ok (fun h => by cases h), km_ok ht kM_Rr_ok, kci_ok ht kI_Rr_ok, kli_ok ht kJ_Rr_ok, kar_ok ht hZ kA_Rr_ok,
    pm_look_all (List.forall_mem_cons.mpr ⟨pm_cokV hbs hZ ⟨hx, hb, hml, hown, hts⟩ (kW_Pr_sameAddress l D base sa) (fun mc ms => cwV 1 hts (pw_gV (pw_in 1386 (w := .methodLink "RoutingField$Router" 423 ⟨"RoutingField$Prefix", "sameAddress", "(LRoutingField$Prefix;)Z"⟩) (by decide +kernel) rfl) ki_Pr_sameAddress ks_Pr_sameAddress kn_Pr ko_Pr_sameAddress) rfl rfl rfl (by decide +kernel) ⟨Nat.le_of_ble_eq_true rfl, Nat.le_of_ble_eq_true rfl⟩) (ci := 5) rfl, List.forall_mem_cons.mpr ⟨pm_cokV hbs hZ ⟨hx, hb, hml, hown, hts⟩ (kW_Pr_copy l D base sa) (fun mc ms => cwV 1 hts (pw_gV (pw_in 979 (w := .methodLink "RoutingField$Router" 185 ⟨"RoutingField$Prefix", "copy", "(LRoutingField$Prefix;)V"⟩) (by decide +kernel) rfl) ki_Pr_copy ks_Pr_copy kn_Pr ko_Pr_copy) rfl rfl rfl (by decide +kernel) ⟨Nat.le_of_ble_eq_true rfl, Nat.le_of_ble_eq_true rfl⟩) (ci := 5) rfl, List.forall_mem_cons.mpr ⟨pm_cokV hbs hZ ⟨hx, hb, hml, hown, hts⟩ (kW_Da_tagAt l D base sa) (fun mc ms => cwV 1 hts (pw_gV (pw_in 1587 (w := .methodLink "RoutingField$Router" 509 ⟨"RoutingField$Datagram", "tagAt", "(I)I"⟩) (by decide +kernel) rfl) ki_Da_tagAt ks_Da_tagAt kn_Da ko_Da_tagAt) rfl rfl rfl (by decide +kernel) ⟨Nat.le_of_ble_eq_true rfl, Nat.le_of_ble_eq_true rfl⟩) (ci := 2) rfl, List.forall_mem_cons.mpr ⟨pm_cokV hbs hZ ⟨hx, hb, hml, hown, hts⟩ (kW_Rr_startDeadline l D base sa) (fun mc ms => cwV 2 hts (pw_gV (pw_in 1021 (w := .methodLink "RoutingField$Router" 114 ⟨"RoutingField$Router", "startDeadline", "(LRoutingField$Route;I)V"⟩) (by decide +kernel) rfl) ki_Rr_startDeadline ks_Rr_startDeadline kn_Rr ko_Rr_startDeadline) rfl rfl rfl (by decide +kernel) ⟨Nat.le_of_ble_eq_true rfl, Nat.le_of_ble_eq_true rfl⟩) (ci := 9) rfl, List.forall_mem_cons.mpr ⟨pm_cokV hbs hZ ⟨hx, hb, hml, hown, hts⟩ (kW_Rr_startTimeout l D base sa) (fun mc ms => cwV 1 hts (pw_gV (pw_in 1579 (w := .methodLink "RoutingField$Router" 506 ⟨"RoutingField$Router", "startTimeout", "(LRoutingField$Route;)V"⟩) (by decide +kernel) rfl) ki_Rr_startTimeout ks_Rr_startTimeout kn_Rr ko_Rr_startTimeout) rfl rfl rfl (by decide +kernel) ⟨Nat.le_of_ble_eq_true rfl, Nat.le_of_ble_eq_true rfl⟩) (ci := 9) rfl, List.forall_mem_cons.mpr ⟨pm_cokV hbs hZ ⟨hx, hb, hml, hown, hts⟩ (kW_Rr_markChanged l D base sa) (fun mc ms => cwV 1 hts (pw_gV (pw_in 1025 (w := .methodLink "RoutingField$Router" 124 ⟨"RoutingField$Router", "markChanged", "(LRoutingField$Route;)V"⟩) (by decide +kernel) rfl) ki_Rr_markChanged ks_Rr_markChanged kn_Rr ko_Rr_markChanged) rfl rfl rfl (by decide +kernel) ⟨Nat.le_of_ble_eq_true rfl, Nat.le_of_ble_eq_true rfl⟩) (ci := 9) rfl, fun _ h => absurd h List.not_mem_nil⟩⟩⟩⟩⟩⟩),
    hZ, kst_ok ht hZ (kS_Rr_ok sa), knar_ok ht, ktx_ok (kE_Rr_ok sa)⟩
