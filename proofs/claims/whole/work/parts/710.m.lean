set_option maxRecDepth 100000 in
theorem ki_Po_opens : Cond.instanceMethod ⟨"RoutingField$Port", "opens", "(LRoutingField$Datagram;I)Z"⟩ ∈ pw_T := (pw_in 1407 (by decide +kernel) rfl)
set_option maxRecDepth 100000 in
theorem ks_Po_opens : Cond.selects "RoutingField$Port" ⟨"RoutingField$Port", "opens", "(LRoutingField$Datagram;I)Z"⟩ ⟨"RoutingField$Port", "opens", "(LRoutingField$Datagram;I)Z"⟩ ∈ pw_T := (pw_in 1408 (by decide +kernel) rfl)
set_option maxRecDepth 100000 in
theorem ko_Po_opens : Cond.code ⟨"RoutingField$Port", "opens", "(LRoutingField$Datagram;I)Z"⟩ prog_6_method_9_code 5 (some .boolean) ∈ pw_T := (pw_in 1409 rfl rfl)
set_option maxRecDepth 100000 in
theorem kD_Po_opens_0 : ∀ q ∈ kC_Po_opens_0, decode prog_6_method_9_code q.1 = .ok (q.2, pm_len q.1 q.2) := by decide +kernel
set_option maxRecDepth 100000 in
theorem kD_Po_opens_1 : ∀ q ∈ kC_Po_opens_1, decode prog_6_method_9_code q.1 = .ok (q.2, pm_len q.1 q.2) := by decide +kernel
theorem kD_Po_opens : ∀ q ∈ kC_Po_opens, decode prog_6_method_9_code q.1 = .ok (q.2, pm_len q.1 q.2) := List.forall_mem_append.mpr ⟨kD_Po_opens_0, kD_Po_opens_1⟩
set_option maxRecDepth 100000 in
theorem kW_Po_opens (l : Launch) (D : va_G) (base : Nat) (sa : Nat → Nat) : pm_Met l D kcl base (kZ sa) ⟨"RoutingField$Port", "opens", "(LRoutingField$Datagram;I)Z"⟩ (.code ⟨"RoutingField$Port", "opens", "(LRoutingField$Datagram;I)Z"⟩ prog_6_method_9_code 5 (some .boolean) :: pw_T) 4 101 (kP_Po_opens base sa) := by
  refine pm_met (by decide) rfl rfl ?_
  intro mc ms p e s m args below meth c hx hb hml hown hnm hts hbs hZ
  have ht : ∀ w ∈ pw_T, w.before args s = true := fun w h => hts w (List.mem_cons_of_mem _ h)
  exact ⟨hx, hb, hown, hbs, pm_look_all kD_Po_opens, kf_ok (init := false) ht hZ kF_Po_ok (fun h => by cases h), km_ok ht kM_Po_ok, kci_ok ht kI_Po_ok, kli_ok ht kJ_Po_ok, kar_ok ht hZ kA_Po_ok,
    pm_look_all (List.forall_mem_cons.mpr ⟨pm_cokV hbs hZ ⟨hx, hb, hml, hown, hts⟩ (kW_Ch_keyOf l D base sa) (fun mc ms => cwV 2 hts (pw_gV (pw_in 1410 (w := .methodLink "RoutingField$Port" 123 ⟨"RoutingField$Chain", "keyOf", "(LRoutingField$Bytes;I)I"⟩) (by decide +kernel) rfl) ki_Ch_keyOf ks_Ch_keyOf kn_Ch ko_Ch_keyOf) rfl rfl rfl (by decide +kernel) ⟨Nat.le_of_ble_eq_true rfl, Nat.le_of_ble_eq_true rfl⟩) (ci := 1) rfl, List.forall_mem_cons.mpr ⟨pm_cokV hbs hZ ⟨hx, hb, hml, hown, hts⟩ (kW_By_numberAt l D base sa) (fun mc ms => cwV 2 hts (pw_gV (pw_in 1429 (w := .methodLink "RoutingField$Port" 130 ⟨"RoutingField$Bytes", "numberAt", "(II)J"⟩) (by decide +kernel) rfl) ki_By_numberAt ks_By_numberAt kn_By ko_By_numberAt) rfl rfl rfl (by decide +kernel) ⟨Nat.le_of_ble_eq_true rfl, Nat.le_of_ble_eq_true rfl⟩) (ci := 0) rfl, List.forall_mem_cons.mpr ⟨pm_cokV hbs hZ ⟨hx, hb, hml, hown, hts⟩ (kW_Po_isFresh l D base sa) (fun mc ms => cwV 2 hts (pw_gV (pw_in 1430 (w := .methodLink "RoutingField$Port" 136 ⟨"RoutingField$Port", "isFresh", "(LRoutingField$Prefix;I)Z"⟩) (by decide +kernel) rfl) ki_Po_isFresh ks_Po_isFresh kn_Po ko_Po_isFresh) rfl rfl rfl (by decide +kernel) ⟨Nat.le_of_ble_eq_true rfl, Nat.le_of_ble_eq_true rfl⟩) (ci := 4) rfl, List.forall_mem_cons.mpr ⟨pm_cokV hbs hZ ⟨hx, hb, hml, hown, hts⟩ (kW_Ch_endSize l D base sa) (fun mc ms => cwV 1 hts (pw_gV (pw_in 1440 (w := .methodLink "RoutingField$Port" 101 ⟨"RoutingField$Chain", "endSize", "(I)I"⟩) (by decide +kernel) rfl) ki_Ch_endSize ks_Ch_endSize kn_Ch ko_Ch_endSize) rfl rfl rfl (by decide +kernel) ⟨Nat.le_of_ble_eq_true rfl, Nat.le_of_ble_eq_true rfl⟩) (ci := 1) rfl, List.forall_mem_cons.mpr ⟨pm_cokV hbs hZ ⟨hx, hb, hml, hown, hts⟩ (kW_Ch_isPasswordEntry l D base sa) (fun mc ms => cwV 1 hts (pw_gV (pw_in 1441 (w := .methodLink "RoutingField$Port" 149 ⟨"RoutingField$Chain", "isPasswordEntry", "(LRoutingField$Bytes;)Z"⟩) (by decide +kernel) rfl) ki_Ch_isPasswordEntry ks_Ch_isPasswordEntry kn_Ch ko_Ch_isPasswordEntry) rfl rfl rfl (by decide +kernel) ⟨Nat.le_of_ble_eq_true rfl, Nat.le_of_ble_eq_true rfl⟩) (ci := 1) rfl, fun _ h => absurd h List.not_mem_nil⟩⟩⟩⟩⟩),
    hZ, kst_ok ht hZ (kS_Po_ok sa), knar_ok ht, ktx_ok (kE_Po_ok sa)⟩
set_option maxRecDepth 100000 in
theorem ki_Rr_judge : Cond.instanceMethod ⟨"RoutingField$Router", "judge", "(LRoutingField$Datagram;LRoutingField$Port;)I"⟩ ∈ pw_T := (pw_in 1391 (by decide +kernel) rfl)
set_option maxRecDepth 100000 in
theorem ks_Rr_judge : Cond.selects "RoutingField$Router" ⟨"RoutingField$Router", "judge", "(LRoutingField$Datagram;LRoutingField$Port;)I"⟩ ⟨"RoutingField$Router", "judge", "(LRoutingField$Datagram;LRoutingField$Port;)I"⟩ ∈ pw_T := (pw_in 1392 (by decide +kernel) rfl)
set_option maxRecDepth 100000 in
theorem ko_Rr_judge : Cond.code ⟨"RoutingField$Router", "judge", "(LRoutingField$Datagram;LRoutingField$Port;)I"⟩ prog_11_method_31_code 5 (some .int) ∈ pw_T := (pw_in 1393 rfl rfl)
set_option maxRecDepth 100000 in
theorem kD_Rr_judge_0 : ∀ q ∈ kC_Rr_judge_0, decode prog_11_method_31_code q.1 = .ok (q.2, pm_len q.1 q.2) := by decide +kernel
set_option maxRecDepth 100000 in
theorem kD_Rr_judge_1 : ∀ q ∈ kC_Rr_judge_1, decode prog_11_method_31_code q.1 = .ok (q.2, pm_len q.1 q.2) := by decide +kernel
theorem kD_Rr_judge : ∀ q ∈ kC_Rr_judge, decode prog_11_method_31_code q.1 = .ok (q.2, pm_len q.1 q.2) := List.forall_mem_append.mpr ⟨kD_Rr_judge_0, kD_Rr_judge_1⟩
set_option maxRecDepth 100000 in
theorem kW_Rr_judge (l : Launch) (D : va_G) (base : Nat) (sa : Nat → Nat) : pm_Met l D kcl base (kZ sa) ⟨"RoutingField$Router", "judge", "(LRoutingField$Datagram;LRoutingField$Port;)I"⟩ (.code ⟨"RoutingField$Router", "judge", "(LRoutingField$Datagram;LRoutingField$Port;)I"⟩ prog_11_method_31_code 5 (some .int) :: pw_T) 5 125 (kP_Rr_judge base sa) := by
  refine pm_met (by decide) rfl rfl ?_
  intro mc ms p e s m args below meth c hx hb hml hown hnm hts hbs hZ
  have ht : ∀ w ∈ pw_T, w.before args s = true := fun w h => hts w (List.mem_cons_of_mem _ h)
  exact ⟨hx, hb, hown, hbs, pm_look_all kD_Rr_judge, kf_ok (init := false) ht hZ kF_Rr_ok (fun h => by cases h), km_ok ht kM_Rr_ok, kci_ok ht kI_Rr_ok, kli_ok ht kJ_Rr_ok, kar_ok ht hZ kA_Rr_ok,
    pm_look_all (List.forall_mem_cons.mpr ⟨pm_cokV hbs hZ ⟨hx, hb, hml, hown, hts⟩ (kW_Po_addressOf l D base sa) (fun mc ms => cwV 1 hts (pw_gV (pw_in 978 (w := .methodLink "RoutingField$Router" 133 ⟨"RoutingField$Port", "addressOf", "(I)LRoutingField$Prefix;"⟩) (by decide +kernel) rfl) ki_Po_addressOf ks_Po_addressOf kn_Po ko_Po_addressOf) rfl rfl rfl (by decide +kernel) ⟨Nat.le_of_ble_eq_true rfl, Nat.le_of_ble_eq_true rfl⟩) (ci := 4) rfl, List.forall_mem_cons.mpr ⟨pm_cokV hbs hZ ⟨hx, hb, hml, hown, hts⟩ (kW_Pr_covers l D base sa) (fun mc ms => cwV 1 hts (pw_gV (pw_in 1394 (w := .methodLink "RoutingField$Router" 426 ⟨"RoutingField$Prefix", "covers", "(LRoutingField$Prefix;)Z"⟩) (by decide +kernel) rfl) ki_Pr_covers ks_Pr_covers kn_Pr ko_Pr_covers) rfl rfl rfl (by decide +kernel) ⟨Nat.le_of_ble_eq_true rfl, Nat.le_of_ble_eq_true rfl⟩) (ci := 5) rfl, List.forall_mem_cons.mpr ⟨pm_cokV hbs hZ ⟨hx, hb, hml, hown, hts⟩ (kW_Pr_sameAddress l D base sa) (fun mc ms => cwV 1 hts (pw_gV (pw_in 1386 (w := .methodLink "RoutingField$Router" 423 ⟨"RoutingField$Prefix", "sameAddress", "(LRoutingField$Prefix;)Z"⟩) (by decide +kernel) rfl) ki_Pr_sameAddress ks_Pr_sameAddress kn_Pr ko_Pr_sameAddress) rfl rfl rfl (by decide +kernel) ⟨Nat.le_of_ble_eq_true rfl, Nat.le_of_ble_eq_true rfl⟩) (ci := 5) rfl, List.forall_mem_cons.mpr ⟨pm_cokV hbs hZ ⟨hx, hb, hml, hown, hts⟩ (kW_Da_isWellFormed l D base sa) (fun mc ms => cwV 0 hts (pw_gV (pw_in 1395 (w := .methodLink "RoutingField$Router" 429 ⟨"RoutingField$Datagram", "isWellFormed", "()Z"⟩) (by decide +kernel) rfl) ki_Da_isWellFormed ks_Da_isWellFormed kn_Da ko_Da_isWellFormed) rfl rfl rfl (by decide +kernel) ⟨Nat.le_of_ble_eq_true rfl, Nat.le_of_ble_eq_true rfl⟩) (ci := 2) rfl, List.forall_mem_cons.mpr ⟨pm_cokV hbs hZ ⟨hx, hb, hml, hown, hts⟩ (kW_By_at l D base sa) (fun mc ms => cwV 1 hts (pw_gV (pw_in 1405 (w := .methodLink "RoutingField$Router" 433 ⟨"RoutingField$Bytes", "at", "(I)I"⟩) (by decide +kernel) rfl) ki_By_at ks_By_at kn_By ko_By_at) rfl rfl rfl (by decide +kernel) ⟨Nat.le_of_ble_eq_true rfl, Nat.le_of_ble_eq_true rfl⟩) (ci := 0) rfl, List.forall_mem_cons.mpr ⟨pm_cokS hbs hZ ⟨hx, hb, hml, hown, hts⟩ (kW_Da_portOf l D base sa) (fun mc ms => va_cwS 1 hts (pw_gS (pw_in 1216 (w := .methodLink "RoutingField$Router" 385 ⟨"RoutingField$Datagram", "portOf", "(I)I"⟩) (by decide +kernel) rfl) kv_Da_portOf kn_Da ko_Da_portOf) rfl rfl rfl (by decide +kernel) ⟨Nat.le_of_ble_eq_true rfl, Nat.le_of_ble_eq_true rfl⟩) (Nat.le_of_ble_eq_true rfl), List.forall_mem_cons.mpr ⟨pm_cokV hbs hZ ⟨hx, hb, hml, hown, hts⟩ (kW_Po_opens l D base sa) (fun mc ms => cwV 2 hts (pw_gV (pw_in 1406 (w := .methodLink "RoutingField$Router" 443 ⟨"RoutingField$Port", "opens", "(LRoutingField$Datagram;I)Z"⟩) (by decide +kernel) rfl) ki_Po_opens ks_Po_opens kn_Po ko_Po_opens) rfl rfl rfl (by decide +kernel) ⟨Nat.le_of_ble_eq_true rfl, Nat.le_of_ble_eq_true rfl⟩) (ci := 4) rfl, fun _ h => absurd h List.not_mem_nil⟩⟩⟩⟩⟩⟩⟩),
    hZ, kst_ok ht hZ (kS_Rr_ok sa), knar_ok ht, ktx_ok (kE_Rr_ok sa)⟩
set_option maxRecDepth 100000 in
theorem ki_Da_metricAt : Cond.instanceMethod ⟨"RoutingField$Datagram", "metricAt", "(I)J"⟩ ∈ pw_T := (pw_in 1456 (by decide +kernel) rfl)
set_option maxRecDepth 100000 in
theorem ks_Da_metricAt : Cond.selects "RoutingField$Datagram" ⟨"RoutingField$Datagram", "metricAt", "(I)J"⟩ ⟨"RoutingField$Datagram", "metricAt", "(I)J"⟩ ∈ pw_T := (pw_in 1457 (by decide +kernel) rfl)
set_option maxRecDepth 100000 in
theorem ko_Da_metricAt : Cond.code ⟨"RoutingField$Datagram", "metricAt", "(I)J"⟩ prog_4_method_5_code 2 (some .long) ∈ pw_T := (pw_in 1458 rfl rfl)
set_option maxRecDepth 100000 in
theorem kD_Da_metricAt : ∀ q ∈ kC_Da_metricAt, decode prog_4_method_5_code q.1 = .ok (q.2, pm_len q.1 q.2) := by decide +kernel
set_option maxRecDepth 100000 in
theorem kW_Da_metricAt (l : Launch) (D : va_G) (base : Nat) (sa : Nat → Nat) : pm_Met l D kcl base (kZ sa) ⟨"RoutingField$Datagram", "metricAt", "(I)J"⟩ (.code ⟨"RoutingField$Datagram", "metricAt", "(I)J"⟩ prog_4_method_5_code 2 (some .long) :: pw_T) 1 25 (kP_Da_metricAt base sa) := by
  refine pm_met (by decide) rfl rfl ?_
  intro mc ms p e s m args below meth c hx hb hml hown hnm hts hbs hZ
  have ht : ∀ w ∈ pw_T, w.before args s = true := fun w h => hts w (List.mem_cons_of_mem _ h)
  exact ⟨hx, hb, hown, hbs, pm_look_all kD_Da_metricAt, kf_ok (init := false) ht hZ kF_Da_ok (fun h => by cases h), km_ok ht kM_Da_ok, kci_ok ht kI_Da_ok, kli_ok ht kJ_Da_ok, kar_ok ht hZ kA_Da_ok,
    pm_look_all (List.forall_mem_cons.mpr ⟨pm_cokV hbs hZ ⟨hx, hb, hml, hown, hts⟩ (kW_By_numberAt l D base sa) (fun mc ms => cwV 2 hts (pw_gV (pw_in 1459 (w := .methodLink "RoutingField$Datagram" 78 ⟨"RoutingField$Bytes", "numberAt", "(II)J"⟩) (by decide +kernel) rfl) ki_By_numberAt ks_By_numberAt kn_By ko_By_numberAt) rfl rfl rfl (by decide +kernel) ⟨Nat.le_of_ble_eq_true rfl, Nat.le_of_ble_eq_true rfl⟩) (ci := 0) rfl, List.forall_mem_cons.mpr ⟨pm_cokV hbs hZ ⟨hx, hb, hml, hown, hts⟩ (kW_By_at l D base sa) (fun mc ms => cwV 1 hts (pw_gV (pw_in 1399 (w := .methodLink "RoutingField$Datagram" 64 ⟨"RoutingField$Bytes", "at", "(I)I"⟩) (by decide +kernel) rfl) ki_By_at ks_By_at kn_By ko_By_at) rfl rfl rfl (by decide +kernel) ⟨Nat.le_of_ble_eq_true rfl, Nat.le_of_ble_eq_true rfl⟩) (ci := 0) rfl, fun _ h => absurd h List.not_mem_nil⟩⟩),
    hZ, kst_ok ht hZ (kS_Da_ok sa), knar_ok ht, ktx_ok (kE_Da_ok sa)⟩
set_option maxRecDepth 100000 in
theorem ki_Da_asksForAll : Cond.instanceMethod ⟨"RoutingField$Datagram", "asksForAll", "()Z"⟩ ∈ pw_T := (pw_in 1452 (by decide +kernel) rfl)
set_option maxRecDepth 100000 in
theorem ks_Da_asksForAll : Cond.selects "RoutingField$Datagram" ⟨"RoutingField$Datagram", "asksForAll", "()Z"⟩ ⟨"RoutingField$Datagram", "asksForAll", "()Z"⟩ ∈ pw_T := (pw_in 1453 (by decide +kernel) rfl)
set_option maxRecDepth 100000 in
theorem ko_Da_asksForAll : Cond.code ⟨"RoutingField$Datagram", "asksForAll", "()Z"⟩ prog_4_method_4_code 1 (some .boolean) ∈ pw_T := (pw_in 1454 rfl rfl)
set_option maxRecDepth 100000 in
theorem kD_Da_asksForAll : ∀ q ∈ kC_Da_asksForAll, decode prog_4_method_4_code q.1 = .ok (q.2, pm_len q.1 q.2) := by decide +kernel
set_option maxRecDepth 100000 in
theorem kW_Da_asksForAll (l : Launch) (D : va_G) (base : Nat) (sa : Nat → Nat) : pm_Met l D kcl base (kZ sa) ⟨"RoutingField$Datagram", "asksForAll", "()Z"⟩ (.code ⟨"RoutingField$Datagram", "asksForAll", "()Z"⟩ prog_4_method_4_code 1 (some .boolean) :: pw_T) 2 46 (kP_Da_asksForAll base sa) := by
  refine pm_met (by decide) rfl rfl ?_
  intro mc ms p e s m args below meth c hx hb hml hown hnm hts hbs hZ
  have ht : ∀ w ∈ pw_T, w.before args s = true := fun w h => hts w (List.mem_cons_of_mem _ h)
  exact ⟨hx, hb, hown, hbs, pm_look_all kD_Da_asksForAll, kf_ok (init := false) ht hZ kF_Da_ok (fun h => by cases h), km_ok ht kM_Da_ok, kci_ok ht kI_Da_ok, kli_ok ht kJ_Da_ok, kar_ok ht hZ kA_Da_ok,
    pm_look_all (List.forall_mem_cons.mpr ⟨pm_cokV hbs hZ ⟨hx, hb, hml, hown, hts⟩ (kW_Da_metricAt l D base sa) (fun mc ms => cwV 1 hts (pw_gV (pw_in 1455 (w := .methodLink "RoutingField$Datagram" 72 ⟨"RoutingField$Datagram", "metricAt", "(I)J"⟩) (by decide +kernel) rfl) ki_Da_metricAt ks_Da_metricAt kn_Da ko_Da_metricAt) rfl rfl rfl (by decide +kernel) ⟨Nat.le_of_ble_eq_true rfl, Nat.le_of_ble_eq_true rfl⟩) (ci := 2) rfl, List.forall_mem_cons.mpr ⟨pm_cokV hbs hZ ⟨hx, hb, hml, hown, hts⟩ (kW_By_zerosAt l D base sa) (fun mc ms => cwV 2 hts (pw_gV (pw_in 1400 (w := .methodLink "RoutingField$Datagram" 68 ⟨"RoutingField$Bytes", "zerosAt", "(II)Z"⟩) (by decide +kernel) rfl) ki_By_zerosAt ks_By_zerosAt kn_By ko_By_zerosAt) rfl rfl rfl (by decide +kernel) ⟨Nat.le_of_ble_eq_true rfl, Nat.le_of_ble_eq_true rfl⟩) (ci := 0) rfl, fun _ h => absurd h List.not_mem_nil⟩⟩),
    hZ, kst_ok ht hZ (kS_Da_ok sa), knar_ok ht, ktx_ok (kE_Da_ok sa)⟩
set_option maxRecDepth 100000 in
theorem ki_Ta_clear : Cond.instanceMethod ⟨"RoutingField$Table", "clear", "()V"⟩ ∈ pw_T := (pw_in 1466 (by decide +kernel) rfl)
set_option maxRecDepth 100000 in
theorem ks_Ta_clear : Cond.selects "RoutingField$Table" ⟨"RoutingField$Table", "clear", "()V"⟩ ⟨"RoutingField$Table", "clear", "()V"⟩ ∈ pw_T := (pw_in 1467 (by decide +kernel) rfl)
set_option maxRecDepth 100000 in
theorem ko_Ta_clear : Cond.code ⟨"RoutingField$Table", "clear", "()V"⟩ prog_12_method_2_code 1 none ∈ pw_T := (pw_in 1468 rfl rfl)
set_option maxRecDepth 100000 in
theorem kD_Ta_clear : ∀ q ∈ kC_Ta_clear, decode prog_12_method_2_code q.1 = .ok (q.2, pm_len q.1 q.2) := by decide +kernel
set_option maxRecDepth 100000 in
theorem kW_Ta_clear (l : Launch) (D : va_G) (base : Nat) (sa : Nat → Nat) : pm_Met l D kcl base (kZ sa) ⟨"RoutingField$Table", "clear", "()V"⟩ (.code ⟨"RoutingField$Table", "clear", "()V"⟩ prog_12_method_2_code 1 none :: pw_T) 0 0 (kP_Ta_clear base sa) := by
  refine pm_met (by decide) rfl rfl ?_
  intro mc ms p e s m args below meth c hx hb hml hown hnm hts hbs hZ
  have ht : ∀ w ∈ pw_T, w.before args s = true := fun w h => hts w (List.mem_cons_of_mem _ h)
  exact ⟨hx, hb, hown, hbs, pm_look_all kD_Ta_clear, kf_ok (init := false) ht hZ kF_Ta_ok (fun h => by cases h), km_ok ht kM_Ta_ok, kci_ok ht kI_Ta_ok, kli_ok ht kJ_Ta_ok, kar_ok ht hZ kA_Ta_ok,
    pm_look_all (fun _ h => absurd h List.not_mem_nil),
    hZ, kst_ok ht hZ (kS_Ta_ok sa), knar_ok ht, ktx_ok (kE_Ta_ok sa)⟩
set_option maxRecDepth 100000 in
theorem ki_Po_forgetSummaries : Cond.instanceMethod ⟨"RoutingField$Port", "forgetSummaries", "()V"⟩ ∈ pw_T := (pw_in 1470 (by decide +kernel) rfl)
set_option maxRecDepth 100000 in
theorem ks_Po_forgetSummaries : Cond.selects "RoutingField$Port" ⟨"RoutingField$Port", "forgetSummaries", "()V"⟩ ⟨"RoutingField$Port", "forgetSummaries", "()V"⟩ ∈ pw_T := (pw_in 1471 (by decide +kernel) rfl)
set_option maxRecDepth 100000 in
theorem ko_Po_forgetSummaries : Cond.code ⟨"RoutingField$Port", "forgetSummaries", "()V"⟩ prog_6_method_7_code 2 none ∈ pw_T := (pw_in 1472 rfl rfl)
set_option maxRecDepth 100000 in
theorem kD_Po_forgetSummaries : ∀ q ∈ kC_Po_forgetSummaries, decode prog_6_method_7_code q.1 = .ok (q.2, pm_len q.1 q.2) := by decide +kernel
set_option maxRecDepth 100000 in
theorem kW_Po_forgetSummaries (l : Launch) (D : va_G) (base : Nat) (sa : Nat → Nat) : pm_Met l D kcl base (kZ sa) ⟨"RoutingField$Port", "forgetSummaries", "()V"⟩ (.code ⟨"RoutingField$Port", "forgetSummaries", "()V"⟩ prog_6_method_7_code 2 none :: pw_T) 0 0 (kP_Po_forgetSummaries base sa) := by
  refine pm_met (by decide) rfl rfl ?_
  intro mc ms p e s m args below meth c hx hb hml hown hnm hts hbs hZ
  have ht : ∀ w ∈ pw_T, w.before args s = true := fun w h => hts w (List.mem_cons_of_mem _ h)
  exact ⟨hx, hb, hown, hbs, pm_look_all kD_Po_forgetSummaries, kf_ok (init := false) ht hZ kF_Po_ok (fun h => by cases h), km_ok ht kM_Po_ok, kci_ok ht kI_Po_ok, kli_ok ht kJ_Po_ok, kar_ok ht hZ kA_Po_ok,
    pm_look_all (fun _ h => absurd h List.not_mem_nil),
    hZ, kst_ok ht hZ (kS_Po_ok sa), knar_ok ht, ktx_ok (kE_Po_ok sa)⟩
set_option maxRecDepth 100000 in
theorem ki_Pl_lets : Cond.instanceMethod ⟨"RoutingField$PrefixList", "lets", "(LRoutingField$Prefix;Z)Z"⟩ ∈ pw_T := (pw_in 1482 (by decide +kernel) rfl)
set_option maxRecDepth 100000 in
theorem ks_Pl_lets : Cond.selects "RoutingField$PrefixList" ⟨"RoutingField$PrefixList", "lets", "(LRoutingField$Prefix;Z)Z"⟩ ⟨"RoutingField$PrefixList", "lets", "(LRoutingField$Prefix;Z)Z"⟩ ∈ pw_T := (pw_in 1483 (by decide +kernel) rfl)
set_option maxRecDepth 100000 in
theorem ko_Pl_lets : Cond.code ⟨"RoutingField$PrefixList", "lets", "(LRoutingField$Prefix;Z)Z"⟩ prog_8_method_4_code 7 (some .boolean) ∈ pw_T := (pw_in 1484 rfl rfl)
set_option maxRecDepth 100000 in
theorem kD_Pl_lets_0 : ∀ q ∈ kC_Pl_lets_0, decode prog_8_method_4_code q.1 = .ok (q.2, pm_len q.1 q.2) := by decide +kernel
set_option maxRecDepth 100000 in
theorem kD_Pl_lets_1 : ∀ q ∈ kC_Pl_lets_1, decode prog_8_method_4_code q.1 = .ok (q.2, pm_len q.1 q.2) := by decide +kernel
theorem kD_Pl_lets : ∀ q ∈ kC_Pl_lets, decode prog_8_method_4_code q.1 = .ok (q.2, pm_len q.1 q.2) := List.forall_mem_append.mpr ⟨kD_Pl_lets_0, kD_Pl_lets_1⟩
set_option maxRecDepth 100000 in
theorem kW_Pl_lets (l : Launch) (D : va_G) (base : Nat) (sa : Nat → Nat) : pm_Met l D kcl base (kZ sa) ⟨"RoutingField$PrefixList", "lets", "(LRoutingField$Prefix;Z)Z"⟩ (.code ⟨"RoutingField$PrefixList", "lets", "(LRoutingField$Prefix;Z)Z"⟩ prog_8_method_4_code 7 (some .boolean) :: pw_T) 1 25 (kP_Pl_lets base sa) := by
  refine pm_met (by decide) rfl rfl ?_
  intro mc ms p e s m args below meth c hx hb hml hown hnm hts hbs hZ
  have ht : ∀ w ∈ pw_T, w.before args s = true := fun w h => hts w (List.mem_cons_of_mem _ h)
  exact ⟨hx, hb, hown, hbs, pm_look_all kD_Pl_lets, kf_ok (init := false) ht hZ kF_Pl_ok (fun h => by cases h), km_ok ht kM_Pl_ok, kci_ok ht kI_Pl_ok, kli_ok ht kJ_Pl_ok, kar_ok ht hZ kA_Pl_ok,
    pm_look_all (List.forall_mem_cons.mpr ⟨pm_cokV hbs hZ ⟨hx, hb, hml, hown, hts⟩ (kW_Pr_covers l D base sa) (fun mc ms => cwV 1 hts (pw_gV (pw_in 1485 (w := .methodLink "RoutingField$PrefixList" 54 ⟨"RoutingField$Prefix", "covers", "(LRoutingField$Prefix;)Z"⟩) (by decide +kernel) rfl) ki_Pr_covers ks_Pr_covers kn_Pr ko_Pr_covers) rfl rfl rfl (by decide +kernel) ⟨Nat.le_of_ble_eq_true rfl, Nat.le_of_ble_eq_true rfl⟩) (ci := 5) rfl, fun _ h => absurd h List.not_mem_nil⟩),
    hZ, kst_ok ht hZ (kS_Pl_ok sa), knar_ok ht, ktx_ok (kE_Pl_ok sa)⟩
set_option maxRecDepth 100000 in
theorem ki_Rr_concerns : Cond.instanceMethod ⟨"RoutingField$Router", "concerns", "([IILRoutingField$Link;)Z"⟩ ∈ pw_T := (pw_in 1488 (by decide +kernel) rfl)
set_option maxRecDepth 100000 in
theorem ks_Rr_concerns : Cond.selects "RoutingField$Router" ⟨"RoutingField$Router", "concerns", "([IILRoutingField$Link;)Z"⟩ ⟨"RoutingField$Router", "concerns", "([IILRoutingField$Link;)Z"⟩ ∈ pw_T := (pw_sel 69 (q := (⟨"RoutingField$Router", "concerns", "([IILRoutingField$Link;)Z"⟩, 20)) (by decide +kernel))
set_option maxRecDepth 100000 in
theorem ko_Rr_concerns : Cond.code ⟨"RoutingField$Router", "concerns", "([IILRoutingField$Link;)Z"⟩ prog_11_method_18_code 4 (some .boolean) ∈ pw_T := (pw_in 1489 rfl rfl)
set_option maxRecDepth 100000 in
theorem kD_Rr_concerns : ∀ q ∈ kC_Rr_concerns, decode prog_11_method_18_code q.1 = .ok (q.2, pm_len q.1 q.2) := by decide +kernel
set_option maxRecDepth 100000 in
theorem kW_Rr_concerns (l : Launch) (D : va_G) (base : Nat) (sa : Nat → Nat) : pm_Met l D kcl base (kZ sa) ⟨"RoutingField$Router", "concerns", "([IILRoutingField$Link;)Z"⟩ (.code ⟨"RoutingField$Router", "concerns", "([IILRoutingField$Link;)Z"⟩ prog_11_method_18_code 4 (some .boolean) :: pw_T) 1 21 (kP_Rr_concerns base sa) := by
  refine pm_met (by decide) rfl rfl ?_
  intro mc ms p e s m args below meth c hx hb hml hown hnm hts hbs hZ
  have ht : ∀ w ∈ pw_T, w.before args s = true := fun w h => hts w (List.mem_cons_of_mem _ h)
  exact ⟨hx, hb, hown, hbs, pm_look_all kD_Rr_concerns, kf_ok (init := false) ht hZ kF_Rr_ok (fun h => by cases h), km_ok ht kM_Rr_ok, kci_ok ht kI_Rr_ok, kli_ok ht kJ_Rr_ok, kar_ok ht hZ kA_Rr_ok,
    pm_look_all (List.forall_mem_cons.mpr ⟨pm_cokVN hbs hZ ⟨hx, hb, hml, hown, hts⟩ (kW_Rf_linkAt l D base sa) (fun mc ms => ⟨va_cnB 1 hts (pw_gC ko_Rf_linkAt) rfl rfl rfl (hZ.2.2.2.1 _ (List.mem_of_getElem? (i := 2) rfl)) (ht _ kn_Rf) (by decide +kernel) ⟨Nat.le_of_ble_eq_true rfl, Nat.le_of_ble_eq_true rfl⟩, ht _ ki_Rf_linkAt, ht _ ks_Rf_linkAt⟩) (ci := 11) rfl, fun _ h => absurd h List.not_mem_nil⟩),
    hZ, kst_ok ht hZ (kS_Rr_ok sa), knar_ok ht, ktx_ok (kE_Rr_ok sa)⟩
set_option maxRecDepth 100000 in
theorem ki_Rr_refuses : Cond.instanceMethod ⟨"RoutingField$Router", "refuses", "(ILRoutingField$Link;LRoutingField$Prefix;)Z"⟩ ∈ pw_T := (pw_in 1479 (by decide +kernel) rfl)
set_option maxRecDepth 100000 in
theorem ks_Rr_refuses : Cond.selects "RoutingField$Router" ⟨"RoutingField$Router", "refuses", "(ILRoutingField$Link;LRoutingField$Prefix;)Z"⟩ ⟨"RoutingField$Router", "refuses", "(ILRoutingField$Link;LRoutingField$Prefix;)Z"⟩ ∈ pw_T := (pw_sel 68 (q := (⟨"RoutingField$Router", "refuses", "(ILRoutingField$Link;LRoutingField$Prefix;)Z"⟩, 20)) (by decide +kernel))
set_option maxRecDepth 100000 in
theorem ko_Rr_refuses : Cond.code ⟨"RoutingField$Router", "refuses", "(ILRoutingField$Link;LRoutingField$Prefix;)Z"⟩ prog_11_method_19_code 6 (some .boolean) ∈ pw_T := (pw_in 1480 rfl rfl)
set_option maxRecDepth 100000 in
theorem kD_Rr_refuses : ∀ q ∈ kC_Rr_refuses, decode prog_11_method_19_code q.1 = .ok (q.2, pm_len q.1 q.2) := by decide +kernel
set_option maxRecDepth 100000 in
theorem kW_Rr_refuses (l : Launch) (D : va_G) (base : Nat) (sa : Nat → Nat) : pm_Met l D kcl base (kZ sa) ⟨"RoutingField$Router", "refuses", "(ILRoutingField$Link;LRoutingField$Prefix;)Z"⟩ (.code ⟨"RoutingField$Router", "refuses", "(ILRoutingField$Link;LRoutingField$Prefix;)Z"⟩ prog_11_method_19_code 6 (some .boolean) :: pw_T) 2 51 (kP_Rr_refuses base sa) := by
  refine pm_met (by decide) rfl rfl ?_
  intro mc ms p e s m args below meth c hx hb hml hown hnm hts hbs hZ
  have ht : ∀ w ∈ pw_T, w.before args s = true := fun w h => hts w (List.mem_cons_of_mem _ h)
  exact ⟨hx, hb, hown, hbs, pm_look_all kD_Rr_refuses, kf_ok (init := false) ht hZ kF_Rr_ok (fun h => by cases h), km_ok ht kM_Rr_ok, kci_ok ht kI_Rr_ok, kli_ok ht kJ_Rr_ok, kar_ok ht hZ kA_Rr_ok,
    pm_look_all (List.forall_mem_cons.mpr ⟨pm_cokV hbs hZ ⟨hx, hb, hml, hown, hts⟩ (kW_Pl_lets l D base sa) (fun mc ms => cwV 2 hts (pw_gV (pw_in 1481 (w := .methodLink "RoutingField$Router" 239 ⟨"RoutingField$PrefixList", "lets", "(LRoutingField$Prefix;Z)Z"⟩) (by decide +kernel) rfl) ki_Pl_lets ks_Pl_lets kn_Pl ko_Pl_lets) rfl rfl rfl (by decide +kernel) ⟨Nat.le_of_ble_eq_true rfl, Nat.le_of_ble_eq_true rfl⟩) (ci := 6) rfl, List.forall_mem_cons.mpr ⟨pm_cokV hbs hZ ⟨hx, hb, hml, hown, hts⟩ (kW_Rr_concerns l D base sa) (fun mc ms => cwV 3 hts (pw_gV (pw_in 1486 (w := .methodLink "RoutingField$Router" 243 ⟨"RoutingField$Router", "concerns", "([IILRoutingField$Link;)Z"⟩) (by decide +kernel) rfl) ki_Rr_concerns ks_Rr_concerns kn_Rr ko_Rr_concerns) rfl rfl rfl (by decide +kernel) ⟨Nat.le_of_ble_eq_true rfl, Nat.le_of_ble_eq_true rfl⟩) (ci := 9) rfl, fun _ h => absurd h List.not_mem_nil⟩⟩),
    hZ, kst_ok ht hZ (kS_Rr_ok sa), knar_ok ht, ktx_ok (kE_Rr_ok sa)⟩
set_option maxRecDepth 100000 in
theorem ki_Rr_raised : Cond.instanceMethod ⟨"RoutingField$Router", "raised", "(IILRoutingField$Link;LRoutingField$Prefix;)I"⟩ ∈ pw_T := (pw_in 1493 (by decide +kernel) rfl)
set_option maxRecDepth 100000 in
theorem ks_Rr_raised : Cond.selects "RoutingField$Router" ⟨"RoutingField$Router", "raised", "(IILRoutingField$Link;LRoutingField$Prefix;)I"⟩ ⟨"RoutingField$Router", "raised", "(IILRoutingField$Link;LRoutingField$Prefix;)I"⟩ ∈ pw_T := (pw_sel 70 (q := (⟨"RoutingField$Router", "raised", "(IILRoutingField$Link;LRoutingField$Prefix;)I"⟩, 20)) (by decide +kernel))
set_option maxRecDepth 100000 in
theorem ko_Rr_raised : Cond.code ⟨"RoutingField$Router", "raised", "(IILRoutingField$Link;LRoutingField$Prefix;)I"⟩ prog_11_method_20_code 7 (some .int) ∈ pw_T := (pw_in 1494 rfl rfl)
set_option maxRecDepth 100000 in
theorem kD_Rr_raised : ∀ q ∈ kC_Rr_raised, decode prog_11_method_20_code q.1 = .ok (q.2, pm_len q.1 q.2) := by decide +kernel
set_option maxRecDepth 100000 in
theorem kW_Rr_raised (l : Launch) (D : va_G) (base : Nat) (sa : Nat → Nat) : pm_Met l D kcl base (kZ sa) ⟨"RoutingField$Router", "raised", "(IILRoutingField$Link;LRoutingField$Prefix;)I"⟩ (.code ⟨"RoutingField$Router", "raised", "(IILRoutingField$Link;LRoutingField$Prefix;)I"⟩ prog_11_method_20_code 7 (some .int) :: pw_T) 2 51 (kP_Rr_raised base sa) := by
  refine pm_met (by decide) rfl rfl ?_
  intro mc ms p e s m args below meth c hx hb hml hown hnm hts hbs hZ
  have ht : ∀ w ∈ pw_T, w.before args s = true := fun w h => hts w (List.mem_cons_of_mem _ h)
  exact ⟨hx, hb, hown, hbs, pm_look_all kD_Rr_raised, kf_ok (init := false) ht hZ kF_Rr_ok (fun h => by cases h), km_ok ht kM_Rr_ok, kci_ok ht kI_Rr_ok, kli_ok ht kJ_Rr_ok, kar_ok ht hZ kA_Rr_ok,
    pm_look_all (List.forall_mem_cons.mpr ⟨pm_cokV hbs hZ ⟨hx, hb, hml, hown, hts⟩ (kW_Rr_concerns l D base sa) (fun mc ms => cwV 3 hts (pw_gV (pw_in 1486 (w := .methodLink "RoutingField$Router" 243 ⟨"RoutingField$Router", "concerns", "([IILRoutingField$Link;)Z"⟩) (by decide +kernel) rfl) ki_Rr_concerns ks_Rr_concerns kn_Rr ko_Rr_concerns) rfl rfl rfl (by decide +kernel) ⟨Nat.le_of_ble_eq_true rfl, Nat.le_of_ble_eq_true rfl⟩) (ci := 9) rfl, List.forall_mem_cons.mpr ⟨pm_cokV hbs hZ ⟨hx, hb, hml, hown, hts⟩ (kW_Pl_lets l D base sa) (fun mc ms => cwV 2 hts (pw_gV (pw_in 1481 (w := .methodLink "RoutingField$Router" 239 ⟨"RoutingField$PrefixList", "lets", "(LRoutingField$Prefix;Z)Z"⟩) (by decide +kernel) rfl) ki_Pl_lets ks_Pl_lets kn_Pl ko_Pl_lets) rfl rfl rfl (by decide +kernel) ⟨Nat.le_of_ble_eq_true rfl, Nat.le_of_ble_eq_true rfl⟩) (ci := 6) rfl, List.forall_mem_cons.mpr ⟨pm_cokMn hx hb hml hown (ht _ (pw_in 1495 (w := .methodLink "RoutingField$Router" 229 ⟨"java/lang/Math", "min", "(II)I"⟩) (by decide +kernel) rfl)) (ht _ (pw_in 1160 (by decide +kernel) rfl)) (ht _ (pw_in 14 (by decide +kernel) rfl)) (ht _ (pw_in 1161 rfl rfl)) (Nat.le_of_ble_eq_true rfl) (Nat.le_of_ble_eq_true rfl), fun _ h => absurd h List.not_mem_nil⟩⟩⟩),
    hZ, kst_ok ht hZ (kS_Rr_ok sa), knar_ok ht, ktx_ok (kE_Rr_ok sa)⟩
set_option maxRecDepth 100000 in
theorem ki_Rr_toldMetric : Cond.instanceMethod ⟨"RoutingField$Router", "toldMetric", "(LRoutingField$Route;LRoutingField$Port;)I"⟩ ∈ pw_T := (pw_in 1475 (by decide +kernel) rfl)
set_option maxRecDepth 100000 in
theorem ks_Rr_toldMetric : Cond.selects "RoutingField$Router" ⟨"RoutingField$Router", "toldMetric", "(LRoutingField$Route;LRoutingField$Port;)I"⟩ ⟨"RoutingField$Router", "toldMetric", "(LRoutingField$Route;LRoutingField$Port;)I"⟩ ∈ pw_T := (pw_sel 67 (q := (⟨"RoutingField$Router", "toldMetric", "(LRoutingField$Route;LRoutingField$Port;)I"⟩, 20)) (by decide +kernel))
set_option maxRecDepth 100000 in
theorem ko_Rr_toldMetric : Cond.code ⟨"RoutingField$Router", "toldMetric", "(LRoutingField$Route;LRoutingField$Port;)I"⟩ prog_11_method_25_code 4 (some .int) ∈ pw_T := (pw_in 1476 rfl rfl)
set_option maxRecDepth 100000 in
theorem kD_Rr_toldMetric_0 : ∀ q ∈ kC_Rr_toldMetric_0, decode prog_11_method_25_code q.1 = .ok (q.2, pm_len q.1 q.2) := by decide +kernel
set_option maxRecDepth 100000 in
theorem kD_Rr_toldMetric_1 : ∀ q ∈ kC_Rr_toldMetric_1, decode prog_11_method_25_code q.1 = .ok (q.2, pm_len q.1 q.2) := by decide +kernel
theorem kD_Rr_toldMetric : ∀ q ∈ kC_Rr_toldMetric, decode prog_11_method_25_code q.1 = .ok (q.2, pm_len q.1 q.2) := List.forall_mem_append.mpr ⟨kD_Rr_toldMetric_0, kD_Rr_toldMetric_1⟩
set_option maxRecDepth 100000 in
theorem kW_Rr_toldMetric (l : Launch) (D : va_G) (base : Nat) (sa : Nat → Nat) : pm_Met l D kcl base (kZ sa) ⟨"RoutingField$Router", "toldMetric", "(LRoutingField$Route;LRoutingField$Port;)I"⟩ (.code ⟨"RoutingField$Router", "toldMetric", "(LRoutingField$Route;LRoutingField$Port;)I"⟩ prog_11_method_25_code 4 (some .int) :: pw_T) 3 77 (kP_Rr_toldMetric base sa) := by
  refine pm_met (by decide) rfl rfl ?_
  intro mc ms p e s m args below meth c hx hb hml hown hnm hts hbs hZ
  have ht : ∀ w ∈ pw_T, w.before args s = true := fun w h => hts w (List.mem_cons_of_mem _ h)
  exact ⟨hx, hb, hown, hbs, pm_look_all kD_Rr_toldMetric, kf_ok (init := false) ht hZ kF_Rr_ok (fun h => by cases h), km_ok ht kM_Rr_ok, kci_ok ht kI_Rr_ok, kli_ok ht kJ_Rr_ok, kar_ok ht hZ kA_Rr_ok,
    pm_look_all (List.forall_mem_cons.mpr ⟨pm_cokV hbs hZ ⟨hx, hb, hml, hown, hts⟩ (kW_Rr_refuses l D base sa) (fun mc ms => cwV 3 hts (pw_gV (pw_in 1477 (w := .methodLink "RoutingField$Router" 318 ⟨"RoutingField$Router", "refuses", "(ILRoutingField$Link;LRoutingField$Prefix;)Z"⟩) (by decide +kernel) rfl) ki_Rr_refuses ks_Rr_refuses kn_Rr ko_Rr_refuses) rfl rfl rfl (by decide +kernel) ⟨Nat.le_of_ble_eq_true rfl, Nat.le_of_ble_eq_true rfl⟩) (ci := 9) rfl, List.forall_mem_cons.mpr ⟨pm_cokV hbs hZ ⟨hx, hb, hml, hown, hts⟩ (kW_Rr_raised l D base sa) (fun mc ms => cwV 4 hts (pw_gV (pw_in 1491 (w := .methodLink "RoutingField$Router" 325 ⟨"RoutingField$Router", "raised", "(IILRoutingField$Link;LRoutingField$Prefix;)I"⟩) (by decide +kernel) rfl) ki_Rr_raised ks_Rr_raised kn_Rr ko_Rr_raised) rfl rfl rfl (by decide +kernel) ⟨Nat.le_of_ble_eq_true rfl, Nat.le_of_ble_eq_true rfl⟩) (ci := 9) rfl, fun _ h => absurd h List.not_mem_nil⟩⟩),
    hZ, kst_ok ht hZ (kS_Rr_ok sa), knar_ok ht, ktx_ok (kE_Rr_ok sa)⟩
set_option maxRecDepth 100000 in
theorem ki_Rr_toldTag : Cond.instanceMethod ⟨"RoutingField$Router", "toldTag", "(LRoutingField$Route;)I"⟩ ∈ pw_T := (pw_in 1498 (by decide +kernel) rfl)
set_option maxRecDepth 100000 in
theorem ks_Rr_toldTag : Cond.selects "RoutingField$Router" ⟨"RoutingField$Router", "toldTag", "(LRoutingField$Route;)I"⟩ ⟨"RoutingField$Router", "toldTag", "(LRoutingField$Route;)I"⟩ ∈ pw_T := (pw_sel 71 (q := (⟨"RoutingField$Router", "toldTag", "(LRoutingField$Route;)I"⟩, 20)) (by decide +kernel))
set_option maxRecDepth 100000 in
theorem ko_Rr_toldTag : Cond.code ⟨"RoutingField$Router", "toldTag", "(LRoutingField$Route;)I"⟩ prog_11_method_24_code 2 (some .int) ∈ pw_T := (pw_in 1499 rfl rfl)
set_option maxRecDepth 100000 in
theorem kD_Rr_toldTag : ∀ q ∈ kC_Rr_toldTag, decode prog_11_method_24_code q.1 = .ok (q.2, pm_len q.1 q.2) := by decide +kernel
set_option maxRecDepth 100000 in
theorem kW_Rr_toldTag (l : Launch) (D : va_G) (base : Nat) (sa : Nat → Nat) : pm_Met l D kcl base (kZ sa) ⟨"RoutingField$Router", "toldTag", "(LRoutingField$Route;)I"⟩ (.code ⟨"RoutingField$Router", "toldTag", "(LRoutingField$Route;)I"⟩ prog_11_method_24_code 2 (some .int) :: pw_T) 1 25 (kP_Rr_toldTag base sa) := by
  refine pm_met (by decide) rfl rfl ?_
  intro mc ms p e s m args below meth c hx hb hml hown hnm hts hbs hZ
  have ht : ∀ w ∈ pw_T, w.before args s = true := fun w h => hts w (List.mem_cons_of_mem _ h)
  exact ⟨hx, hb, hown, hbs, pm_look_all kD_Rr_toldTag, kf_ok (init := false) ht hZ kF_Rr_ok (fun h => by cases h), km_ok ht kM_Rr_ok, kci_ok ht kI_Rr_ok, kli_ok ht kJ_Rr_ok, kar_ok ht hZ kA_Rr_ok,
    pm_look_all (List.forall_mem_cons.mpr ⟨pm_cokMx hx hb hml hown (ht _ (pw_in 1500 (w := .methodLink "RoutingField$Router" 315 ⟨"java/lang/Math", "max", "(II)I"⟩) (by decide +kernel) rfl)) (ht _ (pw_in 484 (by decide +kernel) rfl)) (ht _ (pw_in 14 (by decide +kernel) rfl)) (ht _ (pw_in 485 rfl rfl)) (Nat.le_of_ble_eq_true rfl) (Nat.le_of_ble_eq_true rfl), fun _ h => absurd h List.not_mem_nil⟩),
    hZ, kst_ok ht hZ (kS_Rr_ok sa), knar_ok ht, ktx_ok (kE_Rr_ok sa)⟩
set_option maxRecDepth 100000 in
theorem ki_Po_summaryOf : Cond.instanceMethod ⟨"RoutingField$Port", "summaryOf", "(LRoutingField$Prefix;)I"⟩ ∈ pw_T := (pw_in 1502 (by decide +kernel) rfl)
set_option maxRecDepth 100000 in
theorem ks_Po_summaryOf : Cond.selects "RoutingField$Port" ⟨"RoutingField$Port", "summaryOf", "(LRoutingField$Prefix;)I"⟩ ⟨"RoutingField$Port", "summaryOf", "(LRoutingField$Prefix;)I"⟩ ∈ pw_T := (pw_in 1503 (by decide +kernel) rfl)
set_option maxRecDepth 100000 in
theorem ko_Po_summaryOf : Cond.code ⟨"RoutingField$Port", "summaryOf", "(LRoutingField$Prefix;)I"⟩ prog_6_method_6_code 3 (some .int) ∈ pw_T := (pw_in 1504 rfl rfl)
set_option maxRecDepth 100000 in
theorem kD_Po_summaryOf : ∀ q ∈ kC_Po_summaryOf, decode prog_6_method_6_code q.1 = .ok (q.2, pm_len q.1 q.2) := by decide +kernel
set_option maxRecDepth 100000 in
theorem kW_Po_summaryOf (l : Launch) (D : va_G) (base : Nat) (sa : Nat → Nat) : pm_Met l D kcl base (kZ sa) ⟨"RoutingField$Port", "summaryOf", "(LRoutingField$Prefix;)I"⟩ (.code ⟨"RoutingField$Port", "summaryOf", "(LRoutingField$Prefix;)I"⟩ prog_6_method_6_code 3 (some .int) :: pw_T) 1 25 (kP_Po_summaryOf base sa) := by
  refine pm_met (by decide) rfl rfl ?_
  intro mc ms p e s m args below meth c hx hb hml hown hnm hts hbs hZ
  have ht : ∀ w ∈ pw_T, w.before args s = true := fun w h => hts w (List.mem_cons_of_mem _ h)
  exact ⟨hx, hb, hown, hbs, pm_look_all kD_Po_summaryOf, kf_ok (init := false) ht hZ kF_Po_ok (fun h => by cases h), km_ok ht kM_Po_ok, kci_ok ht kI_Po_ok, kli_ok ht kJ_Po_ok, kar_ok ht hZ kA_Po_ok,
    pm_look_all (List.forall_mem_cons.mpr ⟨pm_cokV hbs hZ ⟨hx, hb, hml, hown, hts⟩ (kW_Pr_covers l D base sa) (fun mc ms => cwV 1 hts (pw_gV (pw_in 1505 (w := .methodLink "RoutingField$Port" 89 ⟨"RoutingField$Prefix", "covers", "(LRoutingField$Prefix;)Z"⟩) (by decide +kernel) rfl) ki_Pr_covers ks_Pr_covers kn_Pr ko_Pr_covers) rfl rfl rfl (by decide +kernel) ⟨Nat.le_of_ble_eq_true rfl, Nat.le_of_ble_eq_true rfl⟩) (ci := 5) rfl, fun _ h => absurd h List.not_mem_nil⟩),
    hZ, kst_ok ht hZ (kS_Po_ok sa), knar_ok ht, ktx_ok (kE_Po_ok sa)⟩
set_option maxRecDepth 100000 in
theorem ki_Rr_gatherSummaries : Cond.instanceMethod ⟨"RoutingField$Router", "gatherSummaries", "(LRoutingField$Port;)V"⟩ ∈ pw_T := (pw_in 1508 (by decide +kernel) rfl)
set_option maxRecDepth 100000 in
theorem ks_Rr_gatherSummaries : Cond.selects "RoutingField$Router" ⟨"RoutingField$Router", "gatherSummaries", "(LRoutingField$Port;)V"⟩ ⟨"RoutingField$Router", "gatherSummaries", "(LRoutingField$Port;)V"⟩ ∈ pw_T := (pw_sel 72 (q := (⟨"RoutingField$Router", "gatherSummaries", "(LRoutingField$Port;)V"⟩, 20)) (by decide +kernel))
set_option maxRecDepth 100000 in
theorem ko_Rr_gatherSummaries : Cond.code ⟨"RoutingField$Router", "gatherSummaries", "(LRoutingField$Port;)V"⟩ prog_11_method_23_code 4 none ∈ pw_T := (pw_in 1509 rfl rfl)
set_option maxRecDepth 100000 in
theorem kD_Rr_gatherSummaries : ∀ q ∈ kC_Rr_gatherSummaries, decode prog_11_method_23_code q.1 = .ok (q.2, pm_len q.1 q.2) := by decide +kernel
set_option maxRecDepth 100000 in
theorem kW_Rr_gatherSummaries (l : Launch) (D : va_G) (base : Nat) (sa : Nat → Nat) : pm_Met l D kcl base (kZ sa) ⟨"RoutingField$Router", "gatherSummaries", "(LRoutingField$Port;)V"⟩ (.code ⟨"RoutingField$Router", "gatherSummaries", "(LRoutingField$Port;)V"⟩ prog_11_method_23_code 4 none :: pw_T) 4 86 (kP_Rr_gatherSummaries base sa) := by
  refine pm_met (by decide) rfl rfl ?_
  intro mc ms p e s m args below meth c hx hb hml hown hnm hts hbs hZ
  have ht : ∀ w ∈ pw_T, w.before args s = true := fun w h => hts w (List.mem_cons_of_mem _ h)
  exact ⟨hx, hb, hown, hbs, pm_look_all kD_Rr_gatherSummaries, kf_ok (init := false) ht hZ kF_Rr_ok (fun h => by cases h), km_ok ht kM_Rr_ok, kci_ok ht kI_Rr_ok, kli_ok ht kJ_Rr_ok, kar_ok ht hZ kA_Rr_ok,
    pm_look_all (List.forall_mem_cons.mpr ⟨pm_cokV hbs hZ ⟨hx, hb, hml, hown, hts⟩ (kW_Ta_add l D base sa) (fun mc ms => cwV 3 hts (pw_gV (pw_in 1029 (w := .methodLink "RoutingField$Router" 157 ⟨"RoutingField$Table", "add", "(LRoutingField$Prefix;II)LRoutingField$Route;"⟩) (by decide +kernel) rfl) ki_Ta_add ks_Ta_add kn_Ta ko_Ta_add) rfl rfl rfl (by decide +kernel) ⟨Nat.le_of_ble_eq_true rfl, Nat.le_of_ble_eq_true rfl⟩) (ci := 10) rfl, fun _ h => absurd h List.not_mem_nil⟩),
    hZ, kst_ok ht hZ (kS_Rr_ok sa), knar_ok ht, ktx_ok (kE_Rr_ok sa)⟩
set_option maxRecDepth 100000 in
theorem ki_Rr_gather : Cond.instanceMethod ⟨"RoutingField$Router", "gather", "(LRoutingField$Port;II)V"⟩ ∈ pw_T := (pw_in 1463 (by decide +kernel) rfl)
set_option maxRecDepth 100000 in
theorem ks_Rr_gather : Cond.selects "RoutingField$Router" ⟨"RoutingField$Router", "gather", "(LRoutingField$Port;II)V"⟩ ⟨"RoutingField$Router", "gather", "(LRoutingField$Port;II)V"⟩ ∈ pw_T := (pw_sel 66 (q := (⟨"RoutingField$Router", "gather", "(LRoutingField$Port;II)V"⟩, 20)) (by decide +kernel))
set_option maxRecDepth 100000 in
theorem ko_Rr_gather : Cond.code ⟨"RoutingField$Router", "gather", "(LRoutingField$Port;II)V"⟩ prog_11_method_22_code 14 none ∈ pw_T := (pw_in 1464 rfl rfl)
set_option maxRecDepth 100000 in
theorem kD_Rr_gather_0 : ∀ q ∈ kC_Rr_gather_0, decode prog_11_method_22_code q.1 = .ok (q.2, pm_len q.1 q.2) := by decide +kernel
set_option maxRecDepth 100000 in
theorem kD_Rr_gather_1 : ∀ q ∈ kC_Rr_gather_1, decode prog_11_method_22_code q.1 = .ok (q.2, pm_len q.1 q.2) := by decide +kernel
set_option maxRecDepth 100000 in
theorem kD_Rr_gather_2 : ∀ q ∈ kC_Rr_gather_2, decode prog_11_method_22_code q.1 = .ok (q.2, pm_len q.1 q.2) := by decide +kernel
set_option maxRecDepth 100000 in
theorem kD_Rr_gather_3 : ∀ q ∈ kC_Rr_gather_3, decode prog_11_method_22_code q.1 = .ok (q.2, pm_len q.1 q.2) := by decide +kernel
theorem kD_Rr_gather : ∀ q ∈ kC_Rr_gather, decode prog_11_method_22_code q.1 = .ok (q.2, pm_len q.1 q.2) := List.forall_mem_append.mpr ⟨kD_Rr_gather_0, List.forall_mem_append.mpr ⟨kD_Rr_gather_1, List.forall_mem_append.mpr ⟨kD_Rr_gather_2, kD_Rr_gather_3⟩⟩⟩
set_option maxRecDepth 100000 in
theorem kW_Rr_gather (l : Launch) (D : va_G) (base : Nat) (sa : Nat → Nat) : pm_Met l D kcl base (kZ sa) ⟨"RoutingField$Router", "gather", "(LRoutingField$Port;II)V"⟩ (.code ⟨"RoutingField$Router", "gather", "(LRoutingField$Port;II)V"⟩ prog_11_method_22_code 14 none :: pw_T) 5 109 (kP_Rr_gather base sa) := by
  refine pm_met (by decide) rfl rfl ?_
  intro mc ms p e s m args below meth c hx hb hml hown hnm hts hbs hZ
  have ht : ∀ w ∈ pw_T, w.before args s = true := fun w h => hts w (List.mem_cons_of_mem _ h)
  exact ⟨hx, hb, hown, hbs, pm_look_all kD_Rr_gather, kf_ok (init := false) ht hZ kF_Rr_ok (fun h => by cases h), km_ok ht kM_Rr_ok, kci_ok ht kI_Rr_ok, kli_ok ht kJ_Rr_ok, kar_ok ht hZ kA_Rr_ok,
    pm_look_all (List.forall_mem_cons.mpr ⟨pm_cokV hbs hZ ⟨hx, hb, hml, hown, hts⟩ (kW_Ta_clear l D base sa) (fun mc ms => cwV 0 hts (pw_gV (pw_in 1465 (w := .methodLink "RoutingField$Router" 217 ⟨"RoutingField$Table", "clear", "()V"⟩) (by decide +kernel) rfl) ki_Ta_clear ks_Ta_clear kn_Ta ko_Ta_clear) rfl rfl rfl (by decide +kernel) ⟨Nat.le_of_ble_eq_true rfl, Nat.le_of_ble_eq_true rfl⟩) (ci := 10) rfl, List.forall_mem_cons.mpr ⟨pm_cokV hbs hZ ⟨hx, hb, hml, hown, hts⟩ (kW_Po_forgetSummaries l D base sa) (fun mc ms => cwV 0 hts (pw_gV (pw_in 1469 (w := .methodLink "RoutingField$Router" 277 ⟨"RoutingField$Port", "forgetSummaries", "()V"⟩) (by decide +kernel) rfl) ki_Po_forgetSummaries ks_Po_forgetSummaries kn_Po ko_Po_forgetSummaries) rfl rfl rfl (by decide +kernel) ⟨Nat.le_of_ble_eq_true rfl, Nat.le_of_ble_eq_true rfl⟩) (ci := 4) rfl, List.forall_mem_cons.mpr ⟨pm_cokV hbs hZ ⟨hx, hb, hml, hown, hts⟩ (kW_Rr_toldMetric l D base sa) (fun mc ms => cwV 2 hts (pw_gV (pw_in 1473 (w := .methodLink "RoutingField$Router" 280 ⟨"RoutingField$Router", "toldMetric", "(LRoutingField$Route;LRoutingField$Port;)I"⟩) (by decide +kernel) rfl) ki_Rr_toldMetric ks_Rr_toldMetric kn_Rr ko_Rr_toldMetric) rfl rfl rfl (by decide +kernel) ⟨Nat.le_of_ble_eq_true rfl, Nat.le_of_ble_eq_true rfl⟩) (ci := 9) rfl, List.forall_mem_cons.mpr ⟨pm_cokV hbs hZ ⟨hx, hb, hml, hown, hts⟩ (kW_Rr_toldTag l D base sa) (fun mc ms => cwV 1 hts (pw_gV (pw_in 1496 (w := .methodLink "RoutingField$Router" 284 ⟨"RoutingField$Router", "toldTag", "(LRoutingField$Route;)I"⟩) (by decide +kernel) rfl) ki_Rr_toldTag ks_Rr_toldTag kn_Rr ko_Rr_toldTag) rfl rfl rfl (by decide +kernel) ⟨Nat.le_of_ble_eq_true rfl, Nat.le_of_ble_eq_true rfl⟩) (ci := 9) rfl, List.forall_mem_cons.mpr ⟨pm_cokV hbs hZ ⟨hx, hb, hml, hown, hts⟩ (kW_Po_summaryOf l D base sa) (fun mc ms => cwV 1 hts (pw_gV (pw_in 1501 (w := .methodLink "RoutingField$Router" 288 ⟨"RoutingField$Port", "summaryOf", "(LRoutingField$Prefix;)I"⟩) (by decide +kernel) rfl) ki_Po_summaryOf ks_Po_summaryOf kn_Po ko_Po_summaryOf) rfl rfl rfl (by decide +kernel) ⟨Nat.le_of_ble_eq_true rfl, Nat.le_of_ble_eq_true rfl⟩) (ci := 4) rfl, List.forall_mem_cons.mpr ⟨pm_cokMn hx hb hml hown (ht _ (pw_in 1495 (w := .methodLink "RoutingField$Router" 229 ⟨"java/lang/Math", "min", "(II)I"⟩) (by decide +kernel) rfl)) (ht _ (pw_in 1160 (by decide +kernel) rfl)) (ht _ (pw_in 14 (by decide +kernel) rfl)) (ht _ (pw_in 1161 rfl rfl)) (Nat.le_of_ble_eq_true rfl) (Nat.le_of_ble_eq_true rfl), List.forall_mem_cons.mpr ⟨pm_cokV hbs hZ ⟨hx, hb, hml, hown, hts⟩ (kW_Ta_add l D base sa) (fun mc ms => cwV 3 hts (pw_gV (pw_in 1029 (w := .methodLink "RoutingField$Router" 157 ⟨"RoutingField$Table", "add", "(LRoutingField$Prefix;II)LRoutingField$Route;"⟩) (by decide +kernel) rfl) ki_Ta_add ks_Ta_add kn_Ta ko_Ta_add) rfl rfl rfl (by decide +kernel) ⟨Nat.le_of_ble_eq_true rfl, Nat.le_of_ble_eq_true rfl⟩) (ci := 10) rfl, List.forall_mem_cons.mpr ⟨pm_cokV hbs hZ ⟨hx, hb, hml, hown, hts⟩ (kW_Rr_gatherSummaries l D base sa) (fun mc ms => cwV 1 hts (pw_gV (pw_in 1506 (w := .methodLink "RoutingField$Router" 302 ⟨"RoutingField$Router", "gatherSummaries", "(LRoutingField$Port;)V"⟩) (by decide +kernel) rfl) ki_Rr_gatherSummaries ks_Rr_gatherSummaries kn_Rr ko_Rr_gatherSummaries) rfl rfl rfl (by decide +kernel) ⟨Nat.le_of_ble_eq_true rfl, Nat.le_of_ble_eq_true rfl⟩) (ci := 9) rfl, List.forall_mem_cons.mpr ⟨pm_cokV hbs hZ ⟨hx, hb, hml, hown, hts⟩ (kW_Pr_setZero l D base sa) (fun mc ms => cwV 2 hts (pw_gV (pw_in 1510 (w := .methodLink "RoutingField$Router" 305 ⟨"RoutingField$Prefix", "setZero", "(II)V"⟩) (by decide +kernel) rfl) ki_Pr_setZero ks_Pr_setZero kn_Pr ko_Pr_setZero) rfl rfl rfl (by decide +kernel) ⟨Nat.le_of_ble_eq_true rfl, Nat.le_of_ble_eq_true rfl⟩) (ci := 5) rfl, fun _ h => absurd h List.not_mem_nil⟩⟩⟩⟩⟩⟩⟩⟩⟩),
    hZ, kst_ok ht hZ (kS_Rr_ok sa), knar_ok ht, ktx_ok (kE_Rr_ok sa)⟩
