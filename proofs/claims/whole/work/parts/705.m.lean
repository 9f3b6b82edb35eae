set_option maxRecDepth 100000 in
theorem ki_Rr_settle : Cond.instanceMethod ⟨"RoutingField$Router", "settle", "(LRoutingField$Prefix;)V"⟩ ∈ pw_T := (pw_in 985 (by decide +kernel) rfl)
set_option maxRecDepth 100000 in
theorem ks_Rr_settle : Cond.selects "RoutingField$Router" ⟨"RoutingField$Router", "settle", "(LRoutingField$Prefix;)V"⟩ ⟨"RoutingField$Router", "settle", "(LRoutingField$Prefix;)V"⟩ ∈ pw_T := (pw_in 986 (by decide +kernel) rfl)
set_option maxRecDepth 100000 in
theorem ko_Rr_settle : Cond.code ⟨"RoutingField$Router", "settle", "(LRoutingField$Prefix;)V"⟩ prog_11_method_9_code 6 none ∈ pw_T := (pw_in 987 rfl rfl)
set_option maxRecDepth 100000 in
theorem kD_Rr_settle_0 : ∀ q ∈ kC_Rr_settle_0, decode prog_11_method_9_code q.1 = .ok (q.2, pm_len q.1 q.2) := by decide +kernel
set_option maxRecDepth 100000 in
theorem kD_Rr_settle_1 : ∀ q ∈ kC_Rr_settle_1, decode prog_11_method_9_code q.1 = .ok (q.2, pm_len q.1 q.2) := by decide +kernel
theorem kD_Rr_settle : ∀ q ∈ kC_Rr_settle, decode prog_11_method_9_code q.1 = .ok (q.2, pm_len q.1 q.2) := List.forall_mem_append.mpr ⟨kD_Rr_settle_0, kD_Rr_settle_1⟩
set_option maxRecDepth 100000 in
theorem kW_Rr_settle (l : Launch) (D : va_G) (base : Nat) (sa : Nat → Nat) : pm_Met l D kcl base (kZ sa) ⟨"RoutingField$Router", "settle", "(LRoutingField$Prefix;)V"⟩ (.code ⟨"RoutingField$Router", "settle", "(LRoutingField$Prefix;)V"⟩ prog_11_method_9_code 6 none :: pw_T) 4 86 (kP_Rr_settle base sa) := by
  refine pm_met (by decide) rfl rfl ?_
  intro mc ms p e s m args below meth c hx hb hml hown hnm hts hbs hZ
  have ht : ∀ w ∈ pw_T, w.before args s = true := fun w h => hts w (List.mem_cons_of_mem _ h)
  exact ⟨hx, hb, hown, hbs, pm_look_all kD_Rr_settle, kf_ok (init := false) ht hZ kF_Rr_ok (fun h => by cases h), km_ok ht kM_Rr_ok, kci_ok ht kI_Rr_ok, kli_ok ht kJ_Rr_ok, kar_ok ht hZ kA_Rr_ok,
    pm_look_all (List.forall_mem_cons.mpr ⟨pm_cokV hbs hZ ⟨hx, hb, hml, hown, hts⟩ (kW_Rr_portOf l D base sa) (fun mc ms => cwV 1 hts (pw_gV (pw_in 988 (w := .methodLink "RoutingField$Router" 146 ⟨"RoutingField$Router", "portOf", "(LRoutingField$Prefix;)LRoutingField$Port;"⟩) (by decide +kernel) rfl) ki_Rr_portOf ks_Rr_portOf kn_Rr ko_Rr_portOf) rfl rfl rfl (by decide +kernel) ⟨Nat.le_of_ble_eq_true rfl, Nat.le_of_ble_eq_true rfl⟩) (ci := 9) rfl, List.forall_mem_cons.mpr ⟨pm_cokV hbs hZ ⟨hx, hb, hml, hown, hts⟩ (kW_Ta_find l D base sa) (fun mc ms => cwV 1 hts (pw_gV (pw_in 1000 (w := .methodLink "RoutingField$Router" 150 ⟨"RoutingField$Table", "find", "(LRoutingField$Prefix;)LRoutingField$Route;"⟩) (by decide +kernel) rfl) ki_Ta_find ks_Ta_find kn_Ta ko_Ta_find) rfl rfl rfl (by decide +kernel) ⟨Nat.le_of_ble_eq_true rfl, Nat.le_of_ble_eq_true rfl⟩) (ci := 10) rfl, List.forall_mem_cons.mpr ⟨pm_cokV hbs hZ ⟨hx, hb, hml, hown, hts⟩ (kW_Rr_lapse l D base sa) (fun mc ms => cwV 1 hts (pw_gV (pw_in 1013 (w := .methodLink "RoutingField$Router" 154 ⟨"RoutingField$Router", "lapse", "(LRoutingField$Route;)V"⟩) (by decide +kernel) rfl) ki_Rr_lapse ks_Rr_lapse kn_Rr ko_Rr_lapse) rfl rfl rfl (by decide +kernel) ⟨Nat.le_of_ble_eq_true rfl, Nat.le_of_ble_eq_true rfl⟩) (ci := 9) rfl, List.forall_mem_cons.mpr ⟨pm_cokV hbs hZ ⟨hx, hb, hml, hown, hts⟩ (kW_Ta_add l D base sa) (fun mc ms => cwV 3 hts (pw_gV (pw_in 1029 (w := .methodLink "RoutingField$Router" 157 ⟨"RoutingField$Table", "add", "(LRoutingField$Prefix;II)LRoutingField$Route;"⟩) (by decide +kernel) rfl) ki_Ta_add ks_Ta_add kn_Ta ko_Ta_add) rfl rfl rfl (by decide +kernel) ⟨Nat.le_of_ble_eq_true rfl, Nat.le_of_ble_eq_true rfl⟩) (ci := 10) rfl, List.forall_mem_cons.mpr ⟨pm_cokV hbs hZ ⟨hx, hb, hml, hown, hts⟩ (kW_Ro_becomeOwn l D base sa) (fun mc ms => cwV 4 hts (pw_gV (pw_in 1103 (w := .methodLink "RoutingField$Router" 164 ⟨"RoutingField$Route", "becomeOwn", "(IIILRoutingField$Port;)Z"⟩) (by decide +kernel) rfl) ki_Ro_becomeOwn ks_Ro_becomeOwn kn_Ro ko_Ro_becomeOwn) rfl rfl rfl (by decide +kernel) ⟨Nat.le_of_ble_eq_true rfl, Nat.le_of_ble_eq_true rfl⟩) (ci := 8) rfl, List.forall_mem_cons.mpr ⟨pm_cokV hbs hZ ⟨hx, hb, hml, hown, hts⟩ (kW_Rr_markChanged l D base sa) (fun mc ms => cwV 1 hts (pw_gV (pw_in 1025 (w := .methodLink "RoutingField$Router" 124 ⟨"RoutingField$Router", "markChanged", "(LRoutingField$Route;)V"⟩) (by decide +kernel) rfl) ki_Rr_markChanged ks_Rr_markChanged kn_Rr ko_Rr_markChanged) rfl rfl rfl (by decide +kernel) ⟨Nat.le_of_ble_eq_true rfl, Nat.le_of_ble_eq_true rfl⟩) (ci := 9) rfl, fun _ h => absurd h List.not_mem_nil⟩⟩⟩⟩⟩⟩),
    hZ, kst_ok ht hZ (kS_Rr_ok sa), knar_ok ht, ktx_ok (kE_Rr_ok sa)⟩
set_option maxRecDepth 100000 in
theorem ki_Rr_settlePort : Cond.instanceMethod ⟨"RoutingField$Router", "settlePort", "(LRoutingField$Port;)V"⟩ ∈ pw_T := (pw_in 975 (by decide +kernel) rfl)
set_option maxRecDepth 100000 in
theorem ks_Rr_settlePort : Cond.selects "RoutingField$Router" ⟨"RoutingField$Router", "settlePort", "(LRoutingField$Port;)V"⟩ ⟨"RoutingField$Router", "settlePort", "(LRoutingField$Port;)V"⟩ ∈ pw_T := (pw_in 976 (by decide +kernel) rfl)
set_option maxRecDepth 100000 in
theorem ko_Rr_settlePort : Cond.code ⟨"RoutingField$Router", "settlePort", "(LRoutingField$Port;)V"⟩ prog_11_method_11_code 4 none ∈ pw_T := (pw_in 977 rfl rfl)
set_option maxRecDepth 100000 in
theorem kD_Rr_settlePort : ∀ q ∈ kC_Rr_settlePort, decode prog_11_method_11_code q.1 = .ok (q.2, pm_len q.1 q.2) := by decide +kernel
set_option maxRecDepth 100000 in
theorem kW_Rr_settlePort (l : Launch) (D : va_G) (base : Nat) (sa : Nat → Nat) : pm_Met l D kcl base (kZ sa) ⟨"RoutingField$Router", "settlePort", "(LRoutingField$Port;)V"⟩ (.code ⟨"RoutingField$Router", "settlePort", "(LRoutingField$Port;)V"⟩ prog_11_method_11_code 4 none :: pw_T) 5 111 (kP_Rr_settlePort base sa) := by
  refine pm_met (by decide) rfl rfl ?_
  intro mc ms p e s m args below meth c hx hb hml hown hnm hts hbs hZ
  have ht : ∀ w ∈ pw_T, w.before args s = true := fun w h => hts w (List.mem_cons_of_mem _ h)
  exact ⟨hx, hb, hown, hbs, pm_look_all kD_Rr_settlePort, kf_ok (init := false) ht hZ kF_Rr_ok (fun h => by cases h), km_ok ht kM_Rr_ok, kci_ok ht kI_Rr_ok, kli_ok ht kJ_Rr_ok, kar_ok ht hZ kA_Rr_ok,
    pm_look_all (List.forall_mem_cons.mpr ⟨pm_cokV hbs hZ ⟨hx, hb, hml, hown, hts⟩ (kW_Po_addressOf l D base sa) (fun mc ms => cwV 1 hts (pw_gV (pw_in 978 (w := .methodLink "RoutingField$Router" 133 ⟨"RoutingField$Port", "addressOf", "(I)LRoutingField$Prefix;"⟩) (by decide +kernel) rfl) ki_Po_addressOf ks_Po_addressOf kn_Po ko_Po_addressOf) rfl rfl rfl (by decide +kernel) ⟨Nat.le_of_ble_eq_true rfl, Nat.le_of_ble_eq_true rfl⟩) (ci := 4) rfl, List.forall_mem_cons.mpr ⟨pm_cokV hbs hZ ⟨hx, hb, hml, hown, hts⟩ (kW_Pr_copy l D base sa) (fun mc ms => cwV 1 hts (pw_gV (pw_in 979 (w := .methodLink "RoutingField$Router" 185 ⟨"RoutingField$Prefix", "copy", "(LRoutingField$Prefix;)V"⟩) (by decide +kernel) rfl) ki_Pr_copy ks_Pr_copy kn_Pr ko_Pr_copy) rfl rfl rfl (by decide +kernel) ⟨Nat.le_of_ble_eq_true rfl, Nat.le_of_ble_eq_true rfl⟩) (ci := 5) rfl, List.forall_mem_cons.mpr ⟨pm_cokV hbs hZ ⟨hx, hb, hml, hown, hts⟩ (kW_Pr_dropBitsBehind l D base sa) (fun mc ms => cwV 0 hts (pw_gV (pw_in 980 (w := .methodLink "RoutingField$Router" 189 ⟨"RoutingField$Prefix", "dropBitsBehind", "()V"⟩) (by decide +kernel) rfl) ki_Pr_dropBitsBehind ks_Pr_dropBitsBehind kn_Pr ko_Pr_dropBitsBehind) rfl rfl rfl (by decide +kernel) ⟨Nat.le_of_ble_eq_true rfl, Nat.le_of_ble_eq_true rfl⟩) (ci := 5) rfl, List.forall_mem_cons.mpr ⟨pm_cokV hbs hZ ⟨hx, hb, hml, hown, hts⟩ (kW_Rr_settle l D base sa) (fun mc ms => cwV 1 hts (pw_gV (pw_in 984 (w := .methodLink "RoutingField$Router" 192 ⟨"RoutingField$Router", "settle", "(LRoutingField$Prefix;)V"⟩) (by decide +kernel) rfl) ki_Rr_settle ks_Rr_settle kn_Rr ko_Rr_settle) rfl rfl rfl (by decide +kernel) ⟨Nat.le_of_ble_eq_true rfl, Nat.le_of_ble_eq_true rfl⟩) (ci := 9) rfl, fun _ h => absurd h List.not_mem_nil⟩⟩⟩⟩),
    hZ, kst_ok ht hZ (kS_Rr_ok sa), knar_ok ht, ktx_ok (kE_Rr_ok sa)⟩
set_option maxRecDepth 100000 in
theorem ki_Ch_bearer : Cond.instanceMethod ⟨"RoutingField$Chain", "bearer", "(I)I"⟩ ∈ pw_T := (pw_in 1120 (by decide +kernel) rfl)
set_option maxRecDepth 100000 in
theorem ks_Ch_bearer : Cond.selects "RoutingField$Chain" ⟨"RoutingField$Chain", "bearer", "(I)I"⟩ ⟨"RoutingField$Chain", "bearer", "(I)I"⟩ ∈ pw_T := (pw_in 1121 (by decide +kernel) rfl)
set_option maxRecDepth 100000 in
theorem ko_Ch_bearer : Cond.code ⟨"RoutingField$Chain", "bearer", "(I)I"⟩ prog_3_method_7_code 5 (some .int) ∈ pw_T := (pw_in 1122 rfl rfl)
set_option maxRecDepth 100000 in
theorem kD_Ch_bearer_0 : ∀ q ∈ kC_Ch_bearer_0, decode prog_3_method_7_code q.1 = .ok (q.2, pm_len q.1 q.2) := by decide +kernel
set_option maxRecDepth 100000 in
theorem kD_Ch_bearer_1 : ∀ q ∈ kC_Ch_bearer_1, decode prog_3_method_7_code q.1 = .ok (q.2, pm_len q.1 q.2) := by decide +kernel
theorem kD_Ch_bearer : ∀ q ∈ kC_Ch_bearer, decode prog_3_method_7_code q.1 = .ok (q.2, pm_len q.1 q.2) := List.forall_mem_append.mpr ⟨kD_Ch_bearer_0, kD_Ch_bearer_1⟩
set_option maxRecDepth 100000 in
theorem kW_Ch_bearer (l : Launch) (D : va_G) (base : Nat) (sa : Nat → Nat) : pm_Met l D kcl base (kZ sa) ⟨"RoutingField$Chain", "bearer", "(I)I"⟩ (.code ⟨"RoutingField$Chain", "bearer", "(I)I"⟩ prog_3_method_7_code 5 (some .int) :: pw_T) 0 0 (kP_Ch_bearer base sa) := by
  refine pm_met (by decide) rfl rfl ?_
  intro mc ms p e s m args below meth c hx hb hml hown hnm hts hbs hZ
  have ht : ∀ w ∈ pw_T, w.before args s = true := fun w h => hts w (List.mem_cons_of_mem _ h)
  exact ⟨hx, hb, hown, hbs, pm_look_all kD_Ch_bearer, kf_ok (init := false) ht hZ kF_Ch_ok (fun h => by cases h), km_ok ht kM_Ch_ok, kci_ok ht kI_Ch_ok, kli_ok ht kJ_Ch_ok, kar_ok ht hZ kA_Ch_ok,
    pm_look_all (fun _ h => absurd h List.not_mem_nil),
    hZ, kst_ok ht hZ (kS_Ch_ok sa), knar_ok ht, ktx_ok (kE_Ch_ok sa)⟩
set_option maxRecDepth 100000 in
theorem ki_By_clear : Cond.instanceMethod ⟨"RoutingField$Bytes", "clear", "()V"⟩ ∈ pw_T := (pw_in 1124 (by decide +kernel) rfl)
set_option maxRecDepth 100000 in
theorem ks_By_clear : Cond.selects "RoutingField$Bytes" ⟨"RoutingField$Bytes", "clear", "()V"⟩ ⟨"RoutingField$Bytes", "clear", "()V"⟩ ∈ pw_T := (pw_in 1125 (by decide +kernel) rfl)
set_option maxRecDepth 100000 in
theorem ko_By_clear : Cond.code ⟨"RoutingField$Bytes", "clear", "()V"⟩ prog_2_method_2_code 1 none ∈ pw_T := (pw_in 1126 rfl rfl)
set_option maxRecDepth 100000 in
theorem kD_By_clear : ∀ q ∈ kC_By_clear, decode prog_2_method_2_code q.1 = .ok (q.2, pm_len q.1 q.2) := by decide +kernel
set_option maxRecDepth 100000 in
theorem kW_By_clear (l : Launch) (D : va_G) (base : Nat) (sa : Nat → Nat) : pm_Met l D kcl base (kZ sa) ⟨"RoutingField$Bytes", "clear", "()V"⟩ (.code ⟨"RoutingField$Bytes", "clear", "()V"⟩ prog_2_method_2_code 1 none :: pw_T) 0 0 (kP_By_clear base sa) := by
  refine pm_met (by decide) rfl rfl ?_
  intro mc ms p e s m args below meth c hx hb hml hown hnm hts hbs hZ
  have ht : ∀ w ∈ pw_T, w.before args s = true := fun w h => hts w (List.mem_cons_of_mem _ h)
  exact ⟨hx, hb, hown, hbs, pm_look_all kD_By_clear, kf_ok (init := false) ht hZ kF_By_ok (fun h => by cases h), km_ok ht kM_By_ok, kci_ok ht kI_By_ok, kli_ok ht kJ_By_ok, kar_ok ht hZ kA_By_ok,
    pm_look_all (fun _ h => absurd h List.not_mem_nil),
    hZ, kst_ok ht hZ (kS_By_ok sa), knar_ok ht, ktx_ok (kE_By_ok sa)⟩
set_option maxRecDepth 100000 in
theorem ki_By_addZeros : Cond.instanceMethod ⟨"RoutingField$Bytes", "addZeros", "(I)V"⟩ ∈ pw_T := (pw_in 1129 (by decide +kernel) rfl)
set_option maxRecDepth 100000 in
theorem ks_By_addZeros : Cond.selects "RoutingField$Bytes" ⟨"RoutingField$Bytes", "addZeros", "(I)V"⟩ ⟨"RoutingField$Bytes", "addZeros", "(I)V"⟩ ∈ pw_T := (pw_in 1130 (by decide +kernel) rfl)
set_option maxRecDepth 100000 in
theorem ko_By_addZeros : Cond.code ⟨"RoutingField$Bytes", "addZeros", "(I)V"⟩ prog_2_method_9_code 3 none ∈ pw_T := (pw_in 1131 rfl rfl)
set_option maxRecDepth 100000 in
theorem kD_By_addZeros : ∀ q ∈ kC_By_addZeros, decode prog_2_method_9_code q.1 = .ok (q.2, pm_len q.1 q.2) := by decide +kernel
set_option maxRecDepth 100000 in
theorem kW_By_addZeros (l : Launch) (D : va_G) (base : Nat) (sa : Nat → Nat) : pm_Met l D kcl base (kZ sa) ⟨"RoutingField$Bytes", "addZeros", "(I)V"⟩ (.code ⟨"RoutingField$Bytes", "addZeros", "(I)V"⟩ prog_2_method_9_code 3 none :: pw_T) 1 23 (kP_By_addZeros base sa) := by
  refine pm_met (by decide) rfl rfl ?_
  intro mc ms p e s m args below meth c hx hb hml hown hnm hts hbs hZ
  have ht : ∀ w ∈ pw_T, w.before args s = true := fun w h => hts w (List.mem_cons_of_mem _ h)
  exact ⟨hx, hb, hown, hbs, pm_look_all kD_By_addZeros, kf_ok (init := false) ht hZ kF_By_ok (fun h => by cases h), km_ok ht kM_By_ok, kci_ok ht kI_By_ok, kli_ok ht kJ_By_ok, kar_ok ht hZ kA_By_ok,
    pm_look_all (List.forall_mem_cons.mpr ⟨pm_cokV hbs hZ ⟨hx, hb, hml, hown, hts⟩ (kW_By_add l D base sa) (fun mc ms => cwV 1 hts (pw_gV (pw_in 269 (w := .methodLink "RoutingField$Bytes" 23 ⟨"RoutingField$Bytes", "add", "(I)V"⟩) (by decide +kernel) rfl) ki_By_add ks_By_add kn_By ko_By_add) rfl rfl rfl (by decide +kernel) ⟨Nat.le_of_ble_eq_true rfl, Nat.le_of_ble_eq_true rfl⟩) (ci := 0) rfl, fun _ h => absurd h List.not_mem_nil⟩),
    hZ, kst_ok ht hZ (kS_By_ok sa), knar_ok ht, ktx_ok (kE_By_ok sa)⟩
set_option maxRecDepth 100000 in
theorem ki_Ch_addPasswordEntry : Cond.instanceMethod ⟨"RoutingField$Chain", "addPasswordEntry", "(LRoutingField$Bytes;)V"⟩ ∈ pw_T := (pw_in 1133 (by decide +kernel) rfl)
set_option maxRecDepth 100000 in
theorem ks_Ch_addPasswordEntry : Cond.selects "RoutingField$Chain" ⟨"RoutingField$Chain", "addPasswordEntry", "(LRoutingField$Bytes;)V"⟩ ⟨"RoutingField$Chain", "addPasswordEntry", "(LRoutingField$Bytes;)V"⟩ ∈ pw_T := (pw_in 1134 (by decide +kernel) rfl)
set_option maxRecDepth 100000 in
theorem ko_Ch_addPasswordEntry : Cond.code ⟨"RoutingField$Chain", "addPasswordEntry", "(LRoutingField$Bytes;)V"⟩ prog_3_method_10_code 3 none ∈ pw_T := (pw_in 1135 rfl rfl)
set_option maxRecDepth 100000 in
theorem kD_Ch_addPasswordEntry : ∀ q ∈ kC_Ch_addPasswordEntry, decode prog_3_method_10_code q.1 = .ok (q.2, pm_len q.1 q.2) := by decide +kernel
set_option maxRecDepth 100000 in
theorem kW_Ch_addPasswordEntry (l : Launch) (D : va_G) (base : Nat) (sa : Nat → Nat) : pm_Met l D kcl base (kZ sa) ⟨"RoutingField$Chain", "addPasswordEntry", "(LRoutingField$Bytes;)V"⟩ (.code ⟨"RoutingField$Chain", "addPasswordEntry", "(LRoutingField$Bytes;)V"⟩ prog_3_method_10_code 3 none :: pw_T) 2 47 (kP_Ch_addPasswordEntry base sa) := by
  refine pm_met (by decide) rfl rfl ?_
  intro mc ms p e s m args below meth c hx hb hml hown hnm hts hbs hZ
  have ht : ∀ w ∈ pw_T, w.before args s = true := fun w h => hts w (List.mem_cons_of_mem _ h)
  exact ⟨hx, hb, hown, hbs, pm_look_all kD_Ch_addPasswordEntry, kf_ok (init := false) ht hZ kF_Ch_ok (fun h => by cases h), km_ok ht kM_Ch_ok, kci_ok ht kI_Ch_ok, kli_ok ht kJ_Ch_ok, kar_ok ht hZ kA_Ch_ok,
    pm_look_all (List.forall_mem_cons.mpr ⟨pm_cokV hbs hZ ⟨hx, hb, hml, hown, hts⟩ (kW_By_addNumber l D base sa) (fun mc ms => cwV 2 hts (pw_gV (pw_in 1137 (w := .methodLink "RoutingField$Chain" 75 ⟨"RoutingField$Bytes", "addNumber", "(JI)V"⟩) (by decide +kernel) rfl) ki_By_addNumber ks_By_addNumber kn_By ko_By_addNumber) rfl rfl rfl (by decide +kernel) ⟨Nat.le_of_ble_eq_true rfl, Nat.le_of_ble_eq_true rfl⟩) (ci := 0) rfl, List.forall_mem_cons.mpr ⟨pm_cokV hbs hZ ⟨hx, hb, hml, hown, hts⟩ (kW_By_add l D base sa) (fun mc ms => cwV 1 hts (pw_gV (pw_in 1139 (w := .methodLink "RoutingField$Chain" 83 ⟨"RoutingField$Bytes", "add", "(I)V"⟩) (by decide +kernel) rfl) ki_By_add ks_By_add kn_By ko_By_add) rfl rfl rfl (by decide +kernel) ⟨Nat.le_of_ble_eq_true rfl, Nat.le_of_ble_eq_true rfl⟩) (ci := 0) rfl, fun _ h => absurd h List.not_mem_nil⟩⟩),
    hZ, kst_ok ht hZ (kS_Ch_ok sa), knar_ok ht, ktx_ok (kE_Ch_ok sa)⟩
set_option maxRecDepth 100000 in
theorem ki_Ch_addKeyEntry : Cond.instanceMethod ⟨"RoutingField$Chain", "addKeyEntry", "(LRoutingField$Bytes;II)V"⟩ ∈ pw_T := (pw_in 1141 (by decide +kernel) rfl)
set_option maxRecDepth 100000 in
theorem ks_Ch_addKeyEntry : Cond.selects "RoutingField$Chain" ⟨"RoutingField$Chain", "addKeyEntry", "(LRoutingField$Bytes;II)V"⟩ ⟨"RoutingField$Chain", "addKeyEntry", "(LRoutingField$Bytes;II)V"⟩ ∈ pw_T := (pw_in 1142 (by decide +kernel) rfl)
set_option maxRecDepth 100000 in
theorem ko_Ch_addKeyEntry : Cond.code ⟨"RoutingField$Chain", "addKeyEntry", "(LRoutingField$Bytes;II)V"⟩ prog_3_method_12_code 4 none ∈ pw_T := (pw_in 1143 rfl rfl)
set_option maxRecDepth 100000 in
theorem kD_Ch_addKeyEntry : ∀ q ∈ kC_Ch_addKeyEntry, decode prog_3_method_12_code q.1 = .ok (q.2, pm_len q.1 q.2) := by decide +kernel
set_option maxRecDepth 100000 in
theorem kW_Ch_addKeyEntry (l : Launch) (D : va_G) (base : Nat) (sa : Nat → Nat) : pm_Met l D kcl base (kZ sa) ⟨"RoutingField$Chain", "addKeyEntry", "(LRoutingField$Bytes;II)V"⟩ (.code ⟨"RoutingField$Chain", "addKeyEntry", "(LRoutingField$Bytes;II)V"⟩ prog_3_method_12_code 4 none :: pw_T) 2 47 (kP_Ch_addKeyEntry base sa) := by
  refine pm_met (by decide) rfl rfl ?_
  intro mc ms p e s m args below meth c hx hb hml hown hnm hts hbs hZ
  have ht : ∀ w ∈ pw_T, w.before args s = true := fun w h => hts w (List.mem_cons_of_mem _ h)
  exact ⟨hx, hb, hown, hbs, pm_look_all kD_Ch_addKeyEntry, kf_ok (init := false) ht hZ kF_Ch_ok (fun h => by cases h), km_ok ht kM_Ch_ok, kci_ok ht kI_Ch_ok, kli_ok ht kJ_Ch_ok, kar_ok ht hZ kA_Ch_ok,
    pm_look_all (List.forall_mem_cons.mpr ⟨pm_cokV hbs hZ ⟨hx, hb, hml, hown, hts⟩ (kW_By_addNumber l D base sa) (fun mc ms => cwV 2 hts (pw_gV (pw_in 1137 (w := .methodLink "RoutingField$Chain" 75 ⟨"RoutingField$Bytes", "addNumber", "(JI)V"⟩) (by decide +kernel) rfl) ki_By_addNumber ks_By_addNumber kn_By ko_By_addNumber) rfl rfl rfl (by decide +kernel) ⟨Nat.le_of_ble_eq_true rfl, Nat.le_of_ble_eq_true rfl⟩) (ci := 0) rfl, List.forall_mem_cons.mpr ⟨pm_cokV hbs hZ ⟨hx, hb, hml, hown, hts⟩ (kW_By_add l D base sa) (fun mc ms => cwV 1 hts (pw_gV (pw_in 1139 (w := .methodLink "RoutingField$Chain" 83 ⟨"RoutingField$Bytes", "add", "(I)V"⟩) (by decide +kernel) rfl) ki_By_add ks_By_add kn_By ko_By_add) rfl rfl rfl (by decide +kernel) ⟨Nat.le_of_ble_eq_true rfl, Nat.le_of_ble_eq_true rfl⟩) (ci := 0) rfl, List.forall_mem_cons.mpr ⟨pm_cokV hbs hZ ⟨hx, hb, hml, hown, hts⟩ (kW_By_addZeros l D base sa) (fun mc ms => cwV 1 hts (pw_gV (pw_in 1145 (w := .methodLink "RoutingField$Chain" 99 ⟨"RoutingField$Bytes", "addZeros", "(I)V"⟩) (by decide +kernel) rfl) ki_By_addZeros ks_By_addZeros kn_By ko_By_addZeros) rfl rfl rfl (by decide +kernel) ⟨Nat.le_of_ble_eq_true rfl, Nat.le_of_ble_eq_true rfl⟩) (ci := 0) rfl, fun _ h => absurd h List.not_mem_nil⟩⟩⟩),
    hZ, kst_ok ht hZ (kS_Ch_ok sa), knar_ok ht, ktx_ok (kE_Ch_ok sa)⟩
set_option maxRecDepth 100000 in
theorem ki_Rr_openDraft : Cond.instanceMethod ⟨"RoutingField$Router", "openDraft", "(LRoutingField$Port;II)I"⟩ ∈ pw_T := (pw_in 1117 (by decide +kernel) rfl)
set_option maxRecDepth 100000 in
theorem ks_Rr_openDraft : Cond.selects "RoutingField$Router" ⟨"RoutingField$Router", "openDraft", "(LRoutingField$Port;II)I"⟩ ⟨"RoutingField$Router", "openDraft", "(LRoutingField$Port;II)I"⟩ ∈ pw_T := (pw_sel 30 (q := (⟨"RoutingField$Router", "openDraft", "(LRoutingField$Port;II)I"⟩, 20)) (by decide +kernel))
set_option maxRecDepth 100000 in
theorem ko_Rr_openDraft : Cond.code ⟨"RoutingField$Router", "openDraft", "(LRoutingField$Port;II)I"⟩ prog_11_method_26_code 6 (some .int) ∈ pw_T := (pw_in 1118 rfl rfl)
set_option maxRecDepth 100000 in
theorem kD_Rr_openDraft_0 : ∀ q ∈ kC_Rr_openDraft_0, decode prog_11_method_26_code q.1 = .ok (q.2, pm_len q.1 q.2) := by decide +kernel
set_option maxRecDepth 100000 in
theorem kD_Rr_openDraft_1 : ∀ q ∈ kC_Rr_openDraft_1, decode prog_11_method_26_code q.1 = .ok (q.2, pm_len q.1 q.2) := by decide +kernel
theorem kD_Rr_openDraft : ∀ q ∈ kC_Rr_openDraft, decode prog_11_method_26_code q.1 = .ok (q.2, pm_len q.1 q.2) := List.forall_mem_append.mpr ⟨kD_Rr_openDraft_0, kD_Rr_openDraft_1⟩
set_option maxRecDepth 100000 in
theorem kW_Rr_openDraft (l : Launch) (D : va_G) (base : Nat) (sa : Nat → Nat) : pm_Met l D kcl base (kZ sa) ⟨"RoutingField$Router", "openDraft", "(LRoutingField$Port;II)I"⟩ (.code ⟨"RoutingField$Router", "openDraft", "(LRoutingField$Port;II)I"⟩ prog_11_method_26_code 6 (some .int) :: pw_T) 3 70 (kP_Rr_openDraft base sa) := by
  refine pm_met (by decide) rfl rfl ?_
  intro mc ms p e s m args below meth c hx hb hml hown hnm hts hbs hZ
  have ht : ∀ w ∈ pw_T, w.before args s = true := fun w h => hts w (List.mem_cons_of_mem _ h)
  exact ⟨hx, hb, hown, hbs, pm_look_all kD_Rr_openDraft, kf_ok (init := false) ht hZ kF_Rr_ok (fun h => by cases h), km_ok ht kM_Rr_ok, kci_ok ht kI_Rr_ok, kli_ok ht kJ_Rr_ok, kar_ok ht hZ kA_Rr_ok,
    pm_look_all (List.forall_mem_cons.mpr ⟨pm_cokV hbs hZ ⟨hx, hb, hml, hown, hts⟩ (kW_Po_addressOf l D base sa) (fun mc ms => cwV 1 hts (pw_gV (pw_in 978 (w := .methodLink "RoutingField$Router" 133 ⟨"RoutingField$Port", "addressOf", "(I)LRoutingField$Prefix;"⟩) (by decide +kernel) rfl) ki_Po_addressOf ks_Po_addressOf kn_Po ko_Po_addressOf) rfl rfl rfl (by decide +kernel) ⟨Nat.le_of_ble_eq_true rfl, Nat.le_of_ble_eq_true rfl⟩) (ci := 4) rfl, List.forall_mem_cons.mpr ⟨pm_cokV hbs hZ ⟨hx, hb, hml, hown, hts⟩ (kW_Ch_bearer l D base sa) (fun mc ms => cwV 1 hts (pw_gV (pw_in 1119 (w := .methodLink "RoutingField$Router" 336 ⟨"RoutingField$Chain", "bearer", "(I)I"⟩) (by decide +kernel) rfl) ki_Ch_bearer ks_Ch_bearer kn_Ch ko_Ch_bearer) rfl rfl rfl (by decide +kernel) ⟨Nat.le_of_ble_eq_true rfl, Nat.le_of_ble_eq_true rfl⟩) (ci := 1) rfl, List.forall_mem_cons.mpr ⟨pm_cokV hbs hZ ⟨hx, hb, hml, hown, hts⟩ (kW_By_clear l D base sa) (fun mc ms => cwV 0 hts (pw_gV (pw_in 1123 (w := .methodLink "RoutingField$Router" 351 ⟨"RoutingField$Bytes", "clear", "()V"⟩) (by decide +kernel) rfl) ki_By_clear ks_By_clear kn_By ko_By_clear) rfl rfl rfl (by decide +kernel) ⟨Nat.le_of_ble_eq_true rfl, Nat.le_of_ble_eq_true rfl⟩) (ci := 0) rfl, List.forall_mem_cons.mpr ⟨pm_cokV hbs hZ ⟨hx, hb, hml, hown, hts⟩ (kW_By_add l D base sa) (fun mc ms => cwV 1 hts (pw_gV (pw_in 1127 (w := .methodLink "RoutingField$Router" 354 ⟨"RoutingField$Bytes", "add", "(I)V"⟩) (by decide +kernel) rfl) ki_By_add ks_By_add kn_By ko_By_add) rfl rfl rfl (by decide +kernel) ⟨Nat.le_of_ble_eq_true rfl, Nat.le_of_ble_eq_true rfl⟩) (ci := 0) rfl, List.forall_mem_cons.mpr ⟨pm_cokV hbs hZ ⟨hx, hb, hml, hown, hts⟩ (kW_By_addZeros l D base sa) (fun mc ms => cwV 1 hts (pw_gV (pw_in 1128 (w := .methodLink "RoutingField$Router" 356 ⟨"RoutingField$Bytes", "addZeros", "(I)V"⟩) (by decide +kernel) rfl) ki_By_addZeros ks_By_addZeros kn_By ko_By_addZeros) rfl rfl rfl (by decide +kernel) ⟨Nat.le_of_ble_eq_true rfl, Nat.le_of_ble_eq_true rfl⟩) (ci := 0) rfl, List.forall_mem_cons.mpr ⟨pm_cokV hbs hZ ⟨hx, hb, hml, hown, hts⟩ (kW_Ch_addPasswordEntry l D base sa) (fun mc ms => cwV 1 hts (pw_gV (pw_in 1132 (w := .methodLink "RoutingField$Router" 362 ⟨"RoutingField$Chain", "addPasswordEntry", "(LRoutingField$Bytes;)V"⟩) (by decide +kernel) rfl) ki_Ch_addPasswordEntry ks_Ch_addPasswordEntry kn_Ch ko_Ch_addPasswordEntry) rfl rfl rfl (by decide +kernel) ⟨Nat.le_of_ble_eq_true rfl, Nat.le_of_ble_eq_true rfl⟩) (ci := 1) rfl, List.forall_mem_cons.mpr ⟨pm_cokV hbs hZ ⟨hx, hb, hml, hown, hts⟩ (kW_Ch_addKeyEntry l D base sa) (fun mc ms => cwV 3 hts (pw_gV (pw_in 1140 (w := .methodLink "RoutingField$Router" 369 ⟨"RoutingField$Chain", "addKeyEntry", "(LRoutingField$Bytes;II)V"⟩) (by decide +kernel) rfl) ki_Ch_addKeyEntry ks_Ch_addKeyEntry kn_Ch ko_Ch_addKeyEntry) rfl rfl rfl (by decide +kernel) ⟨Nat.le_of_ble_eq_true rfl, Nat.le_of_ble_eq_true rfl⟩) (ci := 1) rfl, fun _ h => absurd h List.not_mem_nil⟩⟩⟩⟩⟩⟩⟩),
    hZ, kst_ok ht hZ (kS_Rr_ok sa), knar_ok ht, ktx_ok (kE_Rr_ok sa)⟩
set_option maxRecDepth 100000 in
theorem ki_By_setAt : Cond.instanceMethod ⟨"RoutingField$Bytes", "setAt", "(II)V"⟩ ∈ pw_T := (pw_in 1151 (by decide +kernel) rfl)
set_option maxRecDepth 100000 in
theorem ks_By_setAt : Cond.selects "RoutingField$Bytes" ⟨"RoutingField$Bytes", "setAt", "(II)V"⟩ ⟨"RoutingField$Bytes", "setAt", "(II)V"⟩ ∈ pw_T := (pw_in 1152 (by decide +kernel) rfl)
set_option maxRecDepth 100000 in
theorem ko_By_setAt : Cond.code ⟨"RoutingField$Bytes", "setAt", "(II)V"⟩ prog_2_method_4_code 3 none ∈ pw_T := (pw_in 1153 rfl rfl)
set_option maxRecDepth 100000 in
theorem kD_By_setAt : ∀ q ∈ kC_By_setAt, decode prog_2_method_4_code q.1 = .ok (q.2, pm_len q.1 q.2) := by decide +kernel
set_option maxRecDepth 100000 in
theorem kW_By_setAt (l : Launch) (D : va_G) (base : Nat) (sa : Nat → Nat) : pm_Met l D kcl base (kZ sa) ⟨"RoutingField$Bytes", "setAt", "(II)V"⟩ (.code ⟨"RoutingField$Bytes", "setAt", "(II)V"⟩ prog_2_method_4_code 3 none :: pw_T) 0 0 (kP_By_setAt base sa) := by
  refine pm_met (by decide) rfl rfl ?_
  intro mc ms p e s m args below meth c hx hb hml hown hnm hts hbs hZ
  have ht : ∀ w ∈ pw_T, w.before args s = true := fun w h => hts w (List.mem_cons_of_mem _ h)
  exact ⟨hx, hb, hown, hbs, pm_look_all kD_By_setAt, kf_ok (init := false) ht hZ kF_By_ok (fun h => by cases h), km_ok ht kM_By_ok, kci_ok ht kI_By_ok, kli_ok ht kJ_By_ok, kar_ok ht hZ kA_By_ok,
    pm_look_all (fun _ h => absurd h List.not_mem_nil),
    hZ, kst_ok ht hZ (kS_By_ok sa), knar_ok ht, ktx_ok (kE_By_ok sa)⟩
set_option maxRecDepth 100000 in
theorem ki_Ch_addWork : Cond.instanceMethod ⟨"RoutingField$Chain", "addWork", "([BI)V"⟩ ∈ pw_T := (pw_in 1164 (by decide +kernel) rfl)
set_option maxRecDepth 100000 in
theorem ks_Ch_addWork : Cond.selects "RoutingField$Chain" ⟨"RoutingField$Chain", "addWork", "([BI)V"⟩ ⟨"RoutingField$Chain", "addWork", "([BI)V"⟩ ∈ pw_T := (pw_sel 32 (q := (⟨"RoutingField$Chain", "addWork", "([BI)V"⟩, 12)) (by decide +kernel))
set_option maxRecDepth 100000 in
theorem ko_Ch_addWork : Cond.code ⟨"RoutingField$Chain", "addWork", "([BI)V"⟩ prog_3_method_17_code 3 none ∈ pw_T := (pw_in 1165 rfl rfl)
set_option maxRecDepth 100000 in
theorem kD_Ch_addWork : ∀ q ∈ kC_Ch_addWork, decode prog_3_method_17_code q.1 = .ok (q.2, pm_len q.1 q.2) := by decide +kernel
set_option maxRecDepth 100000 in
theorem kW_Ch_addWork (l : Launch) (D : va_G) (base : Nat) (sa : Nat → Nat) : pm_Met l D kcl base (kZ sa) ⟨"RoutingField$Chain", "addWork", "([BI)V"⟩ (.code ⟨"RoutingField$Chain", "addWork", "([BI)V"⟩ prog_3_method_17_code 3 none :: pw_T) 1 30 (kP_Ch_addWork base sa) := by
  refine pm_met (by decide) rfl rfl ?_
  intro mc ms p e s m args below meth c hx hb hml hown hnm hts hbs hZ
  have ht : ∀ w ∈ pw_T, w.before args s = true := fun w h => hts w (List.mem_cons_of_mem _ h)
  exact ⟨hx, hb, hown, hbs, pm_look_all kD_Ch_addWork, kf_ok (init := false) ht hZ kF_Ch_ok (fun h => by cases h), km_ok ht kM_Ch_ok, kci_ok ht kI_Ch_ok, kli_ok ht kJ_Ch_ok, kar_ok ht hZ kA_Ch_ok,
    pm_look_all (List.forall_mem_cons.mpr ⟨pm_cokA hbs hx hb hml hown (ht _ (pw_in 836 (w := .methodLink "RoutingField$Chain" 58 ⟨"java/lang/System", "arraycopy", "(Ljava/lang/Object;ILjava/lang/Object;II)V"⟩) (by decide +kernel) rfl)) (ht _ (pw_in 838 (by decide +kernel) rfl)) (ht _ (pw_in 837 (by decide +kernel) rfl)) (ht _ (pw_in 17 (by decide +kernel) rfl)) (Nat.le_of_ble_eq_true rfl) (Nat.le_of_ble_eq_true rfl), fun _ h => absurd h List.not_mem_nil⟩),
    hZ, kst_ok ht hZ (kS_Ch_ok sa), knar_ok ht, ktx_ok (kE_Ch_ok sa)⟩
set_option maxRecDepth 100000 in
theorem ki_Ch_addSecret : Cond.instanceMethod ⟨"RoutingField$Chain", "addSecret", "(III)V"⟩ ∈ pw_T := (pw_in 1168 (by decide +kernel) rfl)
set_option maxRecDepth 100000 in
theorem ks_Ch_addSecret : Cond.selects "RoutingField$Chain" ⟨"RoutingField$Chain", "addSecret", "(III)V"⟩ ⟨"RoutingField$Chain", "addSecret", "(III)V"⟩ ∈ pw_T := (pw_sel 33 (q := (⟨"RoutingField$Chain", "addSecret", "(III)V"⟩, 12)) (by decide +kernel))
set_option maxRecDepth 100000 in
theorem ko_Ch_addSecret : Cond.code ⟨"RoutingField$Chain", "addSecret", "(III)V"⟩ prog_3_method_18_code 5 none ∈ pw_T := (pw_in 1169 rfl rfl)
set_option maxRecDepth 100000 in
theorem kD_Ch_addSecret : ∀ q ∈ kC_Ch_addSecret, decode prog_3_method_18_code q.1 = .ok (q.2, pm_len q.1 q.2) := by decide +kernel
set_option maxRecDepth 100000 in
theorem kW_Ch_addSecret (l : Launch) (D : va_G) (base : Nat) (sa : Nat → Nat) : pm_Met l D kcl base (kZ sa) ⟨"RoutingField$Chain", "addSecret", "(III)V"⟩ (.code ⟨"RoutingField$Chain", "addSecret", "(III)V"⟩ prog_3_method_18_code 5 none :: pw_T) 0 0 (kP_Ch_addSecret base sa) := by
  refine pm_met (by decide) rfl rfl ?_
  intro mc ms p e s m args below meth c hx hb hml hown hnm hts hbs hZ
  have ht : ∀ w ∈ pw_T, w.before args s = true := fun w h => hts w (List.mem_cons_of_mem _ h)
  exact ⟨hx, hb, hown, hbs, pm_look_all kD_Ch_addSecret, kf_ok (init := false) ht hZ kF_Ch_ok (fun h => by cases h), km_ok ht kM_Ch_ok, kci_ok ht kI_Ch_ok, kli_ok ht kJ_Ch_ok, kar_ok ht hZ kA_Ch_ok,
    pm_look_all (fun _ h => absurd h List.not_mem_nil),
    hZ, kst_ok ht hZ (kS_Ch_ok sa), knar_ok ht, ktx_ok (kE_Ch_ok sa)⟩
set_option maxRecDepth 100000 in
theorem ki_Ch_fillBlock : Cond.instanceMethod ⟨"RoutingField$Chain", "fillBlock", "(Z)V"⟩ ∈ pw_T := (pw_in 1172 (by decide +kernel) rfl)
set_option maxRecDepth 100000 in
theorem ks_Ch_fillBlock : Cond.selects "RoutingField$Chain" ⟨"RoutingField$Chain", "fillBlock", "(Z)V"⟩ ⟨"RoutingField$Chain", "fillBlock", "(Z)V"⟩ ∈ pw_T := (pw_sel 34 (q := (⟨"RoutingField$Chain", "fillBlock", "(Z)V"⟩, 12)) (by decide +kernel))
set_option maxRecDepth 100000 in
theorem ko_Ch_fillBlock : Cond.code ⟨"RoutingField$Chain", "fillBlock", "(Z)V"⟩ prog_3_method_19_code 5 none ∈ pw_T := (pw_in 1173 rfl rfl)
set_option maxRecDepth 100000 in
theorem kD_Ch_fillBlock_0 : ∀ q ∈ kC_Ch_fillBlock_0, decode prog_3_method_19_code q.1 = .ok (q.2, pm_len q.1 q.2) := by decide +kernel
set_option maxRecDepth 100000 in
theorem kD_Ch_fillBlock_1 : ∀ q ∈ kC_Ch_fillBlock_1, decode prog_3_method_19_code q.1 = .ok (q.2, pm_len q.1 q.2) := by decide +kernel
theorem kD_Ch_fillBlock : ∀ q ∈ kC_Ch_fillBlock, decode prog_3_method_19_code q.1 = .ok (q.2, pm_len q.1 q.2) := List.forall_mem_append.mpr ⟨kD_Ch_fillBlock_0, kD_Ch_fillBlock_1⟩
set_option maxRecDepth 100000 in
theorem kW_Ch_fillBlock (l : Launch) (D : va_G) (base : Nat) (sa : Nat → Nat) : pm_Met l D kcl base (kZ sa) ⟨"RoutingField$Chain", "fillBlock", "(Z)V"⟩ (.code ⟨"RoutingField$Chain", "fillBlock", "(Z)V"⟩ prog_3_method_19_code 5 none :: pw_T) 0 0 (kP_Ch_fillBlock base sa) := by
  refine pm_met (by decide) rfl rfl ?_
  intro mc ms p e s m args below meth c hx hb hml hown hnm hts hbs hZ
  have ht : ∀ w ∈ pw_T, w.before args s = true := fun w h => hts w (List.mem_cons_of_mem _ h)
  exact ⟨hx, hb, hown, hbs, pm_look_all kD_Ch_fillBlock, kf_ok (init := false) ht hZ kF_Ch_ok (fun h => by cases h), km_ok ht kM_Ch_ok, kci_ok ht kI_Ch_ok, kli_ok ht kJ_Ch_ok, kar_ok ht hZ kA_Ch_ok,
    pm_look_all (fun _ h => absurd h List.not_mem_nil),
    hZ, kst_ok ht hZ (kS_Ch_ok sa), knar_ok ht, ktx_ok (kE_Ch_ok sa)⟩
set_option maxRecDepth 100000 in
theorem ki_Ch_begin : Cond.instanceMethod ⟨"RoutingField$Chain", "begin", "()V"⟩ ∈ pw_T := (pw_in 1180 (by decide +kernel) rfl)
set_option maxRecDepth 100000 in
theorem ks_Ch_begin : Cond.selects "RoutingField$Chain" ⟨"RoutingField$Chain", "begin", "()V"⟩ ⟨"RoutingField$Chain", "begin", "()V"⟩ ∈ pw_T := (pw_sel 36 (q := (⟨"RoutingField$Chain", "begin", "()V"⟩, 12)) (by decide +kernel))
set_option maxRecDepth 100000 in
theorem ko_Ch_begin : Cond.code ⟨"RoutingField$Chain", "begin", "()V"⟩ prog_3_method_20_code 1 none ∈ pw_T := (pw_in 1181 rfl rfl)
set_option maxRecDepth 100000 in
theorem kD_Ch_begin : ∀ q ∈ kC_Ch_begin, decode prog_3_method_20_code q.1 = .ok (q.2, pm_len q.1 q.2) := by decide +kernel
set_option maxRecDepth 100000 in
theorem kW_Ch_begin (l : Launch) (D : va_G) (base : Nat) (sa : Nat → Nat) : pm_Met l D kcl base (kZ sa) ⟨"RoutingField$Chain", "begin", "()V"⟩ (.code ⟨"RoutingField$Chain", "begin", "()V"⟩ prog_3_method_20_code 1 none :: pw_T) 0 0 (kP_Ch_begin base sa) := by
  refine pm_met (by decide) rfl rfl ?_
  intro mc ms p e s m args below meth c hx hb hml hown hnm hts hbs hZ
  have ht : ∀ w ∈ pw_T, w.before args s = true := fun w h => hts w (List.mem_cons_of_mem _ h)
  exact ⟨hx, hb, hown, hbs, pm_look_all kD_Ch_begin, kf_ok (init := false) ht hZ kF_Ch_ok (fun h => by cases h), km_ok ht kM_Ch_ok, kci_ok ht kI_Ch_ok, kli_ok ht kJ_Ch_ok, kar_ok ht hZ kA_Ch_ok,
    pm_look_all (fun _ h => absurd h List.not_mem_nil),
    hZ, kst_ok ht hZ (kS_Ch_ok sa), knar_ok ht, ktx_ok (kE_Ch_ok sa)⟩
set_option maxRecDepth 100000 in
theorem ki_Ch_md5Block : Cond.instanceMethod ⟨"RoutingField$Chain", "md5Block", "()V"⟩ ∈ pw_T := (pw_in 1189 (by decide +kernel) rfl)
set_option maxRecDepth 100000 in
theorem ks_Ch_md5Block : Cond.selects "RoutingField$Chain" ⟨"RoutingField$Chain", "md5Block", "()V"⟩ ⟨"RoutingField$Chain", "md5Block", "()V"⟩ ∈ pw_T := (pw_sel 37 (q := (⟨"RoutingField$Chain", "md5Block", "()V"⟩, 12)) (by decide +kernel))
set_option maxRecDepth 100000 in
theorem ko_Ch_md5Block : Cond.code ⟨"RoutingField$Chain", "md5Block", "()V"⟩ prog_3_method_22_code 10 none ∈ pw_T := (pw_in 1190 rfl rfl)
set_option maxRecDepth 100000 in
theorem kD_Ch_md5Block_0 : ∀ q ∈ kC_Ch_md5Block_0, decode prog_3_method_22_code q.1 = .ok (q.2, pm_len q.1 q.2) := by decide +kernel
set_option maxRecDepth 100000 in
theorem kD_Ch_md5Block_1 : ∀ q ∈ kC_Ch_md5Block_1, decode prog_3_method_22_code q.1 = .ok (q.2, pm_len q.1 q.2) := by decide +kernel
set_option maxRecDepth 100000 in
theorem kD_Ch_md5Block_2 : ∀ q ∈ kC_Ch_md5Block_2, decode prog_3_method_22_code q.1 = .ok (q.2, pm_len q.1 q.2) := by decide +kernel
set_option maxRecDepth 100000 in
theorem kD_Ch_md5Block_3 : ∀ q ∈ kC_Ch_md5Block_3, decode prog_3_method_22_code q.1 = .ok (q.2, pm_len q.1 q.2) := by decide +kernel
theorem kD_Ch_md5Block : ∀ q ∈ kC_Ch_md5Block, decode prog_3_method_22_code q.1 = .ok (q.2, pm_len q.1 q.2) := List.forall_mem_append.mpr ⟨kD_Ch_md5Block_0, List.forall_mem_append.mpr ⟨kD_Ch_md5Block_1, List.forall_mem_append.mpr ⟨kD_Ch_md5Block_2, kD_Ch_md5Block_3⟩⟩⟩
set_option maxRecDepth 100000 in
theorem kW_Ch_md5Block (l : Launch) (D : va_G) (base : Nat) (sa : Nat → Nat) : pm_Met l D kcl base (kZ sa) ⟨"RoutingField$Chain", "md5Block", "()V"⟩ (.code ⟨"RoutingField$Chain", "md5Block", "()V"⟩ prog_3_method_22_code 10 none :: pw_T) 0 0 (kP_Ch_md5Block base sa) := by
  refine pm_met (by decide) rfl rfl ?_
  intro mc ms p e s m args below meth c hx hb hml hown hnm hts hbs hZ
  have ht : ∀ w ∈ pw_T, w.before args s = true := fun w h => hts w (List.mem_cons_of_mem _ h)
  exact ⟨hx, hb, hown, hbs, pm_look_all kD_Ch_md5Block, kf_ok (init := false) ht hZ kF_Ch_ok (fun h => by cases h), km_ok ht kM_Ch_ok, kci_ok ht kI_Ch_ok, kli_ok ht kJ_Ch_ok, kar_ok ht hZ kA_Ch_ok,
    pm_look_all (fun _ h => absurd h List.not_mem_nil),
    hZ, kst_ok ht hZ (kS_Ch_ok sa), knar_ok ht, ktx_ok (kE_Ch_ok sa)⟩
