set_option maxRecDepth 100000 in
theorem ki_Rr_addPort : Cond.instanceMethod ⟨"RoutingField$Router", "addPort", "(LRoutingField$Link;)LRoutingField$Port;"⟩ ∈ pw_T := (pw_in 859 (by decide +kernel) rfl)
set_option maxRecDepth 100000 in
theorem ks_Rr_addPort : Cond.selects "RoutingField$Router" ⟨"RoutingField$Router", "addPort", "(LRoutingField$Link;)LRoutingField$Port;"⟩ ⟨"RoutingField$Router", "addPort", "(LRoutingField$Link;)LRoutingField$Port;"⟩ ∈ pw_T := (pw_in 860 (by decide +kernel) rfl)
set_option maxRecDepth 100000 in
theorem ko_Rr_addPort : Cond.code ⟨"RoutingField$Router", "addPort", "(LRoutingField$Link;)LRoutingField$Port;"⟩ prog_11_method_3_code 3 (some (.object "RoutingField$Port")) ∈ pw_T := (pw_in 861 rfl rfl)
set_option maxRecDepth 100000 in
theorem kD_Rr_addPort : ∀ q ∈ kC_Rr_addPort, decode prog_11_method_3_code q.1 = .ok (q.2, pm_len q.1 q.2) := by decide +kernel
set_option maxRecDepth 100000 in
theorem kW_Rr_addPort (l : Launch) (D : va_G) (base : Nat) (sa : Nat → Nat) : pm_Met l D kcl base (kZ sa) ⟨"RoutingField$Router", "addPort", "(LRoutingField$Link;)LRoutingField$Port;"⟩ (.code ⟨"RoutingField$Router", "addPort", "(LRoutingField$Link;)LRoutingField$Port;"⟩ prog_11_method_3_code 3 (some (.object "RoutingField$Port")) :: pw_T) 3 61 (kP_Rr_addPort base sa) := by
  refine pm_met (by decide) rfl rfl ?_
  intro mc ms p e s m args below meth c hx hb hml hown hnm hts hbs hZ
  have ht : ∀ w ∈ pw_T, w.before args s = true := fun w h => hts w (List.mem_cons_of_mem _ h)
  exact ⟨hx, hb, hown, hbs, pm_look_all kD_Rr_addPort, kf_ok (init := false) ht hZ kF_Rr_ok (fun h => by cases h), km_ok ht kM_Rr_ok, kci_ok ht kI_Rr_ok, kli_ok ht kJ_Rr_ok, kar_ok ht hZ kA_Rr_ok,
    pm_look_all (List.forall_mem_cons.mpr ⟨pm_cokI hbs hZ ⟨hx, hb, hml, hown, hts⟩ (kW_Po_init l D base sa) (fun mc ms => cwI 1 hts (pw_gC ko_Po_init) rfl rfl rfl (ht _ kn_Po) (ht _ (pw_in 863 (w := .methodLink "RoutingField$Router" 100 ⟨"RoutingField$Port", "<init>", "(LRoutingField$Link;)V"⟩) (by decide +kernel) rfl)) (ht _ ki_Po_init) rfl (by decide +kernel) ⟨Nat.le_of_ble_eq_true rfl, Nat.le_of_ble_eq_true rfl⟩), fun _ h => absurd h List.not_mem_nil⟩),
    hZ, kst_ok ht hZ (kS_Rr_ok sa), knar_ok ht, ktx_ok (kE_Rr_ok sa)⟩
set_option maxRecDepth 100000 in
theorem ki_Pr_copy : Cond.instanceMethod ⟨"RoutingField$Prefix", "copy", "(LRoutingField$Prefix;)V"⟩ ∈ pw_T := (pw_in 971 (by decide +kernel) rfl)
set_option maxRecDepth 100000 in
theorem ks_Pr_copy : Cond.selects "RoutingField$Prefix" ⟨"RoutingField$Prefix", "copy", "(LRoutingField$Prefix;)V"⟩ ⟨"RoutingField$Prefix", "copy", "(LRoutingField$Prefix;)V"⟩ ∈ pw_T := (pw_in 972 (by decide +kernel) rfl)
set_option maxRecDepth 100000 in
theorem ko_Pr_copy : Cond.code ⟨"RoutingField$Prefix", "copy", "(LRoutingField$Prefix;)V"⟩ prog_7_method_5_code 2 none ∈ pw_T := (pw_in 973 rfl rfl)
set_option maxRecDepth 100000 in
theorem kD_Pr_copy : ∀ q ∈ kC_Pr_copy, decode prog_7_method_5_code q.1 = .ok (q.2, pm_len q.1 q.2) := by decide +kernel
set_option maxRecDepth 100000 in
theorem kW_Pr_copy (l : Launch) (D : va_G) (base : Nat) (sa : Nat → Nat) : pm_Met l D kcl base (kZ sa) ⟨"RoutingField$Prefix", "copy", "(LRoutingField$Prefix;)V"⟩ (.code ⟨"RoutingField$Prefix", "copy", "(LRoutingField$Prefix;)V"⟩ prog_7_method_5_code 2 none :: pw_T) 0 0 (kP_Pr_copy base sa) := by
  refine pm_met (by decide) rfl rfl ?_
  intro mc ms p e s m args below meth c hx hb hml hown hnm hts hbs hZ
  have ht : ∀ w ∈ pw_T, w.before args s = true := fun w h => hts w (List.mem_cons_of_mem _ h)
  exact ⟨hx, hb, hown, hbs, pm_look_all kD_Pr_copy, kf_ok (init := false) ht hZ kF_Pr_ok (fun h => by cases h), km_ok ht kM_Pr_ok, kci_ok ht kI_Pr_ok, kli_ok ht kJ_Pr_ok, kar_ok ht hZ kA_Pr_ok,
    pm_look_all (fun _ h => absurd h List.not_mem_nil),
    hZ, kst_ok ht hZ (kS_Pr_ok sa), knar_ok ht, ktx_ok (kE_Pr_ok sa)⟩
set_option maxRecDepth 100000 in
theorem ki_Po_setAddress : Cond.instanceMethod ⟨"RoutingField$Port", "setAddress", "(LRoutingField$Prefix;)V"⟩ ∈ pw_T := (pw_in 966 (by decide +kernel) rfl)
set_option maxRecDepth 100000 in
theorem ks_Po_setAddress : Cond.selects "RoutingField$Port" ⟨"RoutingField$Port", "setAddress", "(LRoutingField$Prefix;)V"⟩ ⟨"RoutingField$Port", "setAddress", "(LRoutingField$Prefix;)V"⟩ ∈ pw_T := (pw_in 967 (by decide +kernel) rfl)
set_option maxRecDepth 100000 in
theorem ko_Po_setAddress : Cond.code ⟨"RoutingField$Port", "setAddress", "(LRoutingField$Prefix;)V"⟩ prog_6_method_3_code 3 none ∈ pw_T := (pw_in 968 rfl rfl)
set_option maxRecDepth 100000 in
theorem kD_Po_setAddress : ∀ q ∈ kC_Po_setAddress, decode prog_6_method_3_code q.1 = .ok (q.2, pm_len q.1 q.2) := by decide +kernel
set_option maxRecDepth 100000 in
theorem kW_Po_setAddress (l : Launch) (D : va_G) (base : Nat) (sa : Nat → Nat) : pm_Met l D kcl base (kZ sa) ⟨"RoutingField$Port", "setAddress", "(LRoutingField$Prefix;)V"⟩ (.code ⟨"RoutingField$Port", "setAddress", "(LRoutingField$Prefix;)V"⟩ prog_6_method_3_code 3 none :: pw_T) 2 40 (kP_Po_setAddress base sa) := by
  refine pm_met (by decide) rfl rfl ?_
  intro mc ms p e s m args below meth c hx hb hml hown hnm hts hbs hZ
  have ht : ∀ w ∈ pw_T, w.before args s = true := fun w h => hts w (List.mem_cons_of_mem _ h)
  exact ⟨hx, hb, hown, hbs, pm_look_all kD_Po_setAddress, kf_ok (init := false) ht hZ kF_Po_ok (fun h => by cases h), km_ok ht kM_Po_ok, kci_ok ht kI_Po_ok, kli_ok ht kJ_Po_ok, kar_ok ht hZ kA_Po_ok,
    pm_look_all (List.forall_mem_cons.mpr ⟨pm_cokI hbs hZ ⟨hx, hb, hml, hown, hts⟩ (kW_Pr_init l D base sa) (fun mc ms => cwI 0 hts (pw_gC ko_Pr_init) rfl rfl rfl (ht _ kn_Pr) (ht _ (pw_in 969 (w := .methodLink "RoutingField$Port" 81 ⟨"RoutingField$Prefix", "<init>", "()V"⟩) (by decide +kernel) rfl)) (ht _ ki_Pr_init) rfl (by decide +kernel) ⟨Nat.le_of_ble_eq_true rfl, Nat.le_of_ble_eq_true rfl⟩), List.forall_mem_cons.mpr ⟨pm_cokV hbs hZ ⟨hx, hb, hml, hown, hts⟩ (kW_Pr_copy l D base sa) (fun mc ms => cwV 1 hts (pw_gV (pw_in 970 (w := .methodLink "RoutingField$Port" 82 ⟨"RoutingField$Prefix", "copy", "(LRoutingField$Prefix;)V"⟩) (by decide +kernel) rfl) ki_Pr_copy ks_Pr_copy kn_Pr ko_Pr_copy) rfl rfl rfl (by decide +kernel) ⟨Nat.le_of_ble_eq_true rfl, Nat.le_of_ble_eq_true rfl⟩) (ci := 5) rfl, fun _ h => absurd h List.not_mem_nil⟩⟩),
    hZ, kst_ok ht hZ (kS_Po_ok sa), knar_ok ht, ktx_ok (kE_Po_ok sa)⟩
set_option maxRecDepth 100000 in
theorem ki_Re_setJoined : Cond.instanceMethod ⟨"RoutingField$Reader", "setJoined", "(LRoutingField$Port;)V"⟩ ∈ pw_T := (pw_in 963 (by decide +kernel) rfl)
set_option maxRecDepth 100000 in
theorem ks_Re_setJoined : Cond.selects "RoutingField$Reader" ⟨"RoutingField$Reader", "setJoined", "(LRoutingField$Port;)V"⟩ ⟨"RoutingField$Reader", "setJoined", "(LRoutingField$Port;)V"⟩ ∈ pw_T := (pw_sel 23 (q := (⟨"RoutingField$Reader", "setJoined", "(LRoutingField$Port;)V"⟩, 12)) (by decide +kernel))
set_option maxRecDepth 100000 in
theorem ko_Re_setJoined : Cond.code ⟨"RoutingField$Reader", "setJoined", "(LRoutingField$Port;)V"⟩ prog_9_method_27_code 2 none ∈ pw_T := (pw_in 964 rfl rfl)
set_option maxRecDepth 100000 in
theorem kD_Re_setJoined : ∀ q ∈ kC_Re_setJoined, decode prog_9_method_27_code q.1 = .ok (q.2, pm_len q.1 q.2) := by decide +kernel
set_option maxRecDepth 100000 in
theorem kW_Re_setJoined (l : Launch) (D : va_G) (base : Nat) (sa : Nat → Nat) : pm_Met l D kcl base (kZ sa) ⟨"RoutingField$Reader", "setJoined", "(LRoutingField$Port;)V"⟩ (.code ⟨"RoutingField$Reader", "setJoined", "(LRoutingField$Port;)V"⟩ prog_9_method_27_code 2 none :: pw_T) 3 62 (kP_Re_setJoined base sa) := by
  refine pm_met (by decide) rfl rfl ?_
  intro mc ms p e s m args below meth c hx hb hml hown hnm hts hbs hZ
  have ht : ∀ w ∈ pw_T, w.before args s = true := fun w h => hts w (List.mem_cons_of_mem _ h)
  exact ⟨hx, hb, hown, hbs, pm_look_all kD_Re_setJoined, kf_ok (init := false) ht hZ kF_Re_ok (fun h => by cases h), km_ok ht kM_Re_ok, kci_ok ht kI_Re_ok, kli_ok ht kJ_Re_ok, kar_ok ht hZ kA_Re_ok,
    pm_look_all (List.forall_mem_cons.mpr ⟨pm_cokV hbs hZ ⟨hx, hb, hml, hown, hts⟩ (kW_Po_setAddress l D base sa) (fun mc ms => cwV 1 hts (pw_gV (pw_in 965 (w := .methodLink "RoutingField$Reader" 359 ⟨"RoutingField$Port", "setAddress", "(LRoutingField$Prefix;)V"⟩) (by decide +kernel) rfl) ki_Po_setAddress ks_Po_setAddress kn_Po ko_Po_setAddress) rfl rfl rfl (by decide +kernel) ⟨Nat.le_of_ble_eq_true rfl, Nat.le_of_ble_eq_true rfl⟩) (ci := 4) rfl, List.forall_mem_cons.mpr ⟨pm_cokV hbs hZ ⟨hx, hb, hml, hown, hts⟩ (kW_Ch_copy l D base sa) (fun mc ms => cwV 1 hts (pw_gV (pw_in 832 (w := .methodLink "RoutingField$Reader" 340 ⟨"RoutingField$Chain", "copy", "(LRoutingField$Chain;)V"⟩) (by decide +kernel) rfl) ki_Ch_copy ks_Ch_copy kn_Ch ko_Ch_copy) rfl rfl rfl (by decide +kernel) ⟨Nat.le_of_ble_eq_true rfl, Nat.le_of_ble_eq_true rfl⟩) (ci := 1) rfl, fun _ h => absurd h List.not_mem_nil⟩⟩),
    hZ, kst_ok ht hZ (kS_Re_ok sa), knar_ok ht, ktx_ok (kE_Re_ok sa)⟩
set_option maxRecDepth 100000 in
theorem ki_Pr_dropBitsBehind : Cond.instanceMethod ⟨"RoutingField$Prefix", "dropBitsBehind", "()V"⟩ ∈ pw_T := (pw_in 981 (by decide +kernel) rfl)
set_option maxRecDepth 100000 in
theorem ks_Pr_dropBitsBehind : Cond.selects "RoutingField$Prefix" ⟨"RoutingField$Prefix", "dropBitsBehind", "()V"⟩ ⟨"RoutingField$Prefix", "dropBitsBehind", "()V"⟩ ∈ pw_T := (pw_in 982 (by decide +kernel) rfl)
set_option maxRecDepth 100000 in
theorem ko_Pr_dropBitsBehind : Cond.code ⟨"RoutingField$Prefix", "dropBitsBehind", "()V"⟩ prog_7_method_13_code 1 none ∈ pw_T := (pw_in 983 rfl rfl)
set_option maxRecDepth 100000 in
theorem kD_Pr_dropBitsBehind : ∀ q ∈ kC_Pr_dropBitsBehind, decode prog_7_method_13_code q.1 = .ok (q.2, pm_len q.1 q.2) := by decide +kernel
set_option maxRecDepth 100000 in
theorem kW_Pr_dropBitsBehind (l : Launch) (D : va_G) (base : Nat) (sa : Nat → Nat) : pm_Met l D kcl base (kZ sa) ⟨"RoutingField$Prefix", "dropBitsBehind", "()V"⟩ (.code ⟨"RoutingField$Prefix", "dropBitsBehind", "()V"⟩ prog_7_method_13_code 1 none :: pw_T) 1 24 (kP_Pr_dropBitsBehind base sa) := by
  refine pm_met (by decide) rfl rfl ?_
  intro mc ms p e s m args below meth c hx hb hml hown hnm hts hbs hZ
  have ht : ∀ w ∈ pw_T, w.before args s = true := fun w h => hts w (List.mem_cons_of_mem _ h)
  exact ⟨hx, hb, hown, hbs, pm_look_all kD_Pr_dropBitsBehind, kf_ok (init := false) ht hZ kF_Pr_ok (fun h => by cases h), km_ok ht kM_Pr_ok, kci_ok ht kI_Pr_ok, kli_ok ht kJ_Pr_ok, kar_ok ht hZ kA_Pr_ok,
    pm_look_all (List.forall_mem_cons.mpr ⟨pm_cokS hbs hZ ⟨hx, hb, hml, hown, hts⟩ (kW_Pr_maskHigh l D base sa) (fun mc ms => va_cwS 1 hts (pw_gS (pw_in 791 (w := .methodLink "RoutingField$Prefix" 34 ⟨"RoutingField$Prefix", "maskHigh", "(I)J"⟩) (by decide +kernel) rfl) kv_Pr_maskHigh kn_Pr ko_Pr_maskHigh) rfl rfl rfl (by decide +kernel) ⟨Nat.le_of_ble_eq_true rfl, Nat.le_of_ble_eq_true rfl⟩) (Nat.le_of_ble_eq_true rfl), List.forall_mem_cons.mpr ⟨pm_cokS hbs hZ ⟨hx, hb, hml, hown, hts⟩ (kW_Pr_maskLow l D base sa) (fun mc ms => va_cwS 1 hts (pw_gS (pw_in 795 (w := .methodLink "RoutingField$Prefix" 38 ⟨"RoutingField$Prefix", "maskLow", "(I)J"⟩) (by decide +kernel) rfl) kv_Pr_maskLow kn_Pr ko_Pr_maskLow) rfl rfl rfl (by decide +kernel) ⟨Nat.le_of_ble_eq_true rfl, Nat.le_of_ble_eq_true rfl⟩) (Nat.le_of_ble_eq_true rfl), fun _ h => absurd h List.not_mem_nil⟩⟩),
    hZ, kst_ok ht hZ (kS_Pr_ok sa), knar_ok ht, ktx_ok (kE_Pr_ok sa)⟩
set_option maxRecDepth 100000 in
theorem ki_Pr_covers : Cond.instanceMethod ⟨"RoutingField$Prefix", "covers", "(LRoutingField$Prefix;)Z"⟩ ∈ pw_T := (pw_in 997 (by decide +kernel) rfl)
set_option maxRecDepth 100000 in
theorem ks_Pr_covers : Cond.selects "RoutingField$Prefix" ⟨"RoutingField$Prefix", "covers", "(LRoutingField$Prefix;)Z"⟩ ⟨"RoutingField$Prefix", "covers", "(LRoutingField$Prefix;)Z"⟩ ∈ pw_T := (pw_in 998 (by decide +kernel) rfl)
set_option maxRecDepth 100000 in
theorem ko_Pr_covers : Cond.code ⟨"RoutingField$Prefix", "covers", "(LRoutingField$Prefix;)Z"⟩ prog_7_method_9_code 6 (some .boolean) ∈ pw_T := (pw_in 999 rfl rfl)
set_option maxRecDepth 100000 in
theorem kD_Pr_covers_0 : ∀ q ∈ kC_Pr_covers_0, decode prog_7_method_9_code q.1 = .ok (q.2, pm_len q.1 q.2) := by decide +kernel
set_option maxRecDepth 100000 in
theorem kD_Pr_covers_1 : ∀ q ∈ kC_Pr_covers_1, decode prog_7_method_9_code q.1 = .ok (q.2, pm_len q.1 q.2) := by decide +kernel
theorem kD_Pr_covers : ∀ q ∈ kC_Pr_covers, decode prog_7_method_9_code q.1 = .ok (q.2, pm_len q.1 q.2) := List.forall_mem_append.mpr ⟨kD_Pr_covers_0, kD_Pr_covers_1⟩
set_option maxRecDepth 100000 in
theorem kW_Pr_covers (l : Launch) (D : va_G) (base : Nat) (sa : Nat → Nat) : pm_Met l D kcl base (kZ sa) ⟨"RoutingField$Prefix", "covers", "(LRoutingField$Prefix;)Z"⟩ (.code ⟨"RoutingField$Prefix", "covers", "(LRoutingField$Prefix;)Z"⟩ prog_7_method_9_code 6 (some .boolean) :: pw_T) 0 0 (kP_Pr_covers base sa) := by
  refine pm_met (by decide) rfl rfl ?_
  intro mc ms p e s m args below meth c hx hb hml hown hnm hts hbs hZ
  have ht : ∀ w ∈ pw_T, w.before args s = true := fun w h => hts w (List.mem_cons_of_mem _ h)
  exact ⟨hx, hb, hown, hbs, pm_look_all kD_Pr_covers, kf_ok (init := false) ht hZ kF_Pr_ok (fun h => by cases h), km_ok ht kM_Pr_ok, kci_ok ht kI_Pr_ok, kli_ok ht kJ_Pr_ok, kar_ok ht hZ kA_Pr_ok,
    pm_look_all (fun _ h => absurd h List.not_mem_nil),
    hZ, kst_ok ht hZ (kS_Pr_ok sa), knar_ok ht, ktx_ok (kE_Pr_ok sa)⟩
set_option maxRecDepth 100000 in
theorem ki_Pr_sameNetwork : Cond.instanceMethod ⟨"RoutingField$Prefix", "sameNetwork", "(LRoutingField$Prefix;)Z"⟩ ∈ pw_T := (pw_in 993 (by decide +kernel) rfl)
set_option maxRecDepth 100000 in
theorem ks_Pr_sameNetwork : Cond.selects "RoutingField$Prefix" ⟨"RoutingField$Prefix", "sameNetwork", "(LRoutingField$Prefix;)Z"⟩ ⟨"RoutingField$Prefix", "sameNetwork", "(LRoutingField$Prefix;)Z"⟩ ∈ pw_T := (pw_in 994 (by decide +kernel) rfl)
set_option maxRecDepth 100000 in
theorem ko_Pr_sameNetwork : Cond.code ⟨"RoutingField$Prefix", "sameNetwork", "(LRoutingField$Prefix;)Z"⟩ prog_7_method_11_code 2 (some .boolean) ∈ pw_T := (pw_in 995 rfl rfl)
set_option maxRecDepth 100000 in
theorem kD_Pr_sameNetwork : ∀ q ∈ kC_Pr_sameNetwork, decode prog_7_method_11_code q.1 = .ok (q.2, pm_len q.1 q.2) := by decide +kernel
set_option maxRecDepth 100000 in
theorem kW_Pr_sameNetwork (l : Launch) (D : va_G) (base : Nat) (sa : Nat → Nat) : pm_Met l D kcl base (kZ sa) ⟨"RoutingField$Prefix", "sameNetwork", "(LRoutingField$Prefix;)Z"⟩ (.code ⟨"RoutingField$Prefix", "sameNetwork", "(LRoutingField$Prefix;)Z"⟩ prog_7_method_11_code 2 (some .boolean) :: pw_T) 1 25 (kP_Pr_sameNetwork base sa) := by
  refine pm_met (by decide) rfl rfl ?_
  intro mc ms p e s m args below meth c hx hb hml hown hnm hts hbs hZ
  have ht : ∀ w ∈ pw_T, w.before args s = true := fun w h => hts w (List.mem_cons_of_mem _ h)
  exact ⟨hx, hb, hown, hbs, pm_look_all kD_Pr_sameNetwork, kf_ok (init := false) ht hZ kF_Pr_ok (fun h => by cases h), km_ok ht kM_Pr_ok, kci_ok ht kI_Pr_ok, kli_ok ht kJ_Pr_ok, kar_ok ht hZ kA_Pr_ok,
    pm_look_all (List.forall_mem_cons.mpr ⟨pm_cokV hbs hZ ⟨hx, hb, hml, hown, hts⟩ (kW_Pr_covers l D base sa) (fun mc ms => cwV 1 hts (pw_gV (pw_in 996 (w := .methodLink "RoutingField$Prefix" 28 ⟨"RoutingField$Prefix", "covers", "(LRoutingField$Prefix;)Z"⟩) (by decide +kernel) rfl) ki_Pr_covers ks_Pr_covers kn_Pr ko_Pr_covers) rfl rfl rfl (by decide +kernel) ⟨Nat.le_of_ble_eq_true rfl, Nat.le_of_ble_eq_true rfl⟩) (ci := 5) rfl, fun _ h => absurd h List.not_mem_nil⟩),
    hZ, kst_ok ht hZ (kS_Pr_ok sa), knar_ok ht, ktx_ok (kE_Pr_ok sa)⟩
set_option maxRecDepth 100000 in
theorem ki_Rr_portOf : Cond.instanceMethod ⟨"RoutingField$Router", "portOf", "(LRoutingField$Prefix;)LRoutingField$Port;"⟩ ∈ pw_T := (pw_in 990 (by decide +kernel) rfl)
set_option maxRecDepth 100000 in
theorem ks_Rr_portOf : Cond.selects "RoutingField$Router" ⟨"RoutingField$Router", "portOf", "(LRoutingField$Prefix;)LRoutingField$Port;"⟩ ⟨"RoutingField$Router", "portOf", "(LRoutingField$Prefix;)LRoutingField$Port;"⟩ ∈ pw_T := (pw_sel 24 (q := (⟨"RoutingField$Router", "portOf", "(LRoutingField$Prefix;)LRoutingField$Port;"⟩, 20)) (by decide +kernel))
set_option maxRecDepth 100000 in
theorem ko_Rr_portOf : Cond.code ⟨"RoutingField$Router", "portOf", "(LRoutingField$Prefix;)LRoutingField$Port;"⟩ prog_11_method_8_code 4 (some (.object "RoutingField$Port")) ∈ pw_T := (pw_in 991 rfl rfl)
set_option maxRecDepth 100000 in
theorem kD_Rr_portOf : ∀ q ∈ kC_Rr_portOf, decode prog_11_method_8_code q.1 = .ok (q.2, pm_len q.1 q.2) := by decide +kernel
set_option maxRecDepth 100000 in
theorem kW_Rr_portOf (l : Launch) (D : va_G) (base : Nat) (sa : Nat → Nat) : pm_Met l D kcl base (kZ sa) ⟨"RoutingField$Router", "portOf", "(LRoutingField$Prefix;)LRoutingField$Port;"⟩ (.code ⟨"RoutingField$Router", "portOf", "(LRoutingField$Prefix;)LRoutingField$Port;"⟩ prog_11_method_8_code 4 (some (.object "RoutingField$Port")) :: pw_T) 2 46 (kP_Rr_portOf base sa) := by
  refine pm_met (by decide) rfl rfl ?_
  intro mc ms p e s m args below meth c hx hb hml hown hnm hts hbs hZ
  have ht : ∀ w ∈ pw_T, w.before args s = true := fun w h => hts w (List.mem_cons_of_mem _ h)
  exact ⟨hx, hb, hown, hbs, pm_look_all kD_Rr_portOf, kf_ok (init := false) ht hZ kF_Rr_ok (fun h => by cases h), km_ok ht kM_Rr_ok, kci_ok ht kI_Rr_ok, kli_ok ht kJ_Rr_ok, kar_ok ht hZ kA_Rr_ok,
    pm_look_all (List.forall_mem_cons.mpr ⟨pm_cokV hbs hZ ⟨hx, hb, hml, hown, hts⟩ (kW_Po_addressOf l D base sa) (fun mc ms => cwV 1 hts (pw_gV (pw_in 978 (w := .methodLink "RoutingField$Router" 133 ⟨"RoutingField$Port", "addressOf", "(I)LRoutingField$Prefix;"⟩) (by decide +kernel) rfl) ki_Po_addressOf ks_Po_addressOf kn_Po ko_Po_addressOf) rfl rfl rfl (by decide +kernel) ⟨Nat.le_of_ble_eq_true rfl, Nat.le_of_ble_eq_true rfl⟩) (ci := 4) rfl, List.forall_mem_cons.mpr ⟨pm_cokV hbs hZ ⟨hx, hb, hml, hown, hts⟩ (kW_Pr_sameNetwork l D base sa) (fun mc ms => cwV 1 hts (pw_gV (pw_in 992 (w := .methodLink "RoutingField$Router" 142 ⟨"RoutingField$Prefix", "sameNetwork", "(LRoutingField$Prefix;)Z"⟩) (by decide +kernel) rfl) ki_Pr_sameNetwork ks_Pr_sameNetwork kn_Pr ko_Pr_sameNetwork) rfl rfl rfl (by decide +kernel) ⟨Nat.le_of_ble_eq_true rfl, Nat.le_of_ble_eq_true rfl⟩) (ci := 5) rfl, fun _ h => absurd h List.not_mem_nil⟩⟩),
    hZ, kst_ok ht hZ (kS_Rr_ok sa), knar_ok ht, ktx_ok (kE_Rr_ok sa)⟩
set_option maxRecDepth 100000 in
theorem ki_Pr_order : Cond.instanceMethod ⟨"RoutingField$Prefix", "order", "(LRoutingField$Prefix;)I"⟩ ∈ pw_T := (pw_in 1009 (by decide +kernel) rfl)
set_option maxRecDepth 100000 in
theorem ks_Pr_order : Cond.selects "RoutingField$Prefix" ⟨"RoutingField$Prefix", "order", "(LRoutingField$Prefix;)I"⟩ ⟨"RoutingField$Prefix", "order", "(LRoutingField$Prefix;)I"⟩ ∈ pw_T := (pw_in 1010 (by decide +kernel) rfl)
set_option maxRecDepth 100000 in
theorem ko_Pr_order : Cond.code ⟨"RoutingField$Prefix", "order", "(LRoutingField$Prefix;)I"⟩ prog_7_method_12_code 2 (some .int) ∈ pw_T := (pw_in 1011 rfl rfl)
set_option maxRecDepth 100000 in
theorem kD_Pr_order : ∀ q ∈ kC_Pr_order, decode prog_7_method_12_code q.1 = .ok (q.2, pm_len q.1 q.2) := by decide +kernel
set_option maxRecDepth 100000 in
theorem kW_Pr_order (l : Launch) (D : va_G) (base : Nat) (sa : Nat → Nat) : pm_Met l D kcl base (kZ sa) ⟨"RoutingField$Prefix", "order", "(LRoutingField$Prefix;)I"⟩ (.code ⟨"RoutingField$Prefix", "order", "(LRoutingField$Prefix;)I"⟩ prog_7_method_12_code 2 (some .int) :: pw_T) 0 0 (kP_Pr_order base sa) := by
  refine pm_met (by decide) rfl rfl ?_
  intro mc ms p e s m args below meth c hx hb hml hown hnm hts hbs hZ
  have ht : ∀ w ∈ pw_T, w.before args s = true := fun w h => hts w (List.mem_cons_of_mem _ h)
  exact ⟨hx, hb, hown, hbs, pm_look_all kD_Pr_order, kf_ok (init := false) ht hZ kF_Pr_ok (fun h => by cases h), km_ok ht kM_Pr_ok, kci_ok ht kI_Pr_ok, kli_ok ht kJ_Pr_ok, kar_ok ht hZ kA_Pr_ok,
    pm_look_all (fun _ h => absurd h List.not_mem_nil),
    hZ, kst_ok ht hZ (kS_Pr_ok sa), knar_ok ht, ktx_ok (kE_Pr_ok sa)⟩
set_option maxRecDepth 100000 in
theorem ki_Ta_placeOf : Cond.instanceMethod ⟨"RoutingField$Table", "placeOf", "(LRoutingField$Prefix;)I"⟩ ∈ pw_T := (pw_in 1006 (by decide +kernel) rfl)
set_option maxRecDepth 100000 in
theorem ks_Ta_placeOf : Cond.selects "RoutingField$Table" ⟨"RoutingField$Table", "placeOf", "(LRoutingField$Prefix;)I"⟩ ⟨"RoutingField$Table", "placeOf", "(LRoutingField$Prefix;)I"⟩ ∈ pw_T := (pw_sel 25 (q := (⟨"RoutingField$Table", "placeOf", "(LRoutingField$Prefix;)I"⟩, 2)) (by decide +kernel))
set_option maxRecDepth 100000 in
theorem ko_Ta_placeOf : Cond.code ⟨"RoutingField$Table", "placeOf", "(LRoutingField$Prefix;)I"⟩ prog_12_method_3_code 6 (some .int) ∈ pw_T := (pw_in 1007 rfl rfl)
set_option maxRecDepth 100000 in
theorem kD_Ta_placeOf : ∀ q ∈ kC_Ta_placeOf, decode prog_12_method_3_code q.1 = .ok (q.2, pm_len q.1 q.2) := by decide +kernel
set_option maxRecDepth 100000 in
theorem kW_Ta_placeOf (l : Launch) (D : va_G) (base : Nat) (sa : Nat → Nat) : pm_Met l D kcl base (kZ sa) ⟨"RoutingField$Table", "placeOf", "(LRoutingField$Prefix;)I"⟩ (.code ⟨"RoutingField$Table", "placeOf", "(LRoutingField$Prefix;)I"⟩ prog_12_method_3_code 6 (some .int) :: pw_T) 1 21 (kP_Ta_placeOf base sa) := by
  refine pm_met (by decide) rfl rfl ?_
  intro mc ms p e s m args below meth c hx hb hml hown hnm hts hbs hZ
  have ht : ∀ w ∈ pw_T, w.before args s = true := fun w h => hts w (List.mem_cons_of_mem _ h)
  exact ⟨hx, hb, hown, hbs, pm_look_all kD_Ta_placeOf, kf_ok (init := false) ht hZ kF_Ta_ok (fun h => by cases h), km_ok ht kM_Ta_ok, kci_ok ht kI_Ta_ok, kli_ok ht kJ_Ta_ok, kar_ok ht hZ kA_Ta_ok,
    pm_look_all (List.forall_mem_cons.mpr ⟨pm_cokV hbs hZ ⟨hx, hb, hml, hown, hts⟩ (kW_Pr_order l D base sa) (fun mc ms => cwV 1 hts (pw_gV (pw_in 1008 (w := .methodLink "RoutingField$Table" 23 ⟨"RoutingField$Prefix", "order", "(LRoutingField$Prefix;)I"⟩) (by decide +kernel) rfl) ki_Pr_order ks_Pr_order kn_Pr ko_Pr_order) rfl rfl rfl (by decide +kernel) ⟨Nat.le_of_ble_eq_true rfl, Nat.le_of_ble_eq_true rfl⟩) (ci := 5) rfl, fun _ h => absurd h List.not_mem_nil⟩),
    hZ, kst_ok ht hZ (kS_Ta_ok sa), knar_ok ht, ktx_ok (kE_Ta_ok sa)⟩
set_option maxRecDepth 100000 in
theorem ki_Ta_find : Cond.instanceMethod ⟨"RoutingField$Table", "find", "(LRoutingField$Prefix;)LRoutingField$Route;"⟩ ∈ pw_T := (pw_in 1001 (by decide +kernel) rfl)
set_option maxRecDepth 100000 in
theorem ks_Ta_find : Cond.selects "RoutingField$Table" ⟨"RoutingField$Table", "find", "(LRoutingField$Prefix;)LRoutingField$Route;"⟩ ⟨"RoutingField$Table", "find", "(LRoutingField$Prefix;)LRoutingField$Route;"⟩ ∈ pw_T := (pw_in 1002 (by decide +kernel) rfl)
set_option maxRecDepth 100000 in
theorem ko_Ta_find : Cond.code ⟨"RoutingField$Table", "find", "(LRoutingField$Prefix;)LRoutingField$Route;"⟩ prog_12_method_4_code 3 (some (.object "RoutingField$Route")) ∈ pw_T := (pw_in 1003 rfl rfl)
set_option maxRecDepth 100000 in
theorem kD_Ta_find : ∀ q ∈ kC_Ta_find, decode prog_12_method_4_code q.1 = .ok (q.2, pm_len q.1 q.2) := by decide +kernel
set_option maxRecDepth 100000 in
theorem kW_Ta_find (l : Launch) (D : va_G) (base : Nat) (sa : Nat → Nat) : pm_Met l D kcl base (kZ sa) ⟨"RoutingField$Table", "find", "(LRoutingField$Prefix;)LRoutingField$Route;"⟩ (.code ⟨"RoutingField$Table", "find", "(LRoutingField$Prefix;)LRoutingField$Route;"⟩ prog_12_method_4_code 3 (some (.object "RoutingField$Route")) :: pw_T) 2 46 (kP_Ta_find base sa) := by
  refine pm_met (by decide) rfl rfl ?_
  intro mc ms p e s m args below meth c hx hb hml hown hnm hts hbs hZ
  have ht : ∀ w ∈ pw_T, w.before args s = true := fun w h => hts w (List.mem_cons_of_mem _ h)
  exact ⟨hx, hb, hown, hbs, pm_look_all kD_Ta_find, kf_ok (init := false) ht hZ kF_Ta_ok (fun h => by cases h), km_ok ht kM_Ta_ok, kci_ok ht kI_Ta_ok, kli_ok ht kJ_Ta_ok, kar_ok ht hZ kA_Ta_ok,
    pm_look_all (List.forall_mem_cons.mpr ⟨pm_cokV hbs hZ ⟨hx, hb, hml, hown, hts⟩ (kW_Ta_placeOf l D base sa) (fun mc ms => cwV 1 hts (pw_gV (pw_in 1004 (w := .methodLink "RoutingField$Table" 29 ⟨"RoutingField$Table", "placeOf", "(LRoutingField$Prefix;)I"⟩) (by decide +kernel) rfl) ki_Ta_placeOf ks_Ta_placeOf kn_Ta ko_Ta_placeOf) rfl rfl rfl (by decide +kernel) ⟨Nat.le_of_ble_eq_true rfl, Nat.le_of_ble_eq_true rfl⟩) (ci := 10) rfl, List.forall_mem_cons.mpr ⟨pm_cokV hbs hZ ⟨hx, hb, hml, hown, hts⟩ (kW_Pr_order l D base sa) (fun mc ms => cwV 1 hts (pw_gV (pw_in 1008 (w := .methodLink "RoutingField$Table" 23 ⟨"RoutingField$Prefix", "order", "(LRoutingField$Prefix;)I"⟩) (by decide +kernel) rfl) ki_Pr_order ks_Pr_order kn_Pr ko_Pr_order) rfl rfl rfl (by decide +kernel) ⟨Nat.le_of_ble_eq_true rfl, Nat.le_of_ble_eq_true rfl⟩) (ci := 5) rfl, fun _ h => absurd h List.not_mem_nil⟩⟩),
    hZ, kst_ok ht hZ (kS_Ta_ok sa), knar_ok ht, ktx_ok (kE_Ta_ok sa)⟩
set_option maxRecDepth 100000 in
theorem ki_Rr_startDeadline : Cond.instanceMethod ⟨"RoutingField$Router", "startDeadline", "(LRoutingField$Route;I)V"⟩ ∈ pw_T := (pw_in 1023 (by decide +kernel) rfl)
set_option maxRecDepth 100000 in
theorem ks_Rr_startDeadline : Cond.selects "RoutingField$Router" ⟨"RoutingField$Router", "startDeadline", "(LRoutingField$Route;I)V"⟩ ⟨"RoutingField$Router", "startDeadline", "(LRoutingField$Route;I)V"⟩ ∈ pw_T := (pw_sel 28 (q := (⟨"RoutingField$Router", "startDeadline", "(LRoutingField$Route;I)V"⟩, 20)) (by decide +kernel))
set_option maxRecDepth 100000 in
theorem ko_Rr_startDeadline : Cond.code ⟨"RoutingField$Router", "startDeadline", "(LRoutingField$Route;I)V"⟩ prog_11_method_6_code 3 none ∈ pw_T := (pw_in 1024 rfl rfl)
set_option maxRecDepth 100000 in
theorem kD_Rr_startDeadline : ∀ q ∈ kC_Rr_startDeadline, decode prog_11_method_6_code q.1 = .ok (q.2, pm_len q.1 q.2) := by decide +kernel
set_option maxRecDepth 100000 in
theorem kW_Rr_startDeadline (l : Launch) (D : va_G) (base : Nat) (sa : Nat → Nat) : pm_Met l D kcl base (kZ sa) ⟨"RoutingField$Router", "startDeadline", "(LRoutingField$Route;I)V"⟩ (.code ⟨"RoutingField$Router", "startDeadline", "(LRoutingField$Route;I)V"⟩ prog_11_method_6_code 3 none :: pw_T) 0 0 (kP_Rr_startDeadline base sa) := by
  refine pm_met (by decide) rfl rfl ?_
  intro mc ms p e s m args below meth c hx hb hml hown hnm hts hbs hZ
  have ht : ∀ w ∈ pw_T, w.before args s = true := fun w h => hts w (List.mem_cons_of_mem _ h)
  exact ⟨hx, hb, hown, hbs, pm_look_all kD_Rr_startDeadline, kf_ok (init := false) ht hZ kF_Rr_ok (fun h => by cases h), km_ok ht kM_Rr_ok, kci_ok ht kI_Rr_ok, kli_ok ht kJ_Rr_ok, kar_ok ht hZ kA_Rr_ok,
    pm_look_all (fun _ h => absurd h List.not_mem_nil),
    hZ, kst_ok ht hZ (kS_Rr_ok sa), knar_ok ht, ktx_ok (kE_Rr_ok sa)⟩
set_option maxRecDepth 100000 in
theorem ki_Rr_markChanged : Cond.instanceMethod ⟨"RoutingField$Router", "markChanged", "(LRoutingField$Route;)V"⟩ ∈ pw_T := (pw_in 1027 (by decide +kernel) rfl)
set_option maxRecDepth 100000 in
theorem ks_Rr_markChanged : Cond.selects "RoutingField$Router" ⟨"RoutingField$Router", "markChanged", "(LRoutingField$Route;)V"⟩ ⟨"RoutingField$Router", "markChanged", "(LRoutingField$Route;)V"⟩ ∈ pw_T := (pw_sel 29 (q := (⟨"RoutingField$Router", "markChanged", "(LRoutingField$Route;)V"⟩, 20)) (by decide +kernel))
set_option maxRecDepth 100000 in
theorem ko_Rr_markChanged : Cond.code ⟨"RoutingField$Router", "markChanged", "(LRoutingField$Route;)V"⟩ prog_11_method_4_code 2 none ∈ pw_T := (pw_in 1028 rfl rfl)
set_option maxRecDepth 100000 in
theorem kD_Rr_markChanged : ∀ q ∈ kC_Rr_markChanged, decode prog_11_method_4_code q.1 = .ok (q.2, pm_len q.1 q.2) := by decide +kernel
set_option maxRecDepth 100000 in
theorem kW_Rr_markChanged (l : Launch) (D : va_G) (base : Nat) (sa : Nat → Nat) : pm_Met l D kcl base (kZ sa) ⟨"RoutingField$Router", "markChanged", "(LRoutingField$Route;)V"⟩ (.code ⟨"RoutingField$Router", "markChanged", "(LRoutingField$Route;)V"⟩ prog_11_method_4_code 2 none :: pw_T) 0 0 (kP_Rr_markChanged base sa) := by
  refine pm_met (by decide) rfl rfl ?_
  intro mc ms p e s m args below meth c hx hb hml hown hnm hts hbs hZ
  have ht : ∀ w ∈ pw_T, w.before args s = true := fun w h => hts w (List.mem_cons_of_mem _ h)
  exact ⟨hx, hb, hown, hbs, pm_look_all kD_Rr_markChanged, kf_ok (init := false) ht hZ kF_Rr_ok (fun h => by cases h), km_ok ht kM_Rr_ok, kci_ok ht kI_Rr_ok, kli_ok ht kJ_Rr_ok, kar_ok ht hZ kA_Rr_ok,
    pm_look_all (fun _ h => absurd h List.not_mem_nil),
    hZ, kst_ok ht hZ (kS_Rr_ok sa), knar_ok ht, ktx_ok (kE_Rr_ok sa)⟩
set_option maxRecDepth 100000 in
theorem ki_Rr_die : Cond.instanceMethod ⟨"RoutingField$Router", "die", "(LRoutingField$Route;)V"⟩ ∈ pw_T := (pw_in 1019 (by decide +kernel) rfl)
set_option maxRecDepth 100000 in
theorem ks_Rr_die : Cond.selects "RoutingField$Router" ⟨"RoutingField$Router", "die", "(LRoutingField$Route;)V"⟩ ⟨"RoutingField$Router", "die", "(LRoutingField$Route;)V"⟩ ∈ pw_T := (pw_sel 27 (q := (⟨"RoutingField$Router", "die", "(LRoutingField$Route;)V"⟩, 20)) (by decide +kernel))
set_option maxRecDepth 100000 in
theorem ko_Rr_die : Cond.code ⟨"RoutingField$Router", "die", "(LRoutingField$Route;)V"⟩ prog_11_method_7_code 2 none ∈ pw_T := (pw_in 1020 rfl rfl)
set_option maxRecDepth 100000 in
theorem kD_Rr_die : ∀ q ∈ kC_Rr_die, decode prog_11_method_7_code q.1 = .ok (q.2, pm_len q.1 q.2) := by decide +kernel
set_option maxRecDepth 100000 in
theorem kW_Rr_die (l : Launch) (D : va_G) (base : Nat) (sa : Nat → Nat) : pm_Met l D kcl base (kZ sa) ⟨"RoutingField$Router", "die", "(LRoutingField$Route;)V"⟩ (.code ⟨"RoutingField$Router", "die", "(LRoutingField$Route;)V"⟩ prog_11_method_7_code 2 none :: pw_T) 1 22 (kP_Rr_die base sa) := by
  refine pm_met (by decide) rfl rfl ?_
  intro mc ms p e s m args below meth c hx hb hml hown hnm hts hbs hZ
  have ht : ∀ w ∈ pw_T, w.before args s = true := fun w h => hts w (List.mem_cons_of_mem _ h)
  exact ⟨hx, hb, hown, hbs, pm_look_all kD_Rr_die, kf_ok (init := false) ht hZ kF_Rr_ok (fun h => by cases h), km_ok ht kM_Rr_ok, kci_ok ht kI_Rr_ok, kli_ok ht kJ_Rr_ok, kar_ok ht hZ kA_Rr_ok,
    pm_look_all (List.forall_mem_cons.mpr ⟨pm_cokV hbs hZ ⟨hx, hb, hml, hown, hts⟩ (kW_Rr_startDeadline l D base sa) (fun mc ms => cwV 2 hts (pw_gV (pw_in 1021 (w := .methodLink "RoutingField$Router" 114 ⟨"RoutingField$Router", "startDeadline", "(LRoutingField$Route;I)V"⟩) (by decide +kernel) rfl) ki_Rr_startDeadline ks_Rr_startDeadline kn_Rr ko_Rr_startDeadline) rfl rfl rfl (by decide +kernel) ⟨Nat.le_of_ble_eq_true rfl, Nat.le_of_ble_eq_true rfl⟩) (ci := 9) rfl, List.forall_mem_cons.mpr ⟨pm_cokV hbs hZ ⟨hx, hb, hml, hown, hts⟩ (kW_Rr_markChanged l D base sa) (fun mc ms => cwV 1 hts (pw_gV (pw_in 1025 (w := .methodLink "RoutingField$Router" 124 ⟨"RoutingField$Router", "markChanged", "(LRoutingField$Route;)V"⟩) (by decide +kernel) rfl) ki_Rr_markChanged ks_Rr_markChanged kn_Rr ko_Rr_markChanged) rfl rfl rfl (by decide +kernel) ⟨Nat.le_of_ble_eq_true rfl, Nat.le_of_ble_eq_true rfl⟩) (ci := 9) rfl, fun _ h => absurd h List.not_mem_nil⟩⟩),
    hZ, kst_ok ht hZ (kS_Rr_ok sa), knar_ok ht, ktx_ok (kE_Rr_ok sa)⟩
set_option maxRecDepth 100000 in
theorem ki_Rr_lapse : Cond.instanceMethod ⟨"RoutingField$Router", "lapse", "(LRoutingField$Route;)V"⟩ ∈ pw_T := (pw_in 1015 (by decide +kernel) rfl)
set_option maxRecDepth 100000 in
theorem ks_Rr_lapse : Cond.selects "RoutingField$Router" ⟨"RoutingField$Router", "lapse", "(LRoutingField$Route;)V"⟩ ⟨"RoutingField$Router", "lapse", "(LRoutingField$Route;)V"⟩ ∈ pw_T := (pw_sel 26 (q := (⟨"RoutingField$Router", "lapse", "(LRoutingField$Route;)V"⟩, 20)) (by decide +kernel))
set_option maxRecDepth 100000 in
theorem ko_Rr_lapse : Cond.code ⟨"RoutingField$Router", "lapse", "(LRoutingField$Route;)V"⟩ prog_11_method_10_code 2 none ∈ pw_T := (pw_in 1016 rfl rfl)
set_option maxRecDepth 100000 in
theorem kD_Rr_lapse : ∀ q ∈ kC_Rr_lapse, decode prog_11_method_10_code q.1 = .ok (q.2, pm_len q.1 q.2) := by decide +kernel
set_option maxRecDepth 100000 in
theorem kW_Rr_lapse (l : Launch) (D : va_G) (base : Nat) (sa : Nat → Nat) : pm_Met l D kcl base (kZ sa) ⟨"RoutingField$Router", "lapse", "(LRoutingField$Route;)V"⟩ (.code ⟨"RoutingField$Router", "lapse", "(LRoutingField$Route;)V"⟩ prog_11_method_10_code 2 none :: pw_T) 2 43 (kP_Rr_lapse base sa) := by
  refine pm_met (by decide) rfl rfl ?_
  intro mc ms p e s m args below meth c hx hb hml hown hnm hts hbs hZ
  have ht : ∀ w ∈ pw_T, w.before args s = true := fun w h => hts w (List.mem_cons_of_mem _ h)
  exact ⟨hx, hb, hown, hbs, pm_look_all kD_Rr_lapse, kf_ok (init := false) ht hZ kF_Rr_ok (fun h => by cases h), km_ok ht kM_Rr_ok, kci_ok ht kI_Rr_ok, kli_ok ht kJ_Rr_ok, kar_ok ht hZ kA_Rr_ok,
    pm_look_all (List.forall_mem_cons.mpr ⟨pm_cokV hbs hZ ⟨hx, hb, hml, hown, hts⟩ (kW_Rr_die l D base sa) (fun mc ms => cwV 1 hts (pw_gV (pw_in 1017 (w := .methodLink "RoutingField$Router" 178 ⟨"RoutingField$Router", "die", "(LRoutingField$Route;)V"⟩) (by decide +kernel) rfl) ki_Rr_die ks_Rr_die kn_Rr ko_Rr_die) rfl rfl rfl (by decide +kernel) ⟨Nat.le_of_ble_eq_true rfl, Nat.le_of_ble_eq_true rfl⟩) (ci := 9) rfl, fun _ h => absurd h List.not_mem_nil⟩),
    hZ, kst_ok ht hZ (kS_Rr_ok sa), knar_ok ht, ktx_ok (kE_Rr_ok sa)⟩
set_option maxRecDepth 100000 in
theorem ki_Ro_init : Cond.instanceMethod ⟨"RoutingField$Route", "<init>", "()V"⟩ ∈ pw_T := (pw_in 1035 (by decide +kernel) rfl)
set_option maxRecDepth 100000 in
theorem ko_Ro_init : Cond.code ⟨"RoutingField$Route", "<init>", "()V"⟩ prog_10_method_1_code 1 none ∈ pw_T := (pw_in 1036 rfl rfl)
set_option maxRecDepth 100000 in
theorem kD_Ro_init : ∀ q ∈ kC_Ro_init, decode prog_10_method_1_code q.1 = .ok (q.2, pm_len q.1 q.2) := by decide +kernel
set_option maxRecDepth 100000 in
theorem kW_Ro_init (l : Launch) (D : va_G) (base : Nat) (sa : Nat → Nat) : pm_Met l D kcl base (kZ sa) ⟨"RoutingField$Route", "<init>", "()V"⟩ (.code ⟨"RoutingField$Route", "<init>", "()V"⟩ prog_10_method_1_code 1 none :: pw_T) 2 40 (kP_Ro_init base sa) := by
  refine pm_met (by decide) rfl rfl ?_
  intro mc ms p e s m args below meth c hx hb hml hown hnm hts hbs hZ
  have ht : ∀ w ∈ pw_T, w.before args s = true := fun w h => hts w (List.mem_cons_of_mem _ h)
  exact ⟨hx, hb, hown, hbs, pm_look_all kD_Ro_init, kf_ok (init := true) ht hZ kF_Ro_ok (fun _ => hnm), km_ok ht kM_Ro_ok, kci_ok ht kI_Ro_ok, kli_ok ht kJ_Ro_ok, kar_ok ht hZ kA_Ro_ok,
    pm_look_all (List.forall_mem_cons.mpr ⟨pm_cokO hx hb hml hown (ht _ (pw_in 1037 (by decide +kernel) rfl)) (ht _ (pw_in 31 (by decide +kernel) rfl)) (ht _ (pw_in 32 rfl rfl)) (Nat.le_of_ble_eq_true rfl) (Nat.le_of_ble_eq_true rfl), List.forall_mem_cons.mpr ⟨pm_cokI hbs hZ ⟨hx, hb, hml, hown, hts⟩ (kW_Pr_init l D base sa) (fun mc ms => cwI 0 hts (pw_gC ko_Pr_init) rfl rfl rfl (ht _ kn_Pr) (ht _ (pw_in 1039 (w := .methodLink "RoutingField$Route" 11 ⟨"RoutingField$Prefix", "<init>", "()V"⟩) (by decide +kernel) rfl)) (ht _ ki_Pr_init) rfl (by decide +kernel) ⟨Nat.le_of_ble_eq_true rfl, Nat.le_of_ble_eq_true rfl⟩), fun _ h => absurd h List.not_mem_nil⟩⟩),
    hZ, kst_ok ht hZ (kS_Ro_ok sa), knar_ok ht, ktx_ok (kE_Ro_ok sa)⟩
set_option maxRecDepth 100000 in
theorem ki_Ro_begin : Cond.instanceMethod ⟨"RoutingField$Route", "begin", "(LRoutingField$Prefix;II)V"⟩ ∈ pw_T := (pw_in 1097 (by decide +kernel) rfl)
set_option maxRecDepth 100000 in
theorem ks_Ro_begin : Cond.selects "RoutingField$Route" ⟨"RoutingField$Route", "begin", "(LRoutingField$Prefix;II)V"⟩ ⟨"RoutingField$Route", "begin", "(LRoutingField$Prefix;II)V"⟩ ∈ pw_T := (pw_in 1098 (by decide +kernel) rfl)
set_option maxRecDepth 100000 in
theorem ko_Ro_begin : Cond.code ⟨"RoutingField$Route", "begin", "(LRoutingField$Prefix;II)V"⟩ prog_10_method_2_code 5 none ∈ pw_T := (pw_in 1099 rfl rfl)
set_option maxRecDepth 100000 in
theorem kD_Ro_begin : ∀ q ∈ kC_Ro_begin, decode prog_10_method_2_code q.1 = .ok (q.2, pm_len q.1 q.2) := by decide +kernel
set_option maxRecDepth 100000 in
theorem kW_Ro_begin (l : Launch) (D : va_G) (base : Nat) (sa : Nat → Nat) : pm_Met l D kcl base (kZ sa) ⟨"RoutingField$Route", "begin", "(LRoutingField$Prefix;II)V"⟩ (.code ⟨"RoutingField$Route", "begin", "(LRoutingField$Prefix;II)V"⟩ prog_10_method_2_code 5 none :: pw_T) 1 24 (kP_Ro_begin base sa) := by
  refine pm_met (by decide) rfl rfl ?_
  intro mc ms p e s m args below meth c hx hb hml hown hnm hts hbs hZ
  have ht : ∀ w ∈ pw_T, w.before args s = true := fun w h => hts w (List.mem_cons_of_mem _ h)
  exact ⟨hx, hb, hown, hbs, pm_look_all kD_Ro_begin, kf_ok (init := false) ht hZ kF_Ro_ok (fun h => by cases h), km_ok ht kM_Ro_ok, kci_ok ht kI_Ro_ok, kli_ok ht kJ_Ro_ok, kar_ok ht hZ kA_Ro_ok,
    pm_look_all (List.forall_mem_cons.mpr ⟨pm_cokS hbs hZ ⟨hx, hb, hml, hown, hts⟩ (kW_Pr_bitsOf l D base sa) (fun mc ms => va_cwS 1 hts (pw_gS (pw_in 1100 (w := .methodLink "RoutingField$Route" 54 ⟨"RoutingField$Prefix", "bitsOf", "(I)I"⟩) (by decide +kernel) rfl) kv_Pr_bitsOf kn_Pr ko_Pr_bitsOf) rfl rfl rfl (by decide +kernel) ⟨Nat.le_of_ble_eq_true rfl, Nat.le_of_ble_eq_true rfl⟩) (Nat.le_of_ble_eq_true rfl), List.forall_mem_cons.mpr ⟨pm_cokV hbs hZ ⟨hx, hb, hml, hown, hts⟩ (kW_Pr_copy l D base sa) (fun mc ms => cwV 1 hts (pw_gV (pw_in 1101 (w := .methodLink "RoutingField$Route" 58 ⟨"RoutingField$Prefix", "copy", "(LRoutingField$Prefix;)V"⟩) (by decide +kernel) rfl) ki_Pr_copy ks_Pr_copy kn_Pr ko_Pr_copy) rfl rfl rfl (by decide +kernel) ⟨Nat.le_of_ble_eq_true rfl, Nat.le_of_ble_eq_true rfl⟩) (ci := 5) rfl, List.forall_mem_cons.mpr ⟨pm_cokV hbs hZ ⟨hx, hb, hml, hown, hts⟩ (kW_Pr_setZero l D base sa) (fun mc ms => cwV 2 hts (pw_gV (pw_in 1102 (w := .methodLink "RoutingField$Route" 62 ⟨"RoutingField$Prefix", "setZero", "(II)V"⟩) (by decide +kernel) rfl) ki_Pr_setZero ks_Pr_setZero kn_Pr ko_Pr_setZero) rfl rfl rfl (by decide +kernel) ⟨Nat.le_of_ble_eq_true rfl, Nat.le_of_ble_eq_true rfl⟩) (ci := 5) rfl, fun _ h => absurd h List.not_mem_nil⟩⟩⟩),
    hZ, kst_ok ht hZ (kS_Ro_ok sa), knar_ok ht, ktx_ok (kE_Ro_ok sa)⟩
set_option maxRecDepth 100000 in
theorem ki_Ta_add : Cond.instanceMethod ⟨"RoutingField$Table", "add", "(LRoutingField$Prefix;II)LRoutingField$Route;"⟩ ∈ pw_T := (pw_in 1030 (by decide +kernel) rfl)
set_option maxRecDepth 100000 in
theorem ks_Ta_add : Cond.selects "RoutingField$Table" ⟨"RoutingField$Table", "add", "(LRoutingField$Prefix;II)LRoutingField$Route;"⟩ ⟨"RoutingField$Table", "add", "(LRoutingField$Prefix;II)LRoutingField$Route;"⟩ ∈ pw_T := (pw_in 1031 (by decide +kernel) rfl)
set_option maxRecDepth 100000 in
theorem ko_Ta_add : Cond.code ⟨"RoutingField$Table", "add", "(LRoutingField$Prefix;II)LRoutingField$Route;"⟩ prog_12_method_5_code 7 (some (.object "RoutingField$Route")) ∈ pw_T := (pw_in 1032 rfl rfl)
set_option maxRecDepth 100000 in
theorem kD_Ta_add_0 : ∀ q ∈ kC_Ta_add_0, decode prog_12_method_5_code q.1 = .ok (q.2, pm_len q.1 q.2) := by decide +kernel
set_option maxRecDepth 100000 in
theorem kD_Ta_add_1 : ∀ q ∈ kC_Ta_add_1, decode prog_12_method_5_code q.1 = .ok (q.2, pm_len q.1 q.2) := by decide +kernel
theorem kD_Ta_add : ∀ q ∈ kC_Ta_add, decode prog_12_method_5_code q.1 = .ok (q.2, pm_len q.1 q.2) := List.forall_mem_append.mpr ⟨kD_Ta_add_0, kD_Ta_add_1⟩
set_option maxRecDepth 100000 in
theorem kW_Ta_add (l : Launch) (D : va_G) (base : Nat) (sa : Nat → Nat) : pm_Met l D kcl base (kZ sa) ⟨"RoutingField$Table", "add", "(LRoutingField$Prefix;II)LRoutingField$Route;"⟩ (.code ⟨"RoutingField$Table", "add", "(LRoutingField$Prefix;II)LRoutingField$Route;"⟩ prog_12_method_5_code 7 (some (.object "RoutingField$Route")) :: pw_T) 3 60 (kP_Ta_add base sa) := by
  refine pm_met (by decide) rfl rfl ?_
  intro mc ms p e s m args below meth c hx hb hml hown hnm hts hbs hZ
  have ht : ∀ w ∈ pw_T, w.before args s = true := fun w h => hts w (List.mem_cons_of_mem _ h)
  exact ⟨hx, hb, hown, hbs, pm_look_all kD_Ta_add, kf_ok (init := false) ht hZ kF_Ta_ok (fun h => by cases h), km_ok ht kM_Ta_ok, kci_ok ht kI_Ta_ok, kli_ok ht kJ_Ta_ok, kar_ok ht hZ kA_Ta_ok,
    pm_look_all (List.forall_mem_cons.mpr ⟨pm_cokV hbs hZ ⟨hx, hb, hml, hown, hts⟩ (kW_Ta_placeOf l D base sa) (fun mc ms => cwV 1 hts (pw_gV (pw_in 1004 (w := .methodLink "RoutingField$Table" 29 ⟨"RoutingField$Table", "placeOf", "(LRoutingField$Prefix;)I"⟩) (by decide +kernel) rfl) ki_Ta_placeOf ks_Ta_placeOf kn_Ta ko_Ta_placeOf) rfl rfl rfl (by decide +kernel) ⟨Nat.le_of_ble_eq_true rfl, Nat.le_of_ble_eq_true rfl⟩) (ci := 10) rfl, List.forall_mem_cons.mpr ⟨pm_cokI hbs hZ ⟨hx, hb, hml, hown, hts⟩ (kW_Ro_init l D base sa) (fun mc ms => cwI 0 hts (pw_gC ko_Ro_init) rfl rfl rfl (ht _ kn_Ro) (ht _ (pw_in 1034 (w := .methodLink "RoutingField$Table" 32 ⟨"RoutingField$Route", "<init>", "()V"⟩) (by decide +kernel) rfl)) (ht _ ki_Ro_init) rfl (by decide +kernel) ⟨Nat.le_of_ble_eq_true rfl, Nat.le_of_ble_eq_true rfl⟩), List.forall_mem_cons.mpr ⟨pm_cokV hbs hZ ⟨hx, hb, hml, hown, hts⟩ (kW_Ro_begin l D base sa) (fun mc ms => cwV 3 hts (pw_gV (pw_in 1096 (w := .methodLink "RoutingField$Table" 33 ⟨"RoutingField$Route", "begin", "(LRoutingField$Prefix;II)V"⟩) (by decide +kernel) rfl) ki_Ro_begin ks_Ro_begin kn_Ro ko_Ro_begin) rfl rfl rfl (by decide +kernel) ⟨Nat.le_of_ble_eq_true rfl, Nat.le_of_ble_eq_true rfl⟩) (ci := 8) rfl, fun _ h => absurd h List.not_mem_nil⟩⟩⟩),
    hZ, kst_ok ht hZ (kS_Ta_ok sa), knar_ok ht, ktx_ok (kE_Ta_ok sa)⟩
set_option maxRecDepth 100000 in
theorem ki_Pr_isZero : Cond.instanceMethod ⟨"RoutingField$Prefix", "isZero", "()Z"⟩ ∈ pw_T := (pw_in 1108 (by decide +kernel) rfl)
set_option maxRecDepth 100000 in
theorem ks_Pr_isZero : Cond.selects "RoutingField$Prefix" ⟨"RoutingField$Prefix", "isZero", "()Z"⟩ ⟨"RoutingField$Prefix", "isZero", "()Z"⟩ ∈ pw_T := (pw_in 1109 (by decide +kernel) rfl)
set_option maxRecDepth 100000 in
theorem ko_Pr_isZero : Cond.code ⟨"RoutingField$Prefix", "isZero", "()Z"⟩ prog_7_method_7_code 1 (some .boolean) ∈ pw_T := (pw_in 1110 rfl rfl)
set_option maxRecDepth 100000 in
theorem kD_Pr_isZero : ∀ q ∈ kC_Pr_isZero, decode prog_7_method_7_code q.1 = .ok (q.2, pm_len q.1 q.2) := by decide +kernel
set_option maxRecDepth 100000 in
theorem kW_Pr_isZero (l : Launch) (D : va_G) (base : Nat) (sa : Nat → Nat) : pm_Met l D kcl base (kZ sa) ⟨"RoutingField$Prefix", "isZero", "()Z"⟩ (.code ⟨"RoutingField$Prefix", "isZero", "()Z"⟩ prog_7_method_7_code 1 (some .boolean) :: pw_T) 0 0 (kP_Pr_isZero base sa) := by
  refine pm_met (by decide) rfl rfl ?_
  intro mc ms p e s m args below meth c hx hb hml hown hnm hts hbs hZ
  have ht : ∀ w ∈ pw_T, w.before args s = true := fun w h => hts w (List.mem_cons_of_mem _ h)
  exact ⟨hx, hb, hown, hbs, pm_look_all kD_Pr_isZero, kf_ok (init := false) ht hZ kF_Pr_ok (fun h => by cases h), km_ok ht kM_Pr_ok, kci_ok ht kI_Pr_ok, kli_ok ht kJ_Pr_ok, kar_ok ht hZ kA_Pr_ok,
    pm_look_all (fun _ h => absurd h List.not_mem_nil),
    hZ, kst_ok ht hZ (kS_Pr_ok sa), knar_ok ht, ktx_ok (kE_Pr_ok sa)⟩
set_option maxRecDepth 100000 in
theorem ki_Ro_becomeOwn : Cond.instanceMethod ⟨"RoutingField$Route", "becomeOwn", "(IIILRoutingField$Port;)Z"⟩ ∈ pw_T := (pw_in 1104 (by decide +kernel) rfl)
set_option maxRecDepth 100000 in
theorem ks_Ro_becomeOwn : Cond.selects "RoutingField$Route" ⟨"RoutingField$Route", "becomeOwn", "(IIILRoutingField$Port;)Z"⟩ ⟨"RoutingField$Route", "becomeOwn", "(IIILRoutingField$Port;)Z"⟩ ∈ pw_T := (pw_in 1105 (by decide +kernel) rfl)
set_option maxRecDepth 100000 in
theorem ko_Ro_becomeOwn : Cond.code ⟨"RoutingField$Route", "becomeOwn", "(IIILRoutingField$Port;)Z"⟩ prog_10_method_3_code 6 (some .boolean) ∈ pw_T := (pw_in 1106 rfl rfl)
set_option maxRecDepth 100000 in
theorem kD_Ro_becomeOwn : ∀ q ∈ kC_Ro_becomeOwn, decode prog_10_method_3_code q.1 = .ok (q.2, pm_len q.1 q.2) := by decide +kernel
set_option maxRecDepth 100000 in
theorem kW_Ro_becomeOwn (l : Launch) (D : va_G) (base : Nat) (sa : Nat → Nat) : pm_Met l D kcl base (kZ sa) ⟨"RoutingField$Route", "becomeOwn", "(IIILRoutingField$Port;)Z"⟩ (.code ⟨"RoutingField$Route", "becomeOwn", "(IIILRoutingField$Port;)Z"⟩ prog_10_method_3_code 6 (some .boolean) :: pw_T) 1 24 (kP_Ro_becomeOwn base sa) := by
  refine pm_met (by decide) rfl rfl ?_
  intro mc ms p e s m args below meth c hx hb hml hown hnm hts hbs hZ
  have ht : ∀ w ∈ pw_T, w.before args s = true := fun w h => hts w (List.mem_cons_of_mem _ h)
  exact ⟨hx, hb, hown, hbs, pm_look_all kD_Ro_becomeOwn, kf_ok (init := false) ht hZ kF_Ro_ok (fun h => by cases h), km_ok ht kM_Ro_ok, kci_ok ht kI_Ro_ok, kli_ok ht kJ_Ro_ok, kar_ok ht hZ kA_Ro_ok,
    pm_look_all (List.forall_mem_cons.mpr ⟨pm_cokV hbs hZ ⟨hx, hb, hml, hown, hts⟩ (kW_Pr_isZero l D base sa) (fun mc ms => cwV 0 hts (pw_gV (pw_in 1107 (w := .methodLink "RoutingField$Route" 66 ⟨"RoutingField$Prefix", "isZero", "()Z"⟩) (by decide +kernel) rfl) ki_Pr_isZero ks_Pr_isZero kn_Pr ko_Pr_isZero) rfl rfl rfl (by decide +kernel) ⟨Nat.le_of_ble_eq_true rfl, Nat.le_of_ble_eq_true rfl⟩) (ci := 5) rfl, List.forall_mem_cons.mpr ⟨pm_cokS hbs hZ ⟨hx, hb, hml, hown, hts⟩ (kW_Pr_bitsOf l D base sa) (fun mc ms => va_cwS 1 hts (pw_gS (pw_in 1100 (w := .methodLink "RoutingField$Route" 54 ⟨"RoutingField$Prefix", "bitsOf", "(I)I"⟩) (by decide +kernel) rfl) kv_Pr_bitsOf kn_Pr ko_Pr_bitsOf) rfl rfl rfl (by decide +kernel) ⟨Nat.le_of_ble_eq_true rfl, Nat.le_of_ble_eq_true rfl⟩) (Nat.le_of_ble_eq_true rfl), List.forall_mem_cons.mpr ⟨pm_cokV hbs hZ ⟨hx, hb, hml, hown, hts⟩ (kW_Pr_setZero l D base sa) (fun mc ms => cwV 2 hts (pw_gV (pw_in 1102 (w := .methodLink "RoutingField$Route" 62 ⟨"RoutingField$Prefix", "setZero", "(II)V"⟩) (by decide +kernel) rfl) ki_Pr_setZero ks_Pr_setZero kn_Pr ko_Pr_setZero) rfl rfl rfl (by decide +kernel) ⟨Nat.le_of_ble_eq_true rfl, Nat.le_of_ble_eq_true rfl⟩) (ci := 5) rfl, fun _ h => absurd h List.not_mem_nil⟩⟩⟩),
    hZ, kst_ok ht hZ (kS_Ro_ok sa), knar_ok ht, ktx_ok (kE_Ro_ok sa)⟩
