set_option maxRecDepth 100000 in
theorem ki_Rr_init : Cond.instanceMethod ⟨"RoutingField$Router", "<init>", "(LRoutingField;Ljava/lang/String;I)V"⟩ ∈ pw_T := (pw_in 599 (by decide +kernel) rfl)
set_option maxRecDepth 100000 in
theorem ko_Rr_init : Cond.code ⟨"RoutingField$Router", "<init>", "(LRoutingField;Ljava/lang/String;I)V"⟩ prog_11_method_1_code 4 none ∈ pw_T := (pw_in 600 rfl rfl)
set_option maxRecDepth 100000 in
theorem kD_Rr_init_0 : ∀ q ∈ kC_Rr_init_0, decode prog_11_method_1_code q.1 = .ok (q.2, pm_len q.1 q.2) := by decide +kernel
set_option maxRecDepth 100000 in
theorem kD_Rr_init_1 : ∀ q ∈ kC_Rr_init_1, decode prog_11_method_1_code q.1 = .ok (q.2, pm_len q.1 q.2) := by decide +kernel
set_option maxRecDepth 100000 in
theorem kD_Rr_init_2 : ∀ q ∈ kC_Rr_init_2, decode prog_11_method_1_code q.1 = .ok (q.2, pm_len q.1 q.2) := by decide +kernel
theorem kD_Rr_init : ∀ q ∈ kC_Rr_init, decode prog_11_method_1_code q.1 = .ok (q.2, pm_len q.1 q.2) := List.forall_mem_append.mpr ⟨kD_Rr_init_0, List.forall_mem_append.mpr ⟨kD_Rr_init_1, kD_Rr_init_2⟩⟩
set_option maxRecDepth 100000 in
theorem kW_Rr_init (l : Launch) (D : va_G) (base : Nat) (sa : Nat → Nat) : pm_Met l D kcl base (kZ sa) ⟨"RoutingField$Router", "<init>", "(LRoutingField;Ljava/lang/String;I)V"⟩ (.code ⟨"RoutingField$Router", "<init>", "(LRoutingField;Ljava/lang/String;I)V"⟩ prog_11_method_1_code 4 none :: pw_T) 2 48 (kP_Rr_init base sa) := by
  refine pm_met (by decide) rfl rfl ?_
  intro mc ms p e s m args below meth c hx hb hml hown hnm hts hbs hZ
  have ht : ∀ w ∈ pw_T, w.before args s = true := fun w h => hts w (List.mem_cons_of_mem _ h)
  exact ⟨hx, hb, hown, hbs, pm_look_all kD_Rr_init, kf_ok (init := true) ht hZ kF_Rr_ok (fun _ => hnm), km_ok ht kM_Rr_ok, kci_ok ht kI_Rr_ok, kli_ok ht kJ_Rr_ok, kar_ok ht hZ kA_Rr_ok,
    pm_look_all (List.forall_mem_cons.mpr ⟨pm_cokO hx hb hml hown (ht _ (pw_in 601 (by decide +kernel) rfl)) (ht _ (pw_in 31 (by decide +kernel) rfl)) (ht _ (pw_in 32 rfl rfl)) (Nat.le_of_ble_eq_true rfl) (Nat.le_of_ble_eq_true rfl), List.forall_mem_cons.mpr ⟨pm_cokI hbs hZ ⟨hx, hb, hml, hown, hts⟩ (kW_Ta_init l D base sa) (fun mc ms => cwI 0 hts (pw_gC ko_Ta_init) rfl rfl rfl (ht _ kn_Ta) (ht _ (pw_in 605 (w := .methodLink "RoutingField$Router" 27 ⟨"RoutingField$Table", "<init>", "()V"⟩) (by decide +kernel) rfl)) (ht _ ki_Ta_init) rfl (by decide +kernel) ⟨Nat.le_of_ble_eq_true rfl, Nat.le_of_ble_eq_true rfl⟩), List.forall_mem_cons.mpr ⟨pm_cokI hbs hZ ⟨hx, hb, hml, hown, hts⟩ (kW_Pl_init l D base sa) (fun mc ms => cwI 2 hts (pw_gC ko_Pl_init) rfl rfl rfl (ht _ kn_Pl) (ht _ (pw_in 611 (w := .methodLink "RoutingField$Router" 87 ⟨"RoutingField$PrefixList", "<init>", "(Ljava/lang/String;I)V"⟩) (by decide +kernel) rfl)) (ht _ ki_Pl_init) rfl (by decide +kernel) ⟨Nat.le_of_ble_eq_true rfl, Nat.le_of_ble_eq_true rfl⟩), List.forall_mem_cons.mpr ⟨pm_cokMu hbs hx hb hown (ht _ (pw_in 607 (w := .classLink "RoutingField$Router" 41 ("[" ++ (FieldType.array .int).toString)) (by decide +kernel) rfl)) (hZ.2.2.2.2.2 _ (List.mem_of_getElem? (i := 1) rfl)) (ht _ (pw_in 346 (by decide +kernel) rfl)) (by decide) rfl rfl rfl (fun _ h => h), fun _ h => absurd h List.not_mem_nil⟩⟩⟩⟩),
    hZ, kst_ok ht hZ (kS_Rr_ok sa), knar_ok ht, ktx_ok (kE_Rr_ok sa)⟩
set_option maxRecDepth 100000 in
theorem ki_Re_routerLine : Cond.instanceMethod ⟨"RoutingField$Reader", "routerLine", "()I"⟩ ∈ pw_T := (pw_in 590 (by decide +kernel) rfl)
set_option maxRecDepth 100000 in
theorem ks_Re_routerLine : Cond.selects "RoutingField$Reader" ⟨"RoutingField$Reader", "routerLine", "()I"⟩ ⟨"RoutingField$Reader", "routerLine", "()I"⟩ ∈ pw_T := (pw_sel 9 (q := (⟨"RoutingField$Reader", "routerLine", "()I"⟩, 12)) (by decide +kernel))
set_option maxRecDepth 100000 in
theorem ko_Re_routerLine : Cond.code ⟨"RoutingField$Reader", "routerLine", "()I"⟩ prog_9_method_19_code 1 (some .int) ∈ pw_T := (pw_in 591 rfl rfl)
set_option maxRecDepth 100000 in
theorem kD_Re_routerLine : ∀ q ∈ kC_Re_routerLine, decode prog_9_method_19_code q.1 = .ok (q.2, pm_len q.1 q.2) := by decide +kernel
set_option maxRecDepth 100000 in
theorem kW_Re_routerLine (l : Launch) (D : va_G) (base : Nat) (sa : Nat → Nat) : pm_Met l D kcl base (kZ sa) ⟨"RoutingField$Reader", "routerLine", "()I"⟩ (.code ⟨"RoutingField$Reader", "routerLine", "()I"⟩ prog_9_method_19_code 1 (some .int) :: pw_T) 8 207 (kP_Re_routerLine base sa) := by
  refine pm_met (by decide) rfl rfl ?_
  intro mc ms p e s m args below meth c hx hb hml hown hnm hts hbs hZ
  have ht : ∀ w ∈ pw_T, w.before args s = true := fun w h => hts w (List.mem_cons_of_mem _ h)
  exact ⟨hx, hb, hown, hbs, pm_look_all kD_Re_routerLine, kf_ok (init := false) ht hZ kF_Re_ok (fun h => by cases h), km_ok ht kM_Re_ok, kci_ok ht kI_Re_ok, kli_ok ht kJ_Re_ok, kar_ok ht hZ kA_Re_ok,
    pm_look_all (List.forall_mem_cons.mpr ⟨pm_cokV hbs hZ ⟨hx, hb, hml, hown, hts⟩ (kW_Re_isName l D base sa) (fun mc ms => cwV 1 hts (pw_gV (pw_in 464 (w := .methodLink "RoutingField$Reader" 252 ⟨"RoutingField$Reader", "isName", "(I)Z"⟩) (by decide +kernel) rfl) ki_Re_isName ks_Re_isName kn_Re ko_Re_isName) rfl rfl rfl (by decide +kernel) ⟨Nat.le_of_ble_eq_true rfl, Nat.le_of_ble_eq_true rfl⟩) (ci := 7) rfl, List.forall_mem_cons.mpr ⟨pm_cokV hbs hZ ⟨hx, hb, hml, hown, hts⟩ (kW_Re_routerNamed l D base sa) (fun mc ms => cwV 1 hts (pw_gV (pw_in 592 (w := .methodLink "RoutingField$Reader" 227 ⟨"RoutingField$Reader", "routerNamed", "(I)LRoutingField$Router;"⟩) (by decide +kernel) rfl) ki_Re_routerNamed ks_Re_routerNamed kn_Re ko_Re_routerNamed) rfl rfl rfl (by decide +kernel) ⟨Nat.le_of_ble_eq_true rfl, Nat.le_of_ble_eq_true rfl⟩) (ci := 7) rfl, List.forall_mem_cons.mpr ⟨pm_cokV hbs hZ ⟨hx, hb, hml, hown, hts⟩ (kW_Re_nameAt l D base sa) (fun mc ms => cwV 1 hts (pw_gV (pw_in 478 (w := .methodLink "RoutingField$Reader" 259 ⟨"RoutingField$Reader", "nameAt", "(I)Ljava/lang/String;"⟩) (by decide +kernel) rfl) ki_Re_nameAt ks_Re_nameAt kn_Re ko_Re_nameAt) rfl rfl rfl (by decide +kernel) ⟨Nat.le_of_ble_eq_true rfl, Nat.le_of_ble_eq_true rfl⟩) (ci := 7) rfl, List.forall_mem_cons.mpr ⟨pm_cokI hbs hZ ⟨hx, hb, hml, hown, hts⟩ (kW_Rr_init l D base sa) (fun mc ms => cwI 3 hts (pw_gC ko_Rr_init) rfl rfl rfl (ht _ kn_Rr) (ht _ (pw_in 598 (w := .methodLink "RoutingField$Reader" 266 ⟨"RoutingField$Router", "<init>", "(LRoutingField;Ljava/lang/String;I)V"⟩) (by decide +kernel) rfl)) (ht _ ki_Rr_init) rfl (by decide +kernel) ⟨Nat.le_of_ble_eq_true rfl, Nat.le_of_ble_eq_true rfl⟩), fun _ h => absurd h List.not_mem_nil⟩⟩⟩⟩),
    hZ, kst_ok ht hZ (kS_Re_ok sa), knar_ok ht, ktx_ok (kE_Re_ok sa)⟩
set_option maxRecDepth 100000 in
theorem ki_Re_joinOption : Cond.instanceMethod ⟨"RoutingField$Reader", "joinOption", "(I)I"⟩ ∈ pw_T := (pw_in 745 (by decide +kernel) rfl)
set_option maxRecDepth 100000 in
theorem ks_Re_joinOption : Cond.selects "RoutingField$Reader" ⟨"RoutingField$Reader", "joinOption", "(I)I"⟩ ⟨"RoutingField$Reader", "joinOption", "(I)I"⟩ ∈ pw_T := (pw_sel 13 (q := (⟨"RoutingField$Reader", "joinOption", "(I)I"⟩, 12)) (by decide +kernel))
set_option maxRecDepth 100000 in
theorem ko_Re_joinOption : Cond.code ⟨"RoutingField$Reader", "joinOption", "(I)I"⟩ prog_9_method_21_code 2 (some .int) ∈ pw_T := (pw_in 746 rfl rfl)
set_option maxRecDepth 100000 in
theorem kD_Re_joinOption : ∀ q ∈ kC_Re_joinOption, decode prog_9_method_21_code q.1 = .ok (q.2, pm_len q.1 q.2) := by decide +kernel
set_option maxRecDepth 100000 in
theorem kW_Re_joinOption (l : Launch) (D : va_G) (base : Nat) (sa : Nat → Nat) : pm_Met l D kcl base (kZ sa) ⟨"RoutingField$Reader", "joinOption", "(I)I"⟩ (.code ⟨"RoutingField$Reader", "joinOption", "(I)I"⟩ prog_9_method_21_code 2 (some .int) :: pw_T) 6 145 (kP_Re_joinOption base sa) := by
  refine pm_met (by decide) rfl rfl ?_
  intro mc ms p e s m args below meth c hx hb hml hown hnm hts hbs hZ
  have ht : ∀ w ∈ pw_T, w.before args s = true := fun w h => hts w (List.mem_cons_of_mem _ h)
  exact ⟨hx, hb, hown, hbs, pm_look_all kD_Re_joinOption, kf_ok (init := false) ht hZ kF_Re_ok (fun h => by cases h), km_ok ht kM_Re_ok, kci_ok ht kI_Re_ok, kli_ok ht kJ_Re_ok, kar_ok ht hZ kA_Re_ok,
    pm_look_all (List.forall_mem_cons.mpr ⟨pm_cokV hbs hZ ⟨hx, hb, hml, hown, hts⟩ (kW_Re_is l D base sa) (fun mc ms => cwV 2 hts (pw_gV (pw_in 398 (w := .methodLink "RoutingField$Reader" 76 ⟨"RoutingField$Reader", "is", "(ILjava/lang/String;)Z"⟩) (by decide +kernel) rfl) ki_Re_is ks_Re_is kn_Re ko_Re_is) rfl rfl rfl (by decide +kernel) ⟨Nat.le_of_ble_eq_true rfl, Nat.le_of_ble_eq_true rfl⟩) (ci := 7) rfl, fun _ h => absurd h List.not_mem_nil⟩),
    hZ, kst_ok ht hZ (kS_Re_ok sa), knar_ok ht, ktx_ok (kE_Re_ok sa)⟩
set_option maxRecDepth 100000 in
theorem ki_Re_splitAt : Cond.instanceMethod ⟨"RoutingField$Reader", "splitAt", "(I)I"⟩ ∈ pw_T := (pw_in 755 (by decide +kernel) rfl)
set_option maxRecDepth 100000 in
theorem ks_Re_splitAt : Cond.selects "RoutingField$Reader" ⟨"RoutingField$Reader", "splitAt", "(I)I"⟩ ⟨"RoutingField$Reader", "splitAt", "(I)I"⟩ ∈ pw_T := (pw_sel 14 (q := (⟨"RoutingField$Reader", "splitAt", "(I)I"⟩, 12)) (by decide +kernel))
set_option maxRecDepth 100000 in
theorem ko_Re_splitAt : Cond.code ⟨"RoutingField$Reader", "splitAt", "(I)I"⟩ prog_9_method_23_code 2 (some .int) ∈ pw_T := (pw_in 756 rfl rfl)
set_option maxRecDepth 100000 in
theorem kD_Re_splitAt : ∀ q ∈ kC_Re_splitAt, decode prog_9_method_23_code q.1 = .ok (q.2, pm_len q.1 q.2) := by decide +kernel
set_option maxRecDepth 100000 in
theorem kW_Re_splitAt (l : Launch) (D : va_G) (base : Nat) (sa : Nat → Nat) : pm_Met l D kcl base (kZ sa) ⟨"RoutingField$Reader", "splitAt", "(I)I"⟩ (.code ⟨"RoutingField$Reader", "splitAt", "(I)I"⟩ prog_9_method_23_code 2 (some .int) :: pw_T) 6 145 (kP_Re_splitAt base sa) := by
  refine pm_met (by decide) rfl rfl ?_
  intro mc ms p e s m args below meth c hx hb hml hown hnm hts hbs hZ
  have ht : ∀ w ∈ pw_T, w.before args s = true := fun w h => hts w (List.mem_cons_of_mem _ h)
  exact ⟨hx, hb, hown, hbs, pm_look_all kD_Re_splitAt, kf_ok (init := false) ht hZ kF_Re_ok (fun h => by cases h), km_ok ht kM_Re_ok, kci_ok ht kI_Re_ok, kli_ok ht kJ_Re_ok, kar_ok ht hZ kA_Re_ok,
    pm_look_all (List.forall_mem_cons.mpr ⟨pm_cokV hbs hZ ⟨hx, hb, hml, hown, hts⟩ (kW_Re_is l D base sa) (fun mc ms => cwV 2 hts (pw_gV (pw_in 398 (w := .methodLink "RoutingField$Reader" 76 ⟨"RoutingField$Reader", "is", "(ILjava/lang/String;)Z"⟩) (by decide +kernel) rfl) ki_Re_is ks_Re_is kn_Re ko_Re_is) rfl rfl rfl (by decide +kernel) ⟨Nat.le_of_ble_eq_true rfl, Nat.le_of_ble_eq_true rfl⟩) (ci := 7) rfl, fun _ h => absurd h List.not_mem_nil⟩),
    hZ, kst_ok ht hZ (kS_Re_ok sa), knar_ok ht, ktx_ok (kE_Re_ok sa)⟩
set_option maxRecDepth 100000 in
theorem kv_Re_optionSize : Cond.static ⟨"RoutingField$Reader", "optionSize", "(I)I"⟩ ∈ pw_T := (pw_in 761 (by decide +kernel) rfl)
set_option maxRecDepth 100000 in
theorem ko_Re_optionSize : Cond.code ⟨"RoutingField$Reader", "optionSize", "(I)I"⟩ prog_9_method_22_code 1 (some .int) ∈ pw_T := (pw_in 762 rfl rfl)
set_option maxRecDepth 100000 in
theorem kD_Re_optionSize : ∀ q ∈ kC_Re_optionSize, decode prog_9_method_22_code q.1 = .ok (q.2, pm_len q.1 q.2) := by decide +kernel
set_option maxRecDepth 100000 in
theorem kW_Re_optionSize (l : Launch) (D : va_G) (base : Nat) (sa : Nat → Nat) : pm_Met l D kcl base (kZ sa) ⟨"RoutingField$Reader", "optionSize", "(I)I"⟩ (.code ⟨"RoutingField$Reader", "optionSize", "(I)I"⟩ prog_9_method_22_code 1 (some .int) :: pw_T) 0 0 (kP_Re_optionSize base sa) := by
  refine pm_met (by decide) rfl rfl ?_
  intro mc ms p e s m args below meth c hx hb hml hown hnm hts hbs hZ
  have ht : ∀ w ∈ pw_T, w.before args s = true := fun w h => hts w (List.mem_cons_of_mem _ h)
  exact ⟨hx, hb, hown, hbs, pm_look_all kD_Re_optionSize, kf_ok (init := false) ht hZ kF_Re_ok (fun h => by cases h), km_ok ht kM_Re_ok, kci_ok ht kI_Re_ok, kli_ok ht kJ_Re_ok, kar_ok ht hZ kA_Re_ok,
    pm_look_all (fun _ h => absurd h List.not_mem_nil),
    hZ, kst_ok ht hZ (kS_Re_ok sa), knar_ok ht, ktx_ok (kE_Re_ok sa)⟩
set_option maxRecDepth 100000 in
theorem ki_Re_hasJoinOptions : Cond.instanceMethod ⟨"RoutingField$Reader", "hasJoinOptions", "()Z"⟩ ∈ pw_T := (pw_in 741 (by decide +kernel) rfl)
set_option maxRecDepth 100000 in
theorem ks_Re_hasJoinOptions : Cond.selects "RoutingField$Reader" ⟨"RoutingField$Reader", "hasJoinOptions", "()Z"⟩ ⟨"RoutingField$Reader", "hasJoinOptions", "()Z"⟩ ∈ pw_T := (pw_sel 12 (q := (⟨"RoutingField$Reader", "hasJoinOptions", "()Z"⟩, 12)) (by decide +kernel))
set_option maxRecDepth 100000 in
theorem ko_Re_hasJoinOptions : Cond.code ⟨"RoutingField$Reader", "hasJoinOptions", "()Z"⟩ prog_9_method_24_code 4 (some .boolean) ∈ pw_T := (pw_in 742 rfl rfl)
set_option maxRecDepth 100000 in
theorem kD_Re_hasJoinOptions : ∀ q ∈ kC_Re_hasJoinOptions, decode prog_9_method_24_code q.1 = .ok (q.2, pm_len q.1 q.2) := by decide +kernel
set_option maxRecDepth 100000 in
theorem kW_Re_hasJoinOptions (l : Launch) (D : va_G) (base : Nat) (sa : Nat → Nat) : pm_Met l D kcl base (kZ sa) ⟨"RoutingField$Reader", "hasJoinOptions", "()Z"⟩ (.code ⟨"RoutingField$Reader", "hasJoinOptions", "()Z"⟩ prog_9_method_24_code 4 (some .boolean) :: pw_T) 7 166 (kP_Re_hasJoinOptions base sa) := by
  refine pm_met (by decide) rfl rfl ?_
  intro mc ms p e s m args below meth c hx hb hml hown hnm hts hbs hZ
  have ht : ∀ w ∈ pw_T, w.before args s = true := fun w h => hts w (List.mem_cons_of_mem _ h)
  exact ⟨hx, hb, hown, hbs, pm_look_all kD_Re_hasJoinOptions, kf_ok (init := false) ht hZ kF_Re_ok (fun h => by cases h), km_ok ht kM_Re_ok, kci_ok ht kI_Re_ok, kli_ok ht kJ_Re_ok, kar_ok ht hZ kA_Re_ok,
    pm_look_all (List.forall_mem_cons.mpr ⟨pm_cokV hbs hZ ⟨hx, hb, hml, hown, hts⟩ (kW_Re_joinOption l D base sa) (fun mc ms => cwV 1 hts (pw_gV (pw_in 743 (w := .methodLink "RoutingField$Reader" 327 ⟨"RoutingField$Reader", "joinOption", "(I)I"⟩) (by decide +kernel) rfl) ki_Re_joinOption ks_Re_joinOption kn_Re ko_Re_joinOption) rfl rfl rfl (by decide +kernel) ⟨Nat.le_of_ble_eq_true rfl, Nat.le_of_ble_eq_true rfl⟩) (ci := 7) rfl, List.forall_mem_cons.mpr ⟨pm_cokV hbs hZ ⟨hx, hb, hml, hown, hts⟩ (kW_Re_splitAt l D base sa) (fun mc ms => cwV 1 hts (pw_gV (pw_in 753 (w := .methodLink "RoutingField$Reader" 330 ⟨"RoutingField$Reader", "splitAt", "(I)I"⟩) (by decide +kernel) rfl) ki_Re_splitAt ks_Re_splitAt kn_Re ko_Re_splitAt) rfl rfl rfl (by decide +kernel) ⟨Nat.le_of_ble_eq_true rfl, Nat.le_of_ble_eq_true rfl⟩) (ci := 7) rfl, List.forall_mem_cons.mpr ⟨pm_cokS hbs hZ ⟨hx, hb, hml, hown, hts⟩ (kW_Re_optionSize l D base sa) (fun mc ms => va_cwS 1 hts (pw_gS (pw_in 760 (w := .methodLink "RoutingField$Reader" 333 ⟨"RoutingField$Reader", "optionSize", "(I)I"⟩) (by decide +kernel) rfl) kv_Re_optionSize kn_Re ko_Re_optionSize) rfl rfl rfl (by decide +kernel) ⟨Nat.le_of_ble_eq_true rfl, Nat.le_of_ble_eq_true rfl⟩) (Nat.le_of_ble_eq_true rfl), fun _ h => absurd h List.not_mem_nil⟩⟩⟩),
    hZ, kst_ok ht hZ (kS_Re_ok sa), knar_ok ht, ktx_ok (kE_Re_ok sa)⟩
set_option maxRecDepth 100000 in
theorem ki_Rf_linkAt : Cond.instanceMethod ⟨"RoutingField", "linkAt", "(I)LRoutingField$Link;"⟩ ∈ pw_T := (pw_in 765 (by decide +kernel) rfl)
set_option maxRecDepth 100000 in
theorem ks_Rf_linkAt : Cond.selects "RoutingField" ⟨"RoutingField", "linkAt", "(I)LRoutingField$Link;"⟩ ⟨"RoutingField", "linkAt", "(I)LRoutingField$Link;"⟩ ∈ pw_T := (pw_sel 15 (q := (⟨"RoutingField", "linkAt", "(I)LRoutingField$Link;"⟩, 20)) (by decide +kernel))
set_option maxRecDepth 100000 in
theorem ko_Rf_linkAt : Cond.code ⟨"RoutingField", "linkAt", "(I)LRoutingField$Link;"⟩ prog_1_method_21_code 2 (some (.object "RoutingField$Link")) ∈ pw_T := (pw_in 766 rfl rfl)
set_option maxRecDepth 100000 in
theorem kD_Rf_linkAt : ∀ q ∈ kC_Rf_linkAt, decode prog_1_method_21_code q.1 = .ok (q.2, pm_len q.1 q.2) := by decide +kernel
set_option maxRecDepth 100000 in
theorem kW_Rf_linkAt (l : Launch) (D : va_G) (base : Nat) (sa : Nat → Nat) : pm_Met l D kcl base (kZ sa) ⟨"RoutingField", "linkAt", "(I)LRoutingField$Link;"⟩ (.code ⟨"RoutingField", "linkAt", "(I)LRoutingField$Link;"⟩ prog_1_method_21_code 2 (some (.object "RoutingField$Link")) :: pw_T) 0 0 (kP_Rf_linkAt base sa) := by
  refine pm_met (by decide) rfl rfl ?_
  intro mc ms p e s m args below meth c hx hb hml hown hnm hts hbs hZ
  have ht : ∀ w ∈ pw_T, w.before args s = true := fun w h => hts w (List.mem_cons_of_mem _ h)
  exact ⟨hx, hb, hown, hbs, pm_look_all kD_Rf_linkAt, kf_ok (init := false) ht hZ kF_Rf_ok (fun h => by cases h), km_ok ht kM_Rf_ok, kci_ok ht kI_Rf_ok, kli_ok ht kJ_Rf_ok, kar_ok ht hZ kA_Rf_ok,
    pm_look_all (fun _ h => absurd h List.not_mem_nil),
    hZ, kst_ok ht hZ (kS_Rf_ok sa), knar_ok ht, ktx_ok (kE_Rf_ok sa)⟩
set_option maxRecDepth 100000 in
theorem ki_Pr_setZero : Cond.instanceMethod ⟨"RoutingField$Prefix", "setZero", "(II)V"⟩ ∈ pw_T := (pw_in 781 (by decide +kernel) rfl)
set_option maxRecDepth 100000 in
theorem ks_Pr_setZero : Cond.selects "RoutingField$Prefix" ⟨"RoutingField$Prefix", "setZero", "(II)V"⟩ ⟨"RoutingField$Prefix", "setZero", "(II)V"⟩ ∈ pw_T := (pw_in 782 (by decide +kernel) rfl)
set_option maxRecDepth 100000 in
theorem ko_Pr_setZero : Cond.code ⟨"RoutingField$Prefix", "setZero", "(II)V"⟩ prog_7_method_6_code 3 none ∈ pw_T := (pw_in 783 rfl rfl)
set_option maxRecDepth 100000 in
theorem kD_Pr_setZero : ∀ q ∈ kC_Pr_setZero, decode prog_7_method_6_code q.1 = .ok (q.2, pm_len q.1 q.2) := by decide +kernel
set_option maxRecDepth 100000 in
theorem kW_Pr_setZero (l : Launch) (D : va_G) (base : Nat) (sa : Nat → Nat) : pm_Met l D kcl base (kZ sa) ⟨"RoutingField$Prefix", "setZero", "(II)V"⟩ (.code ⟨"RoutingField$Prefix", "setZero", "(II)V"⟩ prog_7_method_6_code 3 none :: pw_T) 0 0 (kP_Pr_setZero base sa) := by
  refine pm_met (by decide) rfl rfl ?_
  intro mc ms p e s m args below meth c hx hb hml hown hnm hts hbs hZ
  have ht : ∀ w ∈ pw_T, w.before args s = true := fun w h => hts w (List.mem_cons_of_mem _ h)
  exact ⟨hx, hb, hown, hbs, pm_look_all kD_Pr_setZero, kf_ok (init := false) ht hZ kF_Pr_ok (fun h => by cases h), km_ok ht kM_Pr_ok, kci_ok ht kI_Pr_ok, kli_ok ht kJ_Pr_ok, kar_ok ht hZ kA_Pr_ok,
    pm_look_all (fun _ h => absurd h List.not_mem_nil),
    hZ, kst_ok ht hZ (kS_Pr_ok sa), knar_ok ht, ktx_ok (kE_Pr_ok sa)⟩
set_option maxRecDepth 100000 in
theorem kv_Pr_hexNumber : Cond.static ⟨"RoutingField$Prefix", "hexNumber", "(LRoutingField$Bytes;II)I"⟩ ∈ pw_T := (pw_in 785 (by decide +kernel) rfl)
set_option maxRecDepth 100000 in
theorem ko_Pr_hexNumber : Cond.code ⟨"RoutingField$Prefix", "hexNumber", "(LRoutingField$Bytes;II)I"⟩ prog_7_method_23_code 6 (some .int) ∈ pw_T := (pw_in 786 rfl rfl)
set_option maxRecDepth 100000 in
theorem kD_Pr_hexNumber : ∀ q ∈ kC_Pr_hexNumber, decode prog_7_method_23_code q.1 = .ok (q.2, pm_len q.1 q.2) := by decide +kernel
set_option maxRecDepth 100000 in
theorem kW_Pr_hexNumber (l : Launch) (D : va_G) (base : Nat) (sa : Nat → Nat) : pm_Met l D kcl base (kZ sa) ⟨"RoutingField$Prefix", "hexNumber", "(LRoutingField$Bytes;II)I"⟩ (.code ⟨"RoutingField$Prefix", "hexNumber", "(LRoutingField$Bytes;II)I"⟩ prog_7_method_23_code 6 (some .int) :: pw_T) 1 21 (kP_Pr_hexNumber base sa) := by
  refine pm_met (by decide) rfl rfl ?_
  intro mc ms p e s m args below meth c hx hb hml hown hnm hts hbs hZ
  have ht : ∀ w ∈ pw_T, w.before args s = true := fun w h => hts w (List.mem_cons_of_mem _ h)
  exact ⟨hx, hb, hown, hbs, pm_look_all kD_Pr_hexNumber, kf_ok (init := false) ht hZ kF_Pr_ok (fun h => by cases h), km_ok ht kM_Pr_ok, kci_ok ht kI_Pr_ok, kli_ok ht kJ_Pr_ok, kar_ok ht hZ kA_Pr_ok,
    pm_look_all (List.forall_mem_cons.mpr ⟨pm_cokV hbs hZ ⟨hx, hb, hml, hown, hts⟩ (kW_By_at l D base sa) (fun mc ms => cwV 1 hts (pw_gV (pw_in 775 (w := .methodLink "RoutingField$Prefix" 63 ⟨"RoutingField$Bytes", "at", "(I)I"⟩) (by decide +kernel) rfl) ki_By_at ks_By_at kn_By ko_By_at) rfl rfl rfl (by decide +kernel) ⟨Nat.le_of_ble_eq_true rfl, Nat.le_of_ble_eq_true rfl⟩) (ci := 0) rfl, fun _ h => absurd h List.not_mem_nil⟩),
    hZ, kst_ok ht hZ (kS_Pr_ok sa), knar_ok ht, ktx_ok (kE_Pr_ok sa)⟩
set_option maxRecDepth 100000 in
theorem kv_Pr_maskHigh : Cond.static ⟨"RoutingField$Prefix", "maskHigh", "(I)J"⟩ ∈ pw_T := (pw_in 792 (by decide +kernel) rfl)
set_option maxRecDepth 100000 in
theorem ko_Pr_maskHigh : Cond.code ⟨"RoutingField$Prefix", "maskHigh", "(I)J"⟩ prog_7_method_3_code 1 (some .long) ∈ pw_T := (pw_in 793 rfl rfl)
set_option maxRecDepth 100000 in
theorem kD_Pr_maskHigh : ∀ q ∈ kC_Pr_maskHigh, decode prog_7_method_3_code q.1 = .ok (q.2, pm_len q.1 q.2) := by decide +kernel
set_option maxRecDepth 100000 in
theorem kW_Pr_maskHigh (l : Launch) (D : va_G) (base : Nat) (sa : Nat → Nat) : pm_Met l D kcl base (kZ sa) ⟨"RoutingField$Prefix", "maskHigh", "(I)J"⟩ (.code ⟨"RoutingField$Prefix", "maskHigh", "(I)J"⟩ prog_7_method_3_code 1 (some .long) :: pw_T) 0 0 (kP_Pr_maskHigh base sa) := by
  refine pm_met (by decide) rfl rfl ?_
  intro mc ms p e s m args below meth c hx hb hml hown hnm hts hbs hZ
  have ht : ∀ w ∈ pw_T, w.before args s = true := fun w h => hts w (List.mem_cons_of_mem _ h)
  exact ⟨hx, hb, hown, hbs, pm_look_all kD_Pr_maskHigh, kf_ok (init := false) ht hZ kF_Pr_ok (fun h => by cases h), km_ok ht kM_Pr_ok, kci_ok ht kI_Pr_ok, kli_ok ht kJ_Pr_ok, kar_ok ht hZ kA_Pr_ok,
    pm_look_all (fun _ h => absurd h List.not_mem_nil),
    hZ, kst_ok ht hZ (kS_Pr_ok sa), knar_ok ht, ktx_ok (kE_Pr_ok sa)⟩
set_option maxRecDepth 100000 in
theorem kv_Pr_maskLow : Cond.static ⟨"RoutingField$Prefix", "maskLow", "(I)J"⟩ ∈ pw_T := (pw_in 796 (by decide +kernel) rfl)
set_option maxRecDepth 100000 in
theorem ko_Pr_maskLow : Cond.code ⟨"RoutingField$Prefix", "maskLow", "(I)J"⟩ prog_7_method_4_code 1 (some .long) ∈ pw_T := (pw_in 797 rfl rfl)
set_option maxRecDepth 100000 in
theorem kD_Pr_maskLow : ∀ q ∈ kC_Pr_maskLow, decode prog_7_method_4_code q.1 = .ok (q.2, pm_len q.1 q.2) := by decide +kernel
set_option maxRecDepth 100000 in
theorem kW_Pr_maskLow (l : Launch) (D : va_G) (base : Nat) (sa : Nat → Nat) : pm_Met l D kcl base (kZ sa) ⟨"RoutingField$Prefix", "maskLow", "(I)J"⟩ (.code ⟨"RoutingField$Prefix", "maskLow", "(I)J"⟩ prog_7_method_4_code 1 (some .long) :: pw_T) 0 0 (kP_Pr_maskLow base sa) := by
  refine pm_met (by decide) rfl rfl ?_
  intro mc ms p e s m args below meth c hx hb hml hown hnm hts hbs hZ
  have ht : ∀ w ∈ pw_T, w.before args s = true := fun w h => hts w (List.mem_cons_of_mem _ h)
  exact ⟨hx, hb, hown, hbs, pm_look_all kD_Pr_maskLow, kf_ok (init := false) ht hZ kF_Pr_ok (fun h => by cases h), km_ok ht kM_Pr_ok, kci_ok ht kI_Pr_ok, kli_ok ht kJ_Pr_ok, kar_ok ht hZ kA_Pr_ok,
    pm_look_all (fun _ h => absurd h List.not_mem_nil),
    hZ, kst_ok ht hZ (kS_Pr_ok sa), knar_ok ht, ktx_ok (kE_Pr_ok sa)⟩
set_option maxRecDepth 100000 in
theorem ki_Pr_openGap : Cond.instanceMethod ⟨"RoutingField$Prefix", "openGap", "(II)Z"⟩ ∈ pw_T := (pw_in 789 (by decide +kernel) rfl)
set_option maxRecDepth 100000 in
theorem ks_Pr_openGap : Cond.selects "RoutingField$Prefix" ⟨"RoutingField$Prefix", "openGap", "(II)Z"⟩ ⟨"RoutingField$Prefix", "openGap", "(II)Z"⟩ ∈ pw_T := (pw_sel 18 (q := (⟨"RoutingField$Prefix", "openGap", "(II)Z"⟩, 4)) (by decide +kernel))
set_option maxRecDepth 100000 in
theorem ko_Pr_openGap : Cond.code ⟨"RoutingField$Prefix", "openGap", "(II)Z"⟩ prog_7_method_22_code 8 (some .boolean) ∈ pw_T := (pw_in 790 rfl rfl)
set_option maxRecDepth 100000 in
theorem kD_Pr_openGap_0 : ∀ q ∈ kC_Pr_openGap_0, decode prog_7_method_22_code q.1 = .ok (q.2, pm_len q.1 q.2) := by decide +kernel
set_option maxRecDepth 100000 in
theorem kD_Pr_openGap_1 : ∀ q ∈ kC_Pr_openGap_1, decode prog_7_method_22_code q.1 = .ok (q.2, pm_len q.1 q.2) := by decide +kernel
theorem kD_Pr_openGap : ∀ q ∈ kC_Pr_openGap, decode prog_7_method_22_code q.1 = .ok (q.2, pm_len q.1 q.2) := List.forall_mem_append.mpr ⟨kD_Pr_openGap_0, kD_Pr_openGap_1⟩
set_option maxRecDepth 100000 in
theorem kW_Pr_openGap (l : Launch) (D : va_G) (base : Nat) (sa : Nat → Nat) : pm_Met l D kcl base (kZ sa) ⟨"RoutingField$Prefix", "openGap", "(II)Z"⟩ (.code ⟨"RoutingField$Prefix", "openGap", "(II)Z"⟩ prog_7_method_22_code 8 (some .boolean) :: pw_T) 1 24 (kP_Pr_openGap base sa) := by
  refine pm_met (by decide) rfl rfl ?_
  intro mc ms p e s m args below meth c hx hb hml hown hnm hts hbs hZ
  have ht : ∀ w ∈ pw_T, w.before args s = true := fun w h => hts w (List.mem_cons_of_mem _ h)
  exact ⟨hx, hb, hown, hbs, pm_look_all kD_Pr_openGap, kf_ok (init := false) ht hZ kF_Pr_ok (fun h => by cases h), km_ok ht kM_Pr_ok, kci_ok ht kI_Pr_ok, kli_ok ht kJ_Pr_ok, kar_ok ht hZ kA_Pr_ok,
    pm_look_all (List.forall_mem_cons.mpr ⟨pm_cokS hbs hZ ⟨hx, hb, hml, hown, hts⟩ (kW_Pr_maskHigh l D base sa) (fun mc ms => va_cwS 1 hts (pw_gS (pw_in 791 (w := .methodLink "RoutingField$Prefix" 34 ⟨"RoutingField$Prefix", "maskHigh", "(I)J"⟩) (by decide +kernel) rfl) kv_Pr_maskHigh kn_Pr ko_Pr_maskHigh) rfl rfl rfl (by decide +kernel) ⟨Nat.le_of_ble_eq_true rfl, Nat.le_of_ble_eq_true rfl⟩) (Nat.le_of_ble_eq_true rfl), List.forall_mem_cons.mpr ⟨pm_cokS hbs hZ ⟨hx, hb, hml, hown, hts⟩ (kW_Pr_maskLow l D base sa) (fun mc ms => va_cwS 1 hts (pw_gS (pw_in 795 (w := .methodLink "RoutingField$Prefix" 38 ⟨"RoutingField$Prefix", "maskLow", "(I)J"⟩) (by decide +kernel) rfl) kv_Pr_maskLow kn_Pr ko_Pr_maskLow) rfl rfl rfl (by decide +kernel) ⟨Nat.le_of_ble_eq_true rfl, Nat.le_of_ble_eq_true rfl⟩) (Nat.le_of_ble_eq_true rfl), fun _ h => absurd h List.not_mem_nil⟩⟩),
    hZ, kst_ok ht hZ (kS_Pr_ok sa), knar_ok ht, ktx_ok (kE_Pr_ok sa)⟩
set_option maxRecDepth 100000 in
theorem ki_Pr_parseSix : Cond.instanceMethod ⟨"RoutingField$Prefix", "parseSix", "(LRoutingField$Bytes;II)Z"⟩ ∈ pw_T := (pw_in 778 (by decide +kernel) rfl)
set_option maxRecDepth 100000 in
theorem ks_Pr_parseSix : Cond.selects "RoutingField$Prefix" ⟨"RoutingField$Prefix", "parseSix", "(LRoutingField$Bytes;II)Z"⟩ ⟨"RoutingField$Prefix", "parseSix", "(LRoutingField$Bytes;II)Z"⟩ ∈ pw_T := (pw_sel 17 (q := (⟨"RoutingField$Prefix", "parseSix", "(LRoutingField$Bytes;II)Z"⟩, 4)) (by decide +kernel))
set_option maxRecDepth 100000 in
theorem ko_Pr_parseSix : Cond.code ⟨"RoutingField$Prefix", "parseSix", "(LRoutingField$Bytes;II)Z"⟩ prog_7_method_21_code 10 (some .boolean) ∈ pw_T := (pw_in 779 rfl rfl)
set_option maxRecDepth 100000 in
theorem kD_Pr_parseSix_0 : ∀ q ∈ kC_Pr_parseSix_0, decode prog_7_method_21_code q.1 = .ok (q.2, pm_len q.1 q.2) := by decide +kernel
set_option maxRecDepth 100000 in
theorem kD_Pr_parseSix_1 : ∀ q ∈ kC_Pr_parseSix_1, decode prog_7_method_21_code q.1 = .ok (q.2, pm_len q.1 q.2) := by decide +kernel
set_option maxRecDepth 100000 in
theorem kD_Pr_parseSix_2 : ∀ q ∈ kC_Pr_parseSix_2, decode prog_7_method_21_code q.1 = .ok (q.2, pm_len q.1 q.2) := by decide +kernel
theorem kD_Pr_parseSix : ∀ q ∈ kC_Pr_parseSix, decode prog_7_method_21_code q.1 = .ok (q.2, pm_len q.1 q.2) := List.forall_mem_append.mpr ⟨kD_Pr_parseSix_0, List.forall_mem_append.mpr ⟨kD_Pr_parseSix_1, kD_Pr_parseSix_2⟩⟩
set_option maxRecDepth 100000 in
theorem kW_Pr_parseSix (l : Launch) (D : va_G) (base : Nat) (sa : Nat → Nat) : pm_Met l D kcl base (kZ sa) ⟨"RoutingField$Prefix", "parseSix", "(LRoutingField$Bytes;II)Z"⟩ (.code ⟨"RoutingField$Prefix", "parseSix", "(LRoutingField$Bytes;II)Z"⟩ prog_7_method_21_code 10 (some .boolean) :: pw_T) 2 51 (kP_Pr_parseSix base sa) := by
  refine pm_met (by decide) rfl rfl ?_
  intro mc ms p e s m args below meth c hx hb hml hown hnm hts hbs hZ
  have ht : ∀ w ∈ pw_T, w.before args s = true := fun w h => hts w (List.mem_cons_of_mem _ h)
  exact ⟨hx, hb, hown, hbs, pm_look_all kD_Pr_parseSix, kf_ok (init := false) ht hZ kF_Pr_ok (fun h => by cases h), km_ok ht kM_Pr_ok, kci_ok ht kI_Pr_ok, kli_ok ht kJ_Pr_ok, kar_ok ht hZ kA_Pr_ok,
    pm_look_all (List.forall_mem_cons.mpr ⟨pm_cokV hbs hZ ⟨hx, hb, hml, hown, hts⟩ (kW_Pr_setZero l D base sa) (fun mc ms => cwV 2 hts (pw_gV (pw_in 780 (w := .methodLink "RoutingField$Prefix" 73 ⟨"RoutingField$Prefix", "setZero", "(II)V"⟩) (by decide +kernel) rfl) ki_Pr_setZero ks_Pr_setZero kn_Pr ko_Pr_setZero) rfl rfl rfl (by decide +kernel) ⟨Nat.le_of_ble_eq_true rfl, Nat.le_of_ble_eq_true rfl⟩) (ci := 5) rfl, List.forall_mem_cons.mpr ⟨pm_cokV hbs hZ ⟨hx, hb, hml, hown, hts⟩ (kW_By_at l D base sa) (fun mc ms => cwV 1 hts (pw_gV (pw_in 775 (w := .methodLink "RoutingField$Prefix" 63 ⟨"RoutingField$Bytes", "at", "(I)I"⟩) (by decide +kernel) rfl) ki_By_at ks_By_at kn_By ko_By_at) rfl rfl rfl (by decide +kernel) ⟨Nat.le_of_ble_eq_true rfl, Nat.le_of_ble_eq_true rfl⟩) (ci := 0) rfl, List.forall_mem_cons.mpr ⟨pm_cokS hbs hZ ⟨hx, hb, hml, hown, hts⟩ (kW_Pr_hexNumber l D base sa) (fun mc ms => va_cwS 3 hts (pw_gS (pw_in 784 (w := .methodLink "RoutingField$Prefix" 77 ⟨"RoutingField$Prefix", "hexNumber", "(LRoutingField$Bytes;II)I"⟩) (by decide +kernel) rfl) kv_Pr_hexNumber kn_Pr ko_Pr_hexNumber) rfl rfl rfl (by decide +kernel) ⟨Nat.le_of_ble_eq_true rfl, Nat.le_of_ble_eq_true rfl⟩) (Nat.le_of_ble_eq_true rfl), List.forall_mem_cons.mpr ⟨pm_cokV hbs hZ ⟨hx, hb, hml, hown, hts⟩ (kW_Pr_openGap l D base sa) (fun mc ms => cwV 2 hts (pw_gV (pw_in 787 (w := .methodLink "RoutingField$Prefix" 80 ⟨"RoutingField$Prefix", "openGap", "(II)Z"⟩) (by decide +kernel) rfl) ki_Pr_openGap ks_Pr_openGap kn_Pr ko_Pr_openGap) rfl rfl rfl (by decide +kernel) ⟨Nat.le_of_ble_eq_true rfl, Nat.le_of_ble_eq_true rfl⟩) (ci := 5) rfl, fun _ h => absurd h List.not_mem_nil⟩⟩⟩⟩),
    hZ, kst_ok ht hZ (kS_Pr_ok sa), knar_ok ht, ktx_ok (kE_Pr_ok sa)⟩
set_option maxRecDepth 100000 in
theorem kv_Pr_plainNumber : Cond.static ⟨"RoutingField$Prefix", "plainNumber", "(LRoutingField$Bytes;II)I"⟩ ∈ pw_T := (pw_in 803 (by decide +kernel) rfl)
set_option maxRecDepth 100000 in
theorem ko_Pr_plainNumber : Cond.code ⟨"RoutingField$Prefix", "plainNumber", "(LRoutingField$Bytes;II)I"⟩ prog_7_method_20_code 7 (some .int) ∈ pw_T := (pw_in 804 rfl rfl)
set_option maxRecDepth 100000 in
theorem kD_Pr_plainNumber : ∀ q ∈ kC_Pr_plainNumber, decode prog_7_method_20_code q.1 = .ok (q.2, pm_len q.1 q.2) := by decide +kernel
set_option maxRecDepth 100000 in
theorem kW_Pr_plainNumber (l : Launch) (D : va_G) (base : Nat) (sa : Nat → Nat) : pm_Met l D kcl base (kZ sa) ⟨"RoutingField$Prefix", "plainNumber", "(LRoutingField$Bytes;II)I"⟩ (.code ⟨"RoutingField$Prefix", "plainNumber", "(LRoutingField$Bytes;II)I"⟩ prog_7_method_20_code 7 (some .int) :: pw_T) 1 21 (kP_Pr_plainNumber base sa) := by
  refine pm_met (by decide) rfl rfl ?_
  intro mc ms p e s m args below meth c hx hb hml hown hnm hts hbs hZ
  have ht : ∀ w ∈ pw_T, w.before args s = true := fun w h => hts w (List.mem_cons_of_mem _ h)
  exact ⟨hx, hb, hown, hbs, pm_look_all kD_Pr_plainNumber, kf_ok (init := false) ht hZ kF_Pr_ok (fun h => by cases h), km_ok ht kM_Pr_ok, kci_ok ht kI_Pr_ok, kli_ok ht kJ_Pr_ok, kar_ok ht hZ kA_Pr_ok,
    pm_look_all (List.forall_mem_cons.mpr ⟨pm_cokV hbs hZ ⟨hx, hb, hml, hown, hts⟩ (kW_By_at l D base sa) (fun mc ms => cwV 1 hts (pw_gV (pw_in 775 (w := .methodLink "RoutingField$Prefix" 63 ⟨"RoutingField$Bytes", "at", "(I)I"⟩) (by decide +kernel) rfl) ki_By_at ks_By_at kn_By ko_By_at) rfl rfl rfl (by decide +kernel) ⟨Nat.le_of_ble_eq_true rfl, Nat.le_of_ble_eq_true rfl⟩) (ci := 0) rfl, fun _ h => absurd h List.not_mem_nil⟩),
    hZ, kst_ok ht hZ (kS_Pr_ok sa), knar_ok ht, ktx_ok (kE_Pr_ok sa)⟩
