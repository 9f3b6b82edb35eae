set_option maxRecDepth 100000 in
theorem ki_Mo_become : Cond.instanceMethod ⟨"RoutingFieldModel", "become", "(II)V"⟩ ∈ pw_T := (pw_in 2666 (by decide +kernel) rfl)
set_option maxRecDepth 100000 in
theorem ks_Mo_become : Cond.selects "RoutingFieldModel" ⟨"RoutingFieldModel", "become", "(II)V"⟩ ⟨"RoutingFieldModel", "become", "(II)V"⟩ ∈ pw_T := (pw_sel 140 (q := (⟨"RoutingFieldModel", "become", "(II)V"⟩, 166)) (by decide +kernel))
set_option maxRecDepth 100000 in
theorem ko_Mo_become : Cond.code ⟨"RoutingFieldModel", "become", "(II)V"⟩ prog_14_method_81_code 4 none ∈ pw_T := (pw_in 2667 rfl rfl)
set_option maxRecDepth 100000 in
theorem kD_Mo_become_0 : ∀ q ∈ kC_Mo_become_0, decode prog_14_method_81_code q.1 = .ok (q.2, pm_len q.1 q.2) := by decide +kernel
set_option maxRecDepth 100000 in
theorem kD_Mo_become_1 : ∀ q ∈ kC_Mo_become_1, decode prog_14_method_81_code q.1 = .ok (q.2, pm_len q.1 q.2) := by decide +kernel
theorem kD_Mo_become : ∀ q ∈ kC_Mo_become, decode prog_14_method_81_code q.1 = .ok (q.2, pm_len q.1 q.2) := List.forall_mem_append.mpr ⟨kD_Mo_become_0, kD_Mo_become_1⟩
set_option maxRecDepth 100000 in
theorem kW_Mo_become (l : Launch) (D : va_G) (base : Nat) (sa : Nat → Nat) : pm_Met l D kcl base (kZ sa) ⟨"RoutingFieldModel", "become", "(II)V"⟩ (.code ⟨"RoutingFieldModel", "become", "(II)V"⟩ prog_14_method_81_code 4 none :: pw_T) 1 22 (kP_Mo_become base sa) := by
  refine pm_met (by decide) rfl rfl ?_
  intro mc ms p e s m args below meth c hx hb hml hown hnm hts hbs hZ
  have ht : ∀ w ∈ pw_T, w.before args s = true := fun w h => hts w (List.mem_cons_of_mem _ h)
  exact ⟨hx, hb, hown, hbs, pm_look_all kD_Mo_become, kf_ok (init := false) ht hZ kF_Mo_ok (fun h => by cases h), km_ok ht kM_Mo_ok, kci_ok ht kI_Mo_ok, kli_ok ht kJ_Mo_ok, kar_ok ht hZ kA_Mo_ok,
    pm_look_all (List.forall_mem_cons.mpr ⟨pm_cokV hbs hZ ⟨hx, hb, hml, hown, hts⟩ (kW_Mo_markChanged l D base sa) (fun mc ms => cwV 2 hts (pw_gV (pw_in 2668 (w := .methodLink "RoutingFieldModel" 770 ⟨"RoutingFieldModel", "markChanged", "(II)V"⟩) (by decide +kernel) rfl) ki_Mo_markChanged ks_Mo_markChanged kn_Mo ko_Mo_markChanged) rfl rfl rfl (by decide +kernel) ⟨Nat.le_of_ble_eq_true rfl, Nat.le_of_ble_eq_true rfl⟩) (ci := 12) rfl, fun _ h => absurd h List.not_mem_nil⟩),
    hZ, kst_ok ht hZ (kS_Mo_ok sa), knar_ok ht, ktx_ok (kE_Mo_ok sa)⟩
set_option maxRecDepth 100000 in
theorem ki_Mo_die : Cond.instanceMethod ⟨"RoutingFieldModel", "die", "(II)V"⟩ ∈ pw_T := (pw_in 2678 (by decide +kernel) rfl)
set_option maxRecDepth 100000 in
theorem ks_Mo_die : Cond.selects "RoutingFieldModel" ⟨"RoutingFieldModel", "die", "(II)V"⟩ ⟨"RoutingFieldModel", "die", "(II)V"⟩ ∈ pw_T := (pw_sel 143 (q := (⟨"RoutingFieldModel", "die", "(II)V"⟩, 166)) (by decide +kernel))
set_option maxRecDepth 100000 in
theorem ko_Mo_die : Cond.code ⟨"RoutingFieldModel", "die", "(II)V"⟩ prog_14_method_78_code 3 none ∈ pw_T := (pw_in 2679 rfl rfl)
set_option maxRecDepth 100000 in
theorem kD_Mo_die : ∀ q ∈ kC_Mo_die, decode prog_14_method_78_code q.1 = .ok (q.2, pm_len q.1 q.2) := by decide +kernel
set_option maxRecDepth 100000 in
theorem kW_Mo_die (l : Launch) (D : va_G) (base : Nat) (sa : Nat → Nat) : pm_Met l D kcl base (kZ sa) ⟨"RoutingFieldModel", "die", "(II)V"⟩ (.code ⟨"RoutingFieldModel", "die", "(II)V"⟩ prog_14_method_78_code 3 none :: pw_T) 1 22 (kP_Mo_die base sa) := by
  refine pm_met (by decide) rfl rfl ?_
  intro mc ms p e s m args below meth c hx hb hml hown hnm hts hbs hZ
  have ht : ∀ w ∈ pw_T, w.before args s = true := fun w h => hts w (List.mem_cons_of_mem _ h)
  exact ⟨hx, hb, hown, hbs, pm_look_all kD_Mo_die, kf_ok (init := false) ht hZ kF_Mo_ok (fun h => by cases h), km_ok ht kM_Mo_ok, kci_ok ht kI_Mo_ok, kli_ok ht kJ_Mo_ok, kar_ok ht hZ kA_Mo_ok,
    pm_look_all (List.forall_mem_cons.mpr ⟨pm_cokV hbs hZ ⟨hx, hb, hml, hown, hts⟩ (kW_Mo_markChanged l D base sa) (fun mc ms => cwV 2 hts (pw_gV (pw_in 2668 (w := .methodLink "RoutingFieldModel" 770 ⟨"RoutingFieldModel", "markChanged", "(II)V"⟩) (by decide +kernel) rfl) ki_Mo_markChanged ks_Mo_markChanged kn_Mo ko_Mo_markChanged) rfl rfl rfl (by decide +kernel) ⟨Nat.le_of_ble_eq_true rfl, Nat.le_of_ble_eq_true rfl⟩) (ci := 12) rfl, fun _ h => absurd h List.not_mem_nil⟩),
    hZ, kst_ok ht hZ (kS_Mo_ok sa), knar_ok ht, ktx_ok (kE_Mo_ok sa)⟩
set_option maxRecDepth 100000 in
theorem ki_Mo_forsake : Cond.instanceMethod ⟨"RoutingFieldModel", "forsake", "(II)V"⟩ ∈ pw_T := (pw_in 2674 (by decide +kernel) rfl)
set_option maxRecDepth 100000 in
theorem ks_Mo_forsake : Cond.selects "RoutingFieldModel" ⟨"RoutingFieldModel", "forsake", "(II)V"⟩ ⟨"RoutingFieldModel", "forsake", "(II)V"⟩ ∈ pw_T := (pw_sel 142 (q := (⟨"RoutingFieldModel", "forsake", "(II)V"⟩, 166)) (by decide +kernel))
set_option maxRecDepth 100000 in
theorem ko_Mo_forsake : Cond.code ⟨"RoutingFieldModel", "forsake", "(II)V"⟩ prog_14_method_82_code 3 none ∈ pw_T := (pw_in 2675 rfl rfl)
set_option maxRecDepth 100000 in
theorem kD_Mo_forsake : ∀ q ∈ kC_Mo_forsake, decode prog_14_method_82_code q.1 = .ok (q.2, pm_len q.1 q.2) := by decide +kernel
set_option maxRecDepth 100000 in
theorem kW_Mo_forsake (l : Launch) (D : va_G) (base : Nat) (sa : Nat → Nat) : pm_Met l D kcl base (kZ sa) ⟨"RoutingFieldModel", "forsake", "(II)V"⟩ (.code ⟨"RoutingFieldModel", "forsake", "(II)V"⟩ prog_14_method_82_code 3 none :: pw_T) 2 44 (kP_Mo_forsake base sa) := by
  refine pm_met (by decide) rfl rfl ?_
  intro mc ms p e s m args below meth c hx hb hml hown hnm hts hbs hZ
  have ht : ∀ w ∈ pw_T, w.before args s = true := fun w h => hts w (List.mem_cons_of_mem _ h)
  exact ⟨hx, hb, hown, hbs, pm_look_all kD_Mo_forsake, kf_ok (init := false) ht hZ kF_Mo_ok (fun h => by cases h), km_ok ht kM_Mo_ok, kci_ok ht kI_Mo_ok, kli_ok ht kJ_Mo_ok, kar_ok ht hZ kA_Mo_ok,
    pm_look_all (List.forall_mem_cons.mpr ⟨pm_cokV hbs hZ ⟨hx, hb, hml, hown, hts⟩ (kW_Mo_die l D base sa) (fun mc ms => cwV 2 hts (pw_gV (pw_in 2676 (w := .methodLink "RoutingFieldModel" 789 ⟨"RoutingFieldModel", "die", "(II)V"⟩) (by decide +kernel) rfl) ki_Mo_die ks_Mo_die kn_Mo ko_Mo_die) rfl rfl rfl (by decide +kernel) ⟨Nat.le_of_ble_eq_true rfl, Nat.le_of_ble_eq_true rfl⟩) (ci := 12) rfl, fun _ h => absurd h List.not_mem_nil⟩),
    hZ, kst_ok ht hZ (kS_Mo_ok sa), knar_ok ht, ktx_ok (kE_Mo_ok sa)⟩
set_option maxRecDepth 100000 in
theorem ki_Mo_find : Cond.instanceMethod ⟨"RoutingFieldModel", "find", "(IIJJI)I"⟩ ∈ pw_T := (pw_in 2686 (by decide +kernel) rfl)
set_option maxRecDepth 100000 in
theorem ks_Mo_find : Cond.selects "RoutingFieldModel" ⟨"RoutingFieldModel", "find", "(IIJJI)I"⟩ ⟨"RoutingFieldModel", "find", "(IIJJI)I"⟩ ∈ pw_T := (pw_sel 145 (q := (⟨"RoutingFieldModel", "find", "(IIJJI)I"⟩, 166)) (by decide +kernel))
set_option maxRecDepth 100000 in
theorem ko_Mo_find : Cond.code ⟨"RoutingFieldModel", "find", "(IIJJI)I"⟩ prog_14_method_72_code 9 (some .int) ∈ pw_T := (pw_in 2687 rfl rfl)
set_option maxRecDepth 100000 in
theorem kD_Mo_find : ∀ q ∈ kC_Mo_find, decode prog_14_method_72_code q.1 = .ok (q.2, pm_len q.1 q.2) := by decide +kernel
set_option maxRecDepth 100000 in
theorem kW_Mo_find (l : Launch) (D : va_G) (base : Nat) (sa : Nat → Nat) : pm_Met l D kcl base (kZ sa) ⟨"RoutingFieldModel", "find", "(IIJJI)I"⟩ (.code ⟨"RoutingFieldModel", "find", "(IIJJI)I"⟩ prog_14_method_72_code 9 (some .int) :: pw_T) 0 0 (kP_Mo_find base sa) := by
  refine pm_met (by decide) rfl rfl ?_
  intro mc ms p e s m args below meth c hx hb hml hown hnm hts hbs hZ
  have ht : ∀ w ∈ pw_T, w.before args s = true := fun w h => hts w (List.mem_cons_of_mem _ h)
  exact ⟨hx, hb, hown, hbs, pm_look_all kD_Mo_find, kf_ok (init := false) ht hZ kF_Mo_ok (fun h => by cases h), km_ok ht kM_Mo_ok, kci_ok ht kI_Mo_ok, kli_ok ht kJ_Mo_ok, kar_ok ht hZ kA_Mo_ok,
    pm_look_all (fun _ h => absurd h List.not_mem_nil),
    hZ, kst_ok ht hZ (kS_Mo_ok sa), knar_ok ht, ktx_ok (kE_Mo_ok sa)⟩
set_option maxRecDepth 100000 in
theorem ki_Mo_isBehind : Cond.instanceMethod ⟨"RoutingFieldModel", "isBehind", "(IIJJI)Z"⟩ ∈ pw_T := (pw_in 2694 (by decide +kernel) rfl)
set_option maxRecDepth 100000 in
theorem ks_Mo_isBehind : Cond.selects "RoutingFieldModel" ⟨"RoutingFieldModel", "isBehind", "(IIJJI)Z"⟩ ⟨"RoutingFieldModel", "isBehind", "(IIJJI)Z"⟩ ∈ pw_T := (pw_sel 147 (q := (⟨"RoutingFieldModel", "isBehind", "(IIJJI)Z"⟩, 166)) (by decide +kernel))
set_option maxRecDepth 100000 in
theorem ko_Mo_isBehind : Cond.code ⟨"RoutingFieldModel", "isBehind", "(IIJJI)Z"⟩ prog_14_method_75_code 8 (some .boolean) ∈ pw_T := (pw_in 2695 rfl rfl)
set_option maxRecDepth 100000 in
theorem kD_Mo_isBehind : ∀ q ∈ kC_Mo_isBehind, decode prog_14_method_75_code q.1 = .ok (q.2, pm_len q.1 q.2) := by decide +kernel
set_option maxRecDepth 100000 in
theorem kW_Mo_isBehind (l : Launch) (D : va_G) (base : Nat) (sa : Nat → Nat) : pm_Met l D kcl base (kZ sa) ⟨"RoutingFieldModel", "isBehind", "(IIJJI)Z"⟩ (.code ⟨"RoutingFieldModel", "isBehind", "(IIJJI)Z"⟩ prog_14_method_75_code 8 (some .boolean) :: pw_T) 2 60 (kP_Mo_isBehind base sa) := by
  refine pm_met (by decide) rfl rfl ?_
  intro mc ms p e s m args below meth c hx hb hml hown hnm hts hbs hZ
  have ht : ∀ w ∈ pw_T, w.before args s = true := fun w h => hts w (List.mem_cons_of_mem _ h)
  exact ⟨hx, hb, hown, hbs, pm_look_all kD_Mo_isBehind, kf_ok (init := false) ht hZ kF_Mo_ok (fun h => by cases h), km_ok ht kM_Mo_ok, kci_ok ht kI_Mo_ok, kli_ok ht kJ_Mo_ok, kar_ok ht hZ kA_Mo_ok,
    pm_look_all (List.forall_mem_cons.mpr ⟨pm_cokS hbs hZ ⟨hx, hb, hml, hown, hts⟩ (kW_Mo_isAhead l D base sa) (fun mc ms => va_cwS 6 hts (pw_gS (pw_in 2696 (w := .methodLink "RoutingFieldModel" 767 ⟨"RoutingFieldModel", "isAhead", "(JJIJJI)Z"⟩) (by decide +kernel) rfl) kv_Mo_isAhead kn_Mo ko_Mo_isAhead) rfl rfl rfl (by decide +kernel) ⟨Nat.le_of_ble_eq_true rfl, Nat.le_of_ble_eq_true rfl⟩) (Nat.le_of_ble_eq_true rfl), fun _ h => absurd h List.not_mem_nil⟩),
    hZ, kst_ok ht hZ (kS_Mo_ok sa), knar_ok ht, ktx_ok (kE_Mo_ok sa)⟩
set_option maxRecDepth 100000 in
theorem ki_Mo_copyRoute : Cond.instanceMethod ⟨"RoutingFieldModel", "copyRoute", "(II)V"⟩ ∈ pw_T := (pw_in 2705 (by decide +kernel) rfl)
set_option maxRecDepth 100000 in
theorem ks_Mo_copyRoute : Cond.selects "RoutingFieldModel" ⟨"RoutingFieldModel", "copyRoute", "(II)V"⟩ ⟨"RoutingFieldModel", "copyRoute", "(II)V"⟩ ∈ pw_T := (pw_sel 148 (q := (⟨"RoutingFieldModel", "copyRoute", "(II)V"⟩, 166)) (by decide +kernel))
set_option maxRecDepth 100000 in
theorem ko_Mo_copyRoute : Cond.code ⟨"RoutingFieldModel", "copyRoute", "(II)V"⟩ prog_14_method_73_code 3 none ∈ pw_T := (pw_in 2706 rfl rfl)
set_option maxRecDepth 100000 in
theorem kD_Mo_copyRoute_0 : ∀ q ∈ kC_Mo_copyRoute_0, decode prog_14_method_73_code q.1 = .ok (q.2, pm_len q.1 q.2) := by decide +kernel
set_option maxRecDepth 100000 in
theorem kD_Mo_copyRoute_1 : ∀ q ∈ kC_Mo_copyRoute_1, decode prog_14_method_73_code q.1 = .ok (q.2, pm_len q.1 q.2) := by decide +kernel
set_option maxRecDepth 100000 in
theorem kD_Mo_copyRoute_2 : ∀ q ∈ kC_Mo_copyRoute_2, decode prog_14_method_73_code q.1 = .ok (q.2, pm_len q.1 q.2) := by decide +kernel
theorem kD_Mo_copyRoute : ∀ q ∈ kC_Mo_copyRoute, decode prog_14_method_73_code q.1 = .ok (q.2, pm_len q.1 q.2) := List.forall_mem_append.mpr ⟨kD_Mo_copyRoute_0, List.forall_mem_append.mpr ⟨kD_Mo_copyRoute_1, kD_Mo_copyRoute_2⟩⟩
set_option maxRecDepth 100000 in
theorem kW_Mo_copyRoute (l : Launch) (D : va_G) (base : Nat) (sa : Nat → Nat) : pm_Met l D kcl base (kZ sa) ⟨"RoutingFieldModel", "copyRoute", "(II)V"⟩ (.code ⟨"RoutingFieldModel", "copyRoute", "(II)V"⟩ prog_14_method_73_code 3 none :: pw_T) 0 0 (kP_Mo_copyRoute base sa) := by
  refine pm_met (by decide) rfl rfl ?_
  intro mc ms p e s m args below meth c hx hb hml hown hnm hts hbs hZ
  have ht : ∀ w ∈ pw_T, w.before args s = true := fun w h => hts w (List.mem_cons_of_mem _ h)
  exact ⟨hx, hb, hown, hbs, pm_look_all kD_Mo_copyRoute, kf_ok (init := false) ht hZ kF_Mo_ok (fun h => by cases h), km_ok ht kM_Mo_ok, kci_ok ht kI_Mo_ok, kli_ok ht kJ_Mo_ok, kar_ok ht hZ kA_Mo_ok,
    pm_look_all (fun _ h => absurd h List.not_mem_nil),
    hZ, kst_ok ht hZ (kS_Mo_ok sa), knar_ok ht, ktx_ok (kE_Mo_ok sa)⟩
set_option maxRecDepth 100000 in
theorem ki_Mo_insert : Cond.instanceMethod ⟨"RoutingFieldModel", "insert", "(IIJJI)I"⟩ ∈ pw_T := (pw_in 2690 (by decide +kernel) rfl)
set_option maxRecDepth 100000 in
theorem ks_Mo_insert : Cond.selects "RoutingFieldModel" ⟨"RoutingFieldModel", "insert", "(IIJJI)I"⟩ ⟨"RoutingFieldModel", "insert", "(IIJJI)I"⟩ ∈ pw_T := (pw_sel 146 (q := (⟨"RoutingFieldModel", "insert", "(IIJJI)I"⟩, 166)) (by decide +kernel))
set_option maxRecDepth 100000 in
theorem ko_Mo_insert : Cond.code ⟨"RoutingFieldModel", "insert", "(IIJJI)I"⟩ prog_14_method_74_code 9 (some .int) ∈ pw_T := (pw_in 2691 rfl rfl)
set_option maxRecDepth 100000 in
theorem kD_Mo_insert_0 : ∀ q ∈ kC_Mo_insert_0, decode prog_14_method_74_code q.1 = .ok (q.2, pm_len q.1 q.2) := by decide +kernel
set_option maxRecDepth 100000 in
theorem kD_Mo_insert_1 : ∀ q ∈ kC_Mo_insert_1, decode prog_14_method_74_code q.1 = .ok (q.2, pm_len q.1 q.2) := by decide +kernel
theorem kD_Mo_insert : ∀ q ∈ kC_Mo_insert, decode prog_14_method_74_code q.1 = .ok (q.2, pm_len q.1 q.2) := List.forall_mem_append.mpr ⟨kD_Mo_insert_0, kD_Mo_insert_1⟩
set_option maxRecDepth 100000 in
theorem kW_Mo_insert (l : Launch) (D : va_G) (base : Nat) (sa : Nat → Nat) : pm_Met l D kcl base (kZ sa) ⟨"RoutingFieldModel", "insert", "(IIJJI)I"⟩ (.code ⟨"RoutingFieldModel", "insert", "(IIJJI)I"⟩ prog_14_method_74_code 9 (some .int) :: pw_T) 3 87 (kP_Mo_insert base sa) := by
  refine pm_met (by decide) rfl rfl ?_
  intro mc ms p e s m args below meth c hx hb hml hown hnm hts hbs hZ
  have ht : ∀ w ∈ pw_T, w.before args s = true := fun w h => hts w (List.mem_cons_of_mem _ h)
  exact ⟨hx, hb, hown, hbs, pm_look_all kD_Mo_insert, kf_ok (init := false) ht hZ kF_Mo_ok (fun h => by cases h), km_ok ht kM_Mo_ok, kci_ok ht kI_Mo_ok, kli_ok ht kJ_Mo_ok, kar_ok ht hZ kA_Mo_ok,
    pm_look_all (List.forall_mem_cons.mpr ⟨pm_cokV hbs hZ ⟨hx, hb, hml, hown, hts⟩ (kW_Mo_isBehind l D base sa) (fun mc ms => cwV 5 hts (pw_gV (pw_in 2692 (w := .methodLink "RoutingFieldModel" 761 ⟨"RoutingFieldModel", "isBehind", "(IIJJI)Z"⟩) (by decide +kernel) rfl) ki_Mo_isBehind ks_Mo_isBehind kn_Mo ko_Mo_isBehind) rfl rfl rfl (by decide +kernel) ⟨Nat.le_of_ble_eq_true rfl, Nat.le_of_ble_eq_true rfl⟩) (ci := 12) rfl, List.forall_mem_cons.mpr ⟨pm_cokV hbs hZ ⟨hx, hb, hml, hown, hts⟩ (kW_Mo_copyRoute l D base sa) (fun mc ms => cwV 2 hts (pw_gV (pw_in 2703 (w := .methodLink "RoutingFieldModel" 764 ⟨"RoutingFieldModel", "copyRoute", "(II)V"⟩) (by decide +kernel) rfl) ki_Mo_copyRoute ks_Mo_copyRoute kn_Mo ko_Mo_copyRoute) rfl rfl rfl (by decide +kernel) ⟨Nat.le_of_ble_eq_true rfl, Nat.le_of_ble_eq_true rfl⟩) (ci := 12) rfl, fun _ h => absurd h List.not_mem_nil⟩⟩),
    hZ, kst_ok ht hZ (kS_Mo_ok sa), knar_ok ht, ktx_ok (kE_Mo_ok sa)⟩
set_option maxRecDepth 100000 in
theorem ki_Mo_come : Cond.instanceMethod ⟨"RoutingFieldModel", "come", "(IIJJI)V"⟩ ∈ pw_T := (pw_in 2682 (by decide +kernel) rfl)
set_option maxRecDepth 100000 in
theorem ks_Mo_come : Cond.selects "RoutingFieldModel" ⟨"RoutingFieldModel", "come", "(IIJJI)V"⟩ ⟨"RoutingFieldModel", "come", "(IIJJI)V"⟩ ∈ pw_T := (pw_sel 144 (q := (⟨"RoutingFieldModel", "come", "(IIJJI)V"⟩, 166)) (by decide +kernel))
set_option maxRecDepth 100000 in
theorem ko_Mo_come : Cond.code ⟨"RoutingFieldModel", "come", "(IIJJI)V"⟩ prog_14_method_83_code 9 none ∈ pw_T := (pw_in 2683 rfl rfl)
set_option maxRecDepth 100000 in
theorem kD_Mo_come : ∀ q ∈ kC_Mo_come, decode prog_14_method_83_code q.1 = .ok (q.2, pm_len q.1 q.2) := by decide +kernel
set_option maxRecDepth 100000 in
theorem kW_Mo_come (l : Launch) (D : va_G) (base : Nat) (sa : Nat → Nat) : pm_Met l D kcl base (kZ sa) ⟨"RoutingFieldModel", "come", "(IIJJI)V"⟩ (.code ⟨"RoutingFieldModel", "come", "(IIJJI)V"⟩ prog_14_method_83_code 9 none :: pw_T) 4 115 (kP_Mo_come base sa) := by
  refine pm_met (by decide) rfl rfl ?_
  intro mc ms p e s m args below meth c hx hb hml hown hnm hts hbs hZ
  have ht : ∀ w ∈ pw_T, w.before args s = true := fun w h => hts w (List.mem_cons_of_mem _ h)
  exact ⟨hx, hb, hown, hbs, pm_look_all kD_Mo_come, kf_ok (init := false) ht hZ kF_Mo_ok (fun h => by cases h), km_ok ht kM_Mo_ok, kci_ok ht kI_Mo_ok, kli_ok ht kJ_Mo_ok, kar_ok ht hZ kA_Mo_ok,
    pm_look_all (List.forall_mem_cons.mpr ⟨pm_cokV hbs hZ ⟨hx, hb, hml, hown, hts⟩ (kW_Mo_find l D base sa) (fun mc ms => cwV 5 hts (pw_gV (pw_in 2684 (w := .methodLink "RoutingFieldModel" 792 ⟨"RoutingFieldModel", "find", "(IIJJI)I"⟩) (by decide +kernel) rfl) ki_Mo_find ks_Mo_find kn_Mo ko_Mo_find) rfl rfl rfl (by decide +kernel) ⟨Nat.le_of_ble_eq_true rfl, Nat.le_of_ble_eq_true rfl⟩) (ci := 12) rfl, List.forall_mem_cons.mpr ⟨pm_cokV hbs hZ ⟨hx, hb, hml, hown, hts⟩ (kW_Mo_isDue l D base sa) (fun mc ms => cwV 5 hts (pw_gV (pw_in 2645 (w := .methodLink "RoutingFieldModel" 795 ⟨"RoutingFieldModel", "isDue", "(IIJJI)Z"⟩) (by decide +kernel) rfl) ki_Mo_isDue ks_Mo_isDue kn_Mo ko_Mo_isDue) rfl rfl rfl (by decide +kernel) ⟨Nat.le_of_ble_eq_true rfl, Nat.le_of_ble_eq_true rfl⟩) (ci := 12) rfl, List.forall_mem_cons.mpr ⟨pm_cokV hbs hZ ⟨hx, hb, hml, hown, hts⟩ (kW_Mo_insert l D base sa) (fun mc ms => cwV 5 hts (pw_gV (pw_in 2688 (w := .methodLink "RoutingFieldModel" 798 ⟨"RoutingFieldModel", "insert", "(IIJJI)I"⟩) (by decide +kernel) rfl) ki_Mo_insert ks_Mo_insert kn_Mo ko_Mo_insert) rfl rfl rfl (by decide +kernel) ⟨Nat.le_of_ble_eq_true rfl, Nat.le_of_ble_eq_true rfl⟩) (ci := 12) rfl, List.forall_mem_cons.mpr ⟨pm_cokV hbs hZ ⟨hx, hb, hml, hown, hts⟩ (kW_Mo_markChanged l D base sa) (fun mc ms => cwV 2 hts (pw_gV (pw_in 2668 (w := .methodLink "RoutingFieldModel" 770 ⟨"RoutingFieldModel", "markChanged", "(II)V"⟩) (by decide +kernel) rfl) ki_Mo_markChanged ks_Mo_markChanged kn_Mo ko_Mo_markChanged) rfl rfl rfl (by decide +kernel) ⟨Nat.le_of_ble_eq_true rfl, Nat.le_of_ble_eq_true rfl⟩) (ci := 12) rfl, fun _ h => absurd h List.not_mem_nil⟩⟩⟩⟩),
    hZ, kst_ok ht hZ (kS_Mo_ok sa), knar_ok ht, ktx_ok (kE_Mo_ok sa)⟩
set_option maxRecDepth 100000 in
theorem ki_Mo_settle : Cond.instanceMethod ⟨"RoutingFieldModel", "settle", "(I)V"⟩ ∈ pw_T := (pw_in 2643 (by decide +kernel) rfl)
set_option maxRecDepth 100000 in
theorem ks_Mo_settle : Cond.selects "RoutingFieldModel" ⟨"RoutingFieldModel", "settle", "(I)V"⟩ ⟨"RoutingFieldModel", "settle", "(I)V"⟩ ∈ pw_T := (pw_sel 136 (q := (⟨"RoutingFieldModel", "settle", "(I)V"⟩, 166)) (by decide +kernel))
set_option maxRecDepth 100000 in
theorem ko_Mo_settle : Cond.code ⟨"RoutingFieldModel", "settle", "(I)V"⟩ prog_14_method_84_code 3 none ∈ pw_T := (pw_in 2644 rfl rfl)
set_option maxRecDepth 100000 in
theorem kD_Mo_settle_0 : ∀ q ∈ kC_Mo_settle_0, decode prog_14_method_84_code q.1 = .ok (q.2, pm_len q.1 q.2) := by decide +kernel
set_option maxRecDepth 100000 in
theorem kD_Mo_settle_1 : ∀ q ∈ kC_Mo_settle_1, decode prog_14_method_84_code q.1 = .ok (q.2, pm_len q.1 q.2) := by decide +kernel
set_option maxRecDepth 100000 in
theorem kD_Mo_settle_2 : ∀ q ∈ kC_Mo_settle_2, decode prog_14_method_84_code q.1 = .ok (q.2, pm_len q.1 q.2) := by decide +kernel
theorem kD_Mo_settle : ∀ q ∈ kC_Mo_settle, decode prog_14_method_84_code q.1 = .ok (q.2, pm_len q.1 q.2) := List.forall_mem_append.mpr ⟨kD_Mo_settle_0, List.forall_mem_append.mpr ⟨kD_Mo_settle_1, kD_Mo_settle_2⟩⟩
set_option maxRecDepth 100000 in
theorem kW_Mo_settle (l : Launch) (D : va_G) (base : Nat) (sa : Nat → Nat) : pm_Met l D kcl base (kZ sa) ⟨"RoutingFieldModel", "settle", "(I)V"⟩ (.code ⟨"RoutingFieldModel", "settle", "(I)V"⟩ prog_14_method_84_code 3 none :: pw_T) 5 143 (kP_Mo_settle base sa) := by
  refine pm_met (by decide) rfl rfl ?_
  intro mc ms p e s m args below meth c hx hb hml hown hnm hts hbs hZ
  have ht : ∀ w ∈ pw_T, w.before args s = true := fun w h => hts w (List.mem_cons_of_mem _ h)
  exact ⟨hx, hb, hown, hbs, pm_look_all kD_Mo_settle, kf_ok (init := false) ht hZ kF_Mo_ok (fun h => by cases h), km_ok ht kM_Mo_ok, kci_ok ht kI_Mo_ok, kli_ok ht kJ_Mo_ok, kar_ok ht hZ kA_Mo_ok,
    pm_look_all (List.forall_mem_cons.mpr ⟨pm_cokV hbs hZ ⟨hx, hb, hml, hown, hts⟩ (kW_Mo_isDue l D base sa) (fun mc ms => cwV 5 hts (pw_gV (pw_in 2645 (w := .methodLink "RoutingFieldModel" 795 ⟨"RoutingFieldModel", "isDue", "(IIJJI)Z"⟩) (by decide +kernel) rfl) ki_Mo_isDue ks_Mo_isDue kn_Mo ko_Mo_isDue) rfl rfl rfl (by decide +kernel) ⟨Nat.le_of_ble_eq_true rfl, Nat.le_of_ble_eq_true rfl⟩) (ci := 12) rfl, List.forall_mem_cons.mpr ⟨pm_cokV hbs hZ ⟨hx, hb, hml, hown, hts⟩ (kW_Mo_become l D base sa) (fun mc ms => cwV 2 hts (pw_gV (pw_in 2664 (w := .methodLink "RoutingFieldModel" 801 ⟨"RoutingFieldModel", "become", "(II)V"⟩) (by decide +kernel) rfl) ki_Mo_become ks_Mo_become kn_Mo ko_Mo_become) rfl rfl rfl (by decide +kernel) ⟨Nat.le_of_ble_eq_true rfl, Nat.le_of_ble_eq_true rfl⟩) (ci := 12) rfl, List.forall_mem_cons.mpr ⟨pm_cokV hbs hZ ⟨hx, hb, hml, hown, hts⟩ (kW_Mo_forsake l D base sa) (fun mc ms => cwV 2 hts (pw_gV (pw_in 2672 (w := .methodLink "RoutingFieldModel" 804 ⟨"RoutingFieldModel", "forsake", "(II)V"⟩) (by decide +kernel) rfl) ki_Mo_forsake ks_Mo_forsake kn_Mo ko_Mo_forsake) rfl rfl rfl (by decide +kernel) ⟨Nat.le_of_ble_eq_true rfl, Nat.le_of_ble_eq_true rfl⟩) (ci := 12) rfl, List.forall_mem_cons.mpr ⟨pm_cokS hbs hZ ⟨hx, hb, hml, hown, hts⟩ (kW_Mo_maskHigh l D base sa) (fun mc ms => va_cwS 1 hts (pw_gS (pw_in 2653 (w := .methodLink "RoutingFieldModel" 433 ⟨"RoutingFieldModel", "maskHigh", "(I)J"⟩) (by decide +kernel) rfl) kv_Mo_maskHigh kn_Mo ko_Mo_maskHigh) rfl rfl rfl (by decide +kernel) ⟨Nat.le_of_ble_eq_true rfl, Nat.le_of_ble_eq_true rfl⟩) (Nat.le_of_ble_eq_true rfl), List.forall_mem_cons.mpr ⟨pm_cokS hbs hZ ⟨hx, hb, hml, hown, hts⟩ (kW_Mo_maskLow l D base sa) (fun mc ms => va_cwS 1 hts (pw_gS (pw_in 2657 (w := .methodLink "RoutingFieldModel" 437 ⟨"RoutingFieldModel", "maskLow", "(I)J"⟩) (by decide +kernel) rfl) kv_Mo_maskLow kn_Mo ko_Mo_maskLow) rfl rfl rfl (by decide +kernel) ⟨Nat.le_of_ble_eq_true rfl, Nat.le_of_ble_eq_true rfl⟩) (Nat.le_of_ble_eq_true rfl), List.forall_mem_cons.mpr ⟨pm_cokV hbs hZ ⟨hx, hb, hml, hown, hts⟩ (kW_Mo_come l D base sa) (fun mc ms => cwV 5 hts (pw_gV (pw_in 2680 (w := .methodLink "RoutingFieldModel" 807 ⟨"RoutingFieldModel", "come", "(IIJJI)V"⟩) (by decide +kernel) rfl) ki_Mo_come ks_Mo_come kn_Mo ko_Mo_come) rfl rfl rfl (by decide +kernel) ⟨Nat.le_of_ble_eq_true rfl, Nat.le_of_ble_eq_true rfl⟩) (ci := 12) rfl, fun _ h => absurd h List.not_mem_nil⟩⟩⟩⟩⟩⟩),
    hZ, kst_ok ht hZ (kS_Mo_ok sa), knar_ok ht, ktx_ok (kE_Mo_ok sa)⟩
set_option maxRecDepth 100000 in
theorem ki_Mo_isGood : Cond.instanceMethod ⟨"RoutingFieldModel", "isGood", "(I)Z"⟩ ∈ pw_T := (pw_in 2725 (by decide +kernel) rfl)
set_option maxRecDepth 100000 in
theorem ks_Mo_isGood : Cond.selects "RoutingFieldModel" ⟨"RoutingFieldModel", "isGood", "(I)Z"⟩ ⟨"RoutingFieldModel", "isGood", "(I)Z"⟩ ∈ pw_T := (pw_sel 153 (q := (⟨"RoutingFieldModel", "isGood", "(I)Z"⟩, 166)) (by decide +kernel))
set_option maxRecDepth 100000 in
theorem ko_Mo_isGood : Cond.code ⟨"RoutingFieldModel", "isGood", "(I)Z"⟩ prog_14_method_94_code 2 (some .boolean) ∈ pw_T := (pw_in 2726 rfl rfl)
set_option maxRecDepth 100000 in
theorem kD_Mo_isGood : ∀ q ∈ kC_Mo_isGood, decode prog_14_method_94_code q.1 = .ok (q.2, pm_len q.1 q.2) := by decide +kernel
set_option maxRecDepth 100000 in
theorem kW_Mo_isGood (l : Launch) (D : va_G) (base : Nat) (sa : Nat → Nat) : pm_Met l D kcl base (kZ sa) ⟨"RoutingFieldModel", "isGood", "(I)Z"⟩ (.code ⟨"RoutingFieldModel", "isGood", "(I)Z"⟩ prog_14_method_94_code 2 (some .boolean) :: pw_T) 0 0 (kP_Mo_isGood base sa) := by
  refine pm_met (by decide) rfl rfl ?_
  intro mc ms p e s m args below meth c hx hb hml hown hnm hts hbs hZ
  have ht : ∀ w ∈ pw_T, w.before args s = true := fun w h => hts w (List.mem_cons_of_mem _ h)
  exact ⟨hx, hb, hown, hbs, pm_look_all kD_Mo_isGood, kf_ok (init := false) ht hZ kF_Mo_ok (fun h => by cases h), km_ok ht kM_Mo_ok, kci_ok ht kI_Mo_ok, kli_ok ht kJ_Mo_ok, kar_ok ht hZ kA_Mo_ok,
    pm_look_all (fun _ h => absurd h List.not_mem_nil),
    hZ, kst_ok ht hZ (kS_Mo_ok sa), knar_ok ht, ktx_ok (kE_Mo_ok sa)⟩
