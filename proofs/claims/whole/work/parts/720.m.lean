set_option maxRecDepth 100000 in
theorem ki_Mo_lineRouter : Cond.instanceMethod ⟨"RoutingFieldModel", "lineRouter", "()I"⟩ ∈ pw_T := (pw_in 2565 (by decide +kernel) rfl)
set_option maxRecDepth 100000 in
theorem ks_Mo_lineRouter : Cond.selects "RoutingFieldModel" ⟨"RoutingFieldModel", "lineRouter", "()I"⟩ ⟨"RoutingFieldModel", "lineRouter", "()I"⟩ ∈ pw_T := (pw_sel 120 (q := (⟨"RoutingFieldModel", "lineRouter", "()I"⟩, 166)) (by decide +kernel))
set_option maxRecDepth 100000 in
theorem ko_Mo_lineRouter : Cond.code ⟨"RoutingFieldModel", "lineRouter", "()I"⟩ prog_14_method_41_code 5 (some .int) ∈ pw_T := (pw_in 2566 rfl rfl)
set_option maxRecDepth 100000 in
theorem kD_Mo_lineRouter_0 : ∀ q ∈ kC_Mo_lineRouter_0, decode prog_14_method_41_code q.1 = .ok (q.2, pm_len q.1 q.2) := by decide +kernel
set_option maxRecDepth 100000 in
theorem kD_Mo_lineRouter_1 : ∀ q ∈ kC_Mo_lineRouter_1, decode prog_14_method_41_code q.1 = .ok (q.2, pm_len q.1 q.2) := by decide +kernel
theorem kD_Mo_lineRouter : ∀ q ∈ kC_Mo_lineRouter, decode prog_14_method_41_code q.1 = .ok (q.2, pm_len q.1 q.2) := List.forall_mem_append.mpr ⟨kD_Mo_lineRouter_0, kD_Mo_lineRouter_1⟩
set_option maxRecDepth 100000 in
theorem kW_Mo_lineRouter (l : Launch) (D : va_G) (base : Nat) (sa : Nat → Nat) : pm_Met l D kcl base (kZ sa) ⟨"RoutingFieldModel", "lineRouter", "()I"⟩ (.code ⟨"RoutingFieldModel", "lineRouter", "()I"⟩ prog_14_method_41_code 5 (some .int) :: pw_T) 3 74 (kP_Mo_lineRouter base sa) := by
  refine pm_met (by decide) rfl rfl ?_
  intro mc ms p e s m args below meth c hx hb hml hown hnm hts hbs hZ
  have ht : ∀ w ∈ pw_T, w.before args s = true := fun w h => hts w (List.mem_cons_of_mem _ h)
  exact ⟨hx, hb, hown, hbs, pm_look_all kD_Mo_lineRouter, kf_ok (init := false) ht hZ kF_Mo_ok (fun h => by cases h), km_ok ht kM_Mo_ok, kci_ok ht kI_Mo_ok, kli_ok ht kJ_Mo_ok, kar_ok ht hZ kA_Mo_ok,
    pm_look_all (List.forall_mem_cons.mpr ⟨pm_cokV hbs hZ ⟨hx, hb, hml, hown, hts⟩ (kW_Mo_name l D base sa) (fun mc ms => cwV 1 hts (pw_gV (pw_in 2542 (w := .methodLink "RoutingFieldModel" 640 ⟨"RoutingFieldModel", "name", "(I)J"⟩) (by decide +kernel) rfl) ki_Mo_name ks_Mo_name kn_Mo ko_Mo_name) rfl rfl rfl (by decide +kernel) ⟨Nat.le_of_ble_eq_true rfl, Nat.le_of_ble_eq_true rfl⟩) (ci := 12) rfl, List.forall_mem_cons.mpr ⟨pm_cokV hbs hZ ⟨hx, hb, hml, hown, hts⟩ (kW_Mo_routerNamed l D base sa) (fun mc ms => cwV 1 hts (pw_gV (pw_in 2567 (w := .methodLink "RoutingFieldModel" 654 ⟨"RoutingFieldModel", "routerNamed", "(J)I"⟩) (by decide +kernel) rfl) ki_Mo_routerNamed ks_Mo_routerNamed kn_Mo ko_Mo_routerNamed) rfl rfl rfl (by decide +kernel) ⟨Nat.le_of_ble_eq_true rfl, Nat.le_of_ble_eq_true rfl⟩) (ci := 12) rfl, fun _ h => absurd h List.not_mem_nil⟩⟩),
    hZ, kst_ok ht hZ (kS_Mo_ok sa), knar_ok ht, ktx_ok (kE_Mo_ok sa)⟩
set_option maxRecDepth 100000 in
theorem ki_Mo_isKeyOption : Cond.instanceMethod ⟨"RoutingFieldModel", "isKeyOption", "(I)Z"⟩ ∈ pw_T := (pw_in 2618 (by decide +kernel) rfl)
set_option maxRecDepth 100000 in
theorem ks_Mo_isKeyOption : Cond.selects "RoutingFieldModel" ⟨"RoutingFieldModel", "isKeyOption", "(I)Z"⟩ ⟨"RoutingFieldModel", "isKeyOption", "(I)Z"⟩ ∈ pw_T := (pw_sel 130 (q := (⟨"RoutingFieldModel", "isKeyOption", "(I)Z"⟩, 166)) (by decide +kernel))
set_option maxRecDepth 100000 in
theorem ko_Mo_isKeyOption : Cond.code ⟨"RoutingFieldModel", "isKeyOption", "(I)Z"⟩ prog_14_method_43_code 2 (some .boolean) ∈ pw_T := (pw_in 2619 rfl rfl)
set_option maxRecDepth 100000 in
theorem kD_Mo_isKeyOption : ∀ q ∈ kC_Mo_isKeyOption, decode prog_14_method_43_code q.1 = .ok (q.2, pm_len q.1 q.2) := by decide +kernel
set_option maxRecDepth 100000 in
theorem kW_Mo_isKeyOption (l : Launch) (D : va_G) (base : Nat) (sa : Nat → Nat) : pm_Met l D kcl base (kZ sa) ⟨"RoutingFieldModel", "isKeyOption", "(I)Z"⟩ (.code ⟨"RoutingFieldModel", "isKeyOption", "(I)Z"⟩ prog_14_method_43_code 2 (some .boolean) :: pw_T) 3 72 (kP_Mo_isKeyOption base sa) := by
  refine pm_met (by decide) rfl rfl ?_
  intro mc ms p e s m args below meth c hx hb hml hown hnm hts hbs hZ
  have ht : ∀ w ∈ pw_T, w.before args s = true := fun w h => hts w (List.mem_cons_of_mem _ h)
  exact ⟨hx, hb, hown, hbs, pm_look_all kD_Mo_isKeyOption, kf_ok (init := false) ht hZ kF_Mo_ok (fun h => by cases h), km_ok ht kM_Mo_ok, kci_ok ht kI_Mo_ok, kli_ok ht kJ_Mo_ok, kar_ok ht hZ kA_Mo_ok,
    pm_look_all (List.forall_mem_cons.mpr ⟨pm_cokV hbs hZ ⟨hx, hb, hml, hown, hts⟩ (kW_Mo_isNumber l D base sa) (fun mc ms => cwV 3 hts (pw_gV (pw_in 2554 (w := .methodLink "RoutingFieldModel" 650 ⟨"RoutingFieldModel", "isNumber", "(III)Z"⟩) (by decide +kernel) rfl) ki_Mo_isNumber ks_Mo_isNumber kn_Mo ko_Mo_isNumber) rfl rfl rfl (by decide +kernel) ⟨Nat.le_of_ble_eq_true rfl, Nat.le_of_ble_eq_true rfl⟩) (ci := 12) rfl, List.forall_mem_cons.mpr ⟨pm_cokV hbs hZ ⟨hx, hb, hml, hown, hts⟩ (kW_Mo_isSecret l D base sa) (fun mc ms => cwV 1 hts (pw_gV (pw_in 2612 (w := .methodLink "RoutingFieldModel" 676 ⟨"RoutingFieldModel", "isSecret", "(I)Z"⟩) (by decide +kernel) rfl) ki_Mo_isSecret ks_Mo_isSecret kn_Mo ko_Mo_isSecret) rfl rfl rfl (by decide +kernel) ⟨Nat.le_of_ble_eq_true rfl, Nat.le_of_ble_eq_true rfl⟩) (ci := 12) rfl, fun _ h => absurd h List.not_mem_nil⟩⟩),
    hZ, kst_ok ht hZ (kS_Mo_ok sa), knar_ok ht, ktx_ok (kE_Mo_ok sa)⟩
set_option maxRecDepth 100000 in
theorem ki_Mo_haveRoom : Cond.instanceMethod ⟨"RoutingFieldModel", "haveRoom", "(IIII)Z"⟩ ∈ pw_T := (pw_in 2622 (by decide +kernel) rfl)
set_option maxRecDepth 100000 in
theorem ks_Mo_haveRoom : Cond.selects "RoutingFieldModel" ⟨"RoutingFieldModel", "haveRoom", "(IIII)Z"⟩ ⟨"RoutingFieldModel", "haveRoom", "(IIII)Z"⟩ ∈ pw_T := (pw_sel 131 (q := (⟨"RoutingFieldModel", "haveRoom", "(IIII)Z"⟩, 166)) (by decide +kernel))
set_option maxRecDepth 100000 in
theorem ko_Mo_haveRoom : Cond.code ⟨"RoutingFieldModel", "haveRoom", "(IIII)Z"⟩ prog_14_method_44_code 12 (some .boolean) ∈ pw_T := (pw_in 2623 rfl rfl)
set_option maxRecDepth 100000 in
theorem kD_Mo_haveRoom_0 : ∀ q ∈ kC_Mo_haveRoom_0, decode prog_14_method_44_code q.1 = .ok (q.2, pm_len q.1 q.2) := by decide +kernel
set_option maxRecDepth 100000 in
theorem kD_Mo_haveRoom_1 : ∀ q ∈ kC_Mo_haveRoom_1, decode prog_14_method_44_code q.1 = .ok (q.2, pm_len q.1 q.2) := by decide +kernel
set_option maxRecDepth 100000 in
theorem kD_Mo_haveRoom_2 : ∀ q ∈ kC_Mo_haveRoom_2, decode prog_14_method_44_code q.1 = .ok (q.2, pm_len q.1 q.2) := by decide +kernel
theorem kD_Mo_haveRoom : ∀ q ∈ kC_Mo_haveRoom, decode prog_14_method_44_code q.1 = .ok (q.2, pm_len q.1 q.2) := List.forall_mem_append.mpr ⟨kD_Mo_haveRoom_0, List.forall_mem_append.mpr ⟨kD_Mo_haveRoom_1, kD_Mo_haveRoom_2⟩⟩
set_option maxRecDepth 100000 in
theorem kW_Mo_haveRoom (l : Launch) (D : va_G) (base : Nat) (sa : Nat → Nat) : pm_Met l D kcl base (kZ sa) ⟨"RoutingFieldModel", "haveRoom", "(IIII)Z"⟩ (.code ⟨"RoutingFieldModel", "haveRoom", "(IIII)Z"⟩ prog_14_method_44_code 12 (some .boolean) :: pw_T) 2 48 (kP_Mo_haveRoom base sa) := by
  refine pm_met (by decide) rfl rfl ?_
  intro mc ms p e s m args below meth c hx hb hml hown hnm hts hbs hZ
  have ht : ∀ w ∈ pw_T, w.before args s = true := fun w h => hts w (List.mem_cons_of_mem _ h)
  exact ⟨hx, hb, hown, hbs, pm_look_all kD_Mo_haveRoom, kf_ok (init := false) ht hZ kF_Mo_ok (fun h => by cases h), km_ok ht kM_Mo_ok, kci_ok ht kI_Mo_ok, kli_ok ht kJ_Mo_ok, kar_ok ht hZ kA_Mo_ok,
    pm_look_all (List.forall_mem_cons.mpr ⟨pm_cokV hbs hZ ⟨hx, hb, hml, hown, hts⟩ (kW_Mo_number l D base sa) (fun mc ms => cwV 1 hts (pw_gV (pw_in 2558 (w := .methodLink "RoutingFieldModel" 470 ⟨"RoutingFieldModel", "number", "(I)I"⟩) (by decide +kernel) rfl) ki_Mo_number ks_Mo_number kn_Mo ko_Mo_number) rfl rfl rfl (by decide +kernel) ⟨Nat.le_of_ble_eq_true rfl, Nat.le_of_ble_eq_true rfl⟩) (ci := 12) rfl, fun _ h => absurd h List.not_mem_nil⟩),
    hZ, kst_ok ht hZ (kS_Mo_ok sa), knar_ok ht, ktx_ok (kE_Mo_ok sa)⟩
set_option maxRecDepth 100000 in
theorem ki_Mo_newInterface : Cond.instanceMethod ⟨"RoutingFieldModel", "newInterface", "(II)I"⟩ ∈ pw_T := (pw_in 2626 (by decide +kernel) rfl)
set_option maxRecDepth 100000 in
theorem ks_Mo_newInterface : Cond.selects "RoutingFieldModel" ⟨"RoutingFieldModel", "newInterface", "(II)I"⟩ ⟨"RoutingFieldModel", "newInterface", "(II)I"⟩ ∈ pw_T := (pw_sel 132 (q := (⟨"RoutingFieldModel", "newInterface", "(II)I"⟩, 166)) (by decide +kernel))
set_option maxRecDepth 100000 in
theorem ko_Mo_newInterface : Cond.code ⟨"RoutingFieldModel", "newInterface", "(II)I"⟩ prog_14_method_45_code 4 (some .int) ∈ pw_T := (pw_in 2627 rfl rfl)
set_option maxRecDepth 100000 in
theorem kD_Mo_newInterface : ∀ q ∈ kC_Mo_newInterface, decode prog_14_method_45_code q.1 = .ok (q.2, pm_len q.1 q.2) := by decide +kernel
set_option maxRecDepth 100000 in
theorem kW_Mo_newInterface (l : Launch) (D : va_G) (base : Nat) (sa : Nat → Nat) : pm_Met l D kcl base (kZ sa) ⟨"RoutingFieldModel", "newInterface", "(II)I"⟩ (.code ⟨"RoutingFieldModel", "newInterface", "(II)I"⟩ prog_14_method_45_code 4 (some .int) :: pw_T) 0 0 (kP_Mo_newInterface base sa) := by
  refine pm_met (by decide) rfl rfl ?_
  intro mc ms p e s m args below meth c hx hb hml hown hnm hts hbs hZ
  have ht : ∀ w ∈ pw_T, w.before args s = true := fun w h => hts w (List.mem_cons_of_mem _ h)
  exact ⟨hx, hb, hown, hbs, pm_look_all kD_Mo_newInterface, kf_ok (init := false) ht hZ kF_Mo_ok (fun h => by cases h), km_ok ht kM_Mo_ok, kci_ok ht kI_Mo_ok, kli_ok ht kJ_Mo_ok, kar_ok ht hZ kA_Mo_ok,
    pm_look_all (fun _ h => absurd h List.not_mem_nil),
    hZ, kst_ok ht hZ (kS_Mo_ok sa), knar_ok ht, ktx_ok (kE_Mo_ok sa)⟩
set_option maxRecDepth 100000 in
theorem ki_Mo_takePassword : Cond.instanceMethod ⟨"RoutingFieldModel", "takePassword", "(II)V"⟩ ∈ pw_T := (pw_in 2630 (by decide +kernel) rfl)
set_option maxRecDepth 100000 in
theorem ks_Mo_takePassword : Cond.selects "RoutingFieldModel" ⟨"RoutingFieldModel", "takePassword", "(II)V"⟩ ⟨"RoutingFieldModel", "takePassword", "(II)V"⟩ ∈ pw_T := (pw_sel 133 (q := (⟨"RoutingFieldModel", "takePassword", "(II)V"⟩, 166)) (by decide +kernel))
set_option maxRecDepth 100000 in
theorem ko_Mo_takePassword : Cond.code ⟨"RoutingFieldModel", "takePassword", "(II)V"⟩ prog_14_method_46_code 4 none ∈ pw_T := (pw_in 2631 rfl rfl)
set_option maxRecDepth 100000 in
theorem kD_Mo_takePassword : ∀ q ∈ kC_Mo_takePassword, decode prog_14_method_46_code q.1 = .ok (q.2, pm_len q.1 q.2) := by decide +kernel
set_option maxRecDepth 100000 in
theorem kW_Mo_takePassword (l : Launch) (D : va_G) (base : Nat) (sa : Nat → Nat) : pm_Met l D kcl base (kZ sa) ⟨"RoutingFieldModel", "takePassword", "(II)V"⟩ (.code ⟨"RoutingFieldModel", "takePassword", "(II)V"⟩ prog_14_method_46_code 4 none :: pw_T) 0 0 (kP_Mo_takePassword base sa) := by
  refine pm_met (by decide) rfl rfl ?_
  intro mc ms p e s m args below meth c hx hb hml hown hnm hts hbs hZ
  have ht : ∀ w ∈ pw_T, w.before args s = true := fun w h => hts w (List.mem_cons_of_mem _ h)
  exact ⟨hx, hb, hown, hbs, pm_look_all kD_Mo_takePassword, kf_ok (init := false) ht hZ kF_Mo_ok (fun h => by cases h), km_ok ht kM_Mo_ok, kci_ok ht kI_Mo_ok, kli_ok ht kJ_Mo_ok, kar_ok ht hZ kA_Mo_ok,
    pm_look_all (fun _ h => absurd h List.not_mem_nil),
    hZ, kst_ok ht hZ (kS_Mo_ok sa), knar_ok ht, ktx_ok (kE_Mo_ok sa)⟩
set_option maxRecDepth 100000 in
theorem ki_Mo_keyPlace : Cond.instanceMethod ⟨"RoutingFieldModel", "keyPlace", "(II)I"⟩ ∈ pw_T := (pw_in 2639 (by decide +kernel) rfl)
set_option maxRecDepth 100000 in
theorem ks_Mo_keyPlace : Cond.selects "RoutingFieldModel" ⟨"RoutingFieldModel", "keyPlace", "(II)I"⟩ ⟨"RoutingFieldModel", "keyPlace", "(II)I"⟩ ∈ pw_T := (pw_sel 135 (q := (⟨"RoutingFieldModel", "keyPlace", "(II)I"⟩, 166)) (by decide +kernel))
set_option maxRecDepth 100000 in
theorem ko_Mo_keyPlace : Cond.code ⟨"RoutingFieldModel", "keyPlace", "(II)I"⟩ prog_14_method_47_code 4 (some .int) ∈ pw_T := (pw_in 2640 rfl rfl)
set_option maxRecDepth 100000 in
theorem kD_Mo_keyPlace : ∀ q ∈ kC_Mo_keyPlace, decode prog_14_method_47_code q.1 = .ok (q.2, pm_len q.1 q.2) := by decide +kernel
set_option maxRecDepth 100000 in
theorem kW_Mo_keyPlace (l : Launch) (D : va_G) (base : Nat) (sa : Nat → Nat) : pm_Met l D kcl base (kZ sa) ⟨"RoutingFieldModel", "keyPlace", "(II)I"⟩ (.code ⟨"RoutingFieldModel", "keyPlace", "(II)I"⟩ prog_14_method_47_code 4 (some .int) :: pw_T) 0 0 (kP_Mo_keyPlace base sa) := by
  refine pm_met (by decide) rfl rfl ?_
  intro mc ms p e s m args below meth c hx hb hml hown hnm hts hbs hZ
  have ht : ∀ w ∈ pw_T, w.before args s = true := fun w h => hts w (List.mem_cons_of_mem _ h)
  exact ⟨hx, hb, hown, hbs, pm_look_all kD_Mo_keyPlace, kf_ok (init := false) ht hZ kF_Mo_ok (fun h => by cases h), km_ok ht kM_Mo_ok, kci_ok ht kI_Mo_ok, kli_ok ht kJ_Mo_ok, kar_ok ht hZ kA_Mo_ok,
    pm_look_all (fun _ h => absurd h List.not_mem_nil),
    hZ, kst_ok ht hZ (kS_Mo_ok sa), knar_ok ht, ktx_ok (kE_Mo_ok sa)⟩
set_option maxRecDepth 100000 in
theorem ki_Mo_takeKey : Cond.instanceMethod ⟨"RoutingFieldModel", "takeKey", "(IIZIII)V"⟩ ∈ pw_T := (pw_in 2635 (by decide +kernel) rfl)
set_option maxRecDepth 100000 in
theorem ks_Mo_takeKey : Cond.selects "RoutingFieldModel" ⟨"RoutingFieldModel", "takeKey", "(IIZIII)V"⟩ ⟨"RoutingFieldModel", "takeKey", "(IIZIII)V"⟩ ∈ pw_T := (pw_sel 134 (q := (⟨"RoutingFieldModel", "takeKey", "(IIZIII)V"⟩, 166)) (by decide +kernel))
set_option maxRecDepth 100000 in
theorem ko_Mo_takeKey : Cond.code ⟨"RoutingFieldModel", "takeKey", "(IIZIII)V"⟩ prog_14_method_48_code 10 none ∈ pw_T := (pw_in 2636 rfl rfl)
set_option maxRecDepth 100000 in
theorem kD_Mo_takeKey_0 : ∀ q ∈ kC_Mo_takeKey_0, decode prog_14_method_48_code q.1 = .ok (q.2, pm_len q.1 q.2) := by decide +kernel
set_option maxRecDepth 100000 in
theorem kD_Mo_takeKey_1 : ∀ q ∈ kC_Mo_takeKey_1, decode prog_14_method_48_code q.1 = .ok (q.2, pm_len q.1 q.2) := by decide +kernel
theorem kD_Mo_takeKey : ∀ q ∈ kC_Mo_takeKey, decode prog_14_method_48_code q.1 = .ok (q.2, pm_len q.1 q.2) := List.forall_mem_append.mpr ⟨kD_Mo_takeKey_0, kD_Mo_takeKey_1⟩
set_option maxRecDepth 100000 in
theorem kW_Mo_takeKey (l : Launch) (D : va_G) (base : Nat) (sa : Nat → Nat) : pm_Met l D kcl base (kZ sa) ⟨"RoutingFieldModel", "takeKey", "(IIZIII)V"⟩ (.code ⟨"RoutingFieldModel", "takeKey", "(IIZIII)V"⟩ prog_14_method_48_code 10 none :: pw_T) 1 23 (kP_Mo_takeKey base sa) := by
  refine pm_met (by decide) rfl rfl ?_
  intro mc ms p e s m args below meth c hx hb hml hown hnm hts hbs hZ
  have ht : ∀ w ∈ pw_T, w.before args s = true := fun w h => hts w (List.mem_cons_of_mem _ h)
  exact ⟨hx, hb, hown, hbs, pm_look_all kD_Mo_takeKey, kf_ok (init := false) ht hZ kF_Mo_ok (fun h => by cases h), km_ok ht kM_Mo_ok, kci_ok ht kI_Mo_ok, kli_ok ht kJ_Mo_ok, kar_ok ht hZ kA_Mo_ok,
    pm_look_all (List.forall_mem_cons.mpr ⟨pm_cokV hbs hZ ⟨hx, hb, hml, hown, hts⟩ (kW_Mo_keyPlace l D base sa) (fun mc ms => cwV 2 hts (pw_gV (pw_in 2637 (w := .methodLink "RoutingFieldModel" 703 ⟨"RoutingFieldModel", "keyPlace", "(II)I"⟩) (by decide +kernel) rfl) ki_Mo_keyPlace ks_Mo_keyPlace kn_Mo ko_Mo_keyPlace) rfl rfl rfl (by decide +kernel) ⟨Nat.le_of_ble_eq_true rfl, Nat.le_of_ble_eq_true rfl⟩) (ci := 12) rfl, fun _ h => absurd h List.not_mem_nil⟩),
    hZ, kst_ok ht hZ (kS_Mo_ok sa), knar_ok ht, ktx_ok (kE_Mo_ok sa)⟩
set_option maxRecDepth 100000 in
theorem ki_Mo_isNetwork : Cond.instanceMethod ⟨"RoutingFieldModel", "isNetwork", "(IJJI)Z"⟩ ∈ pw_T := (pw_in 2651 (by decide +kernel) rfl)
set_option maxRecDepth 100000 in
theorem ks_Mo_isNetwork : Cond.selects "RoutingFieldModel" ⟨"RoutingFieldModel", "isNetwork", "(IJJI)Z"⟩ ⟨"RoutingFieldModel", "isNetwork", "(IJJI)Z"⟩ ∈ pw_T := (pw_sel 138 (q := (⟨"RoutingFieldModel", "isNetwork", "(IJJI)Z"⟩, 166)) (by decide +kernel))
set_option maxRecDepth 100000 in
theorem ko_Mo_isNetwork : Cond.code ⟨"RoutingFieldModel", "isNetwork", "(IJJI)Z"⟩ prog_14_method_79_code 7 (some .boolean) ∈ pw_T := (pw_in 2652 rfl rfl)
set_option maxRecDepth 100000 in
theorem kD_Mo_isNetwork : ∀ q ∈ kC_Mo_isNetwork, decode prog_14_method_79_code q.1 = .ok (q.2, pm_len q.1 q.2) := by decide +kernel
set_option maxRecDepth 100000 in
theorem kW_Mo_isNetwork (l : Launch) (D : va_G) (base : Nat) (sa : Nat → Nat) : pm_Met l D kcl base (kZ sa) ⟨"RoutingFieldModel", "isNetwork", "(IJJI)Z"⟩ (.code ⟨"RoutingFieldModel", "isNetwork", "(IJJI)Z"⟩ prog_14_method_79_code 7 (some .boolean) :: pw_T) 1 24 (kP_Mo_isNetwork base sa) := by
  refine pm_met (by decide) rfl rfl ?_
  intro mc ms p e s m args below meth c hx hb hml hown hnm hts hbs hZ
  have ht : ∀ w ∈ pw_T, w.before args s = true := fun w h => hts w (List.mem_cons_of_mem _ h)
  exact ⟨hx, hb, hown, hbs, pm_look_all kD_Mo_isNetwork, kf_ok (init := false) ht hZ kF_Mo_ok (fun h => by cases h), km_ok ht kM_Mo_ok, kci_ok ht kI_Mo_ok, kli_ok ht kJ_Mo_ok, kar_ok ht hZ kA_Mo_ok,
    pm_look_all (List.forall_mem_cons.mpr ⟨pm_cokS hbs hZ ⟨hx, hb, hml, hown, hts⟩ (kW_Mo_maskHigh l D base sa) (fun mc ms => va_cwS 1 hts (pw_gS (pw_in 2653 (w := .methodLink "RoutingFieldModel" 433 ⟨"RoutingFieldModel", "maskHigh", "(I)J"⟩) (by decide +kernel) rfl) kv_Mo_maskHigh kn_Mo ko_Mo_maskHigh) rfl rfl rfl (by decide +kernel) ⟨Nat.le_of_ble_eq_true rfl, Nat.le_of_ble_eq_true rfl⟩) (Nat.le_of_ble_eq_true rfl), List.forall_mem_cons.mpr ⟨pm_cokS hbs hZ ⟨hx, hb, hml, hown, hts⟩ (kW_Mo_maskLow l D base sa) (fun mc ms => va_cwS 1 hts (pw_gS (pw_in 2657 (w := .methodLink "RoutingFieldModel" 437 ⟨"RoutingFieldModel", "maskLow", "(I)J"⟩) (by decide +kernel) rfl) kv_Mo_maskLow kn_Mo ko_Mo_maskLow) rfl rfl rfl (by decide +kernel) ⟨Nat.le_of_ble_eq_true rfl, Nat.le_of_ble_eq_true rfl⟩) (Nat.le_of_ble_eq_true rfl), fun _ h => absurd h List.not_mem_nil⟩⟩),
    hZ, kst_ok ht hZ (kS_Mo_ok sa), knar_ok ht, ktx_ok (kE_Mo_ok sa)⟩
set_option maxRecDepth 100000 in
theorem ki_Mo_staticOf : Cond.instanceMethod ⟨"RoutingFieldModel", "staticOf", "(IIJJI)I"⟩ ∈ pw_T := (pw_in 2662 (by decide +kernel) rfl)
set_option maxRecDepth 100000 in
theorem ks_Mo_staticOf : Cond.selects "RoutingFieldModel" ⟨"RoutingFieldModel", "staticOf", "(IIJJI)I"⟩ ⟨"RoutingFieldModel", "staticOf", "(IIJJI)I"⟩ ∈ pw_T := (pw_sel 139 (q := (⟨"RoutingFieldModel", "staticOf", "(IIJJI)I"⟩, 166)) (by decide +kernel))
set_option maxRecDepth 100000 in
theorem ko_Mo_staticOf : Cond.code ⟨"RoutingFieldModel", "staticOf", "(IIJJI)I"⟩ prog_14_method_52_code 9 (some .int) ∈ pw_T := (pw_in 2663 rfl rfl)
set_option maxRecDepth 100000 in
theorem kD_Mo_staticOf : ∀ q ∈ kC_Mo_staticOf, decode prog_14_method_52_code q.1 = .ok (q.2, pm_len q.1 q.2) := by decide +kernel
set_option maxRecDepth 100000 in
theorem kW_Mo_staticOf (l : Launch) (D : va_G) (base : Nat) (sa : Nat → Nat) : pm_Met l D kcl base (kZ sa) ⟨"RoutingFieldModel", "staticOf", "(IIJJI)I"⟩ (.code ⟨"RoutingFieldModel", "staticOf", "(IIJJI)I"⟩ prog_14_method_52_code 9 (some .int) :: pw_T) 0 0 (kP_Mo_staticOf base sa) := by
  refine pm_met (by decide) rfl rfl ?_
  intro mc ms p e s m args below meth c hx hb hml hown hnm hts hbs hZ
  have ht : ∀ w ∈ pw_T, w.before args s = true := fun w h => hts w (List.mem_cons_of_mem _ h)
  exact ⟨hx, hb, hown, hbs, pm_look_all kD_Mo_staticOf, kf_ok (init := false) ht hZ kF_Mo_ok (fun h => by cases h), km_ok ht kM_Mo_ok, kci_ok ht kI_Mo_ok, kli_ok ht kJ_Mo_ok, kar_ok ht hZ kA_Mo_ok,
    pm_look_all (fun _ h => absurd h List.not_mem_nil),
    hZ, kst_ok ht hZ (kS_Mo_ok sa), knar_ok ht, ktx_ok (kE_Mo_ok sa)⟩
set_option maxRecDepth 100000 in
theorem ki_Mo_isDue : Cond.instanceMethod ⟨"RoutingFieldModel", "isDue", "(IIJJI)Z"⟩ ∈ pw_T := (pw_in 2647 (by decide +kernel) rfl)
set_option maxRecDepth 100000 in
theorem ks_Mo_isDue : Cond.selects "RoutingFieldModel" ⟨"RoutingFieldModel", "isDue", "(IIJJI)Z"⟩ ⟨"RoutingFieldModel", "isDue", "(IIJJI)Z"⟩ ∈ pw_T := (pw_sel 137 (q := (⟨"RoutingFieldModel", "isDue", "(IIJJI)Z"⟩, 166)) (by decide +kernel))
set_option maxRecDepth 100000 in
theorem ko_Mo_isDue : Cond.code ⟨"RoutingFieldModel", "isDue", "(IIJJI)Z"⟩ prog_14_method_80_code 9 (some .boolean) ∈ pw_T := (pw_in 2648 rfl rfl)
set_option maxRecDepth 100000 in
theorem kD_Mo_isDue_0 : ∀ q ∈ kC_Mo_isDue_0, decode prog_14_method_80_code q.1 = .ok (q.2, pm_len q.1 q.2) := by decide +kernel
set_option maxRecDepth 100000 in
theorem kD_Mo_isDue_1 : ∀ q ∈ kC_Mo_isDue_1, decode prog_14_method_80_code q.1 = .ok (q.2, pm_len q.1 q.2) := by decide +kernel
theorem kD_Mo_isDue : ∀ q ∈ kC_Mo_isDue, decode prog_14_method_80_code q.1 = .ok (q.2, pm_len q.1 q.2) := List.forall_mem_append.mpr ⟨kD_Mo_isDue_0, kD_Mo_isDue_1⟩
set_option maxRecDepth 100000 in
theorem kW_Mo_isDue (l : Launch) (D : va_G) (base : Nat) (sa : Nat → Nat) : pm_Met l D kcl base (kZ sa) ⟨"RoutingFieldModel", "isDue", "(IIJJI)Z"⟩ (.code ⟨"RoutingFieldModel", "isDue", "(IIJJI)Z"⟩ prog_14_method_80_code 9 (some .boolean) :: pw_T) 2 50 (kP_Mo_isDue base sa) := by
  refine pm_met (by decide) rfl rfl ?_
  intro mc ms p e s m args below meth c hx hb hml hown hnm hts hbs hZ
  have ht : ∀ w ∈ pw_T, w.before args s = true := fun w h => hts w (List.mem_cons_of_mem _ h)
  exact ⟨hx, hb, hown, hbs, pm_look_all kD_Mo_isDue, kf_ok (init := false) ht hZ kF_Mo_ok (fun h => by cases h), km_ok ht kM_Mo_ok, kci_ok ht kI_Mo_ok, kli_ok ht kJ_Mo_ok, kar_ok ht hZ kA_Mo_ok,
    pm_look_all (List.forall_mem_cons.mpr ⟨pm_cokV hbs hZ ⟨hx, hb, hml, hown, hts⟩ (kW_Mo_isNetwork l D base sa) (fun mc ms => cwV 4 hts (pw_gV (pw_in 2649 (w := .methodLink "RoutingFieldModel" 776 ⟨"RoutingFieldModel", "isNetwork", "(IJJI)Z"⟩) (by decide +kernel) rfl) ki_Mo_isNetwork ks_Mo_isNetwork kn_Mo ko_Mo_isNetwork) rfl rfl rfl (by decide +kernel) ⟨Nat.le_of_ble_eq_true rfl, Nat.le_of_ble_eq_true rfl⟩) (ci := 12) rfl, List.forall_mem_cons.mpr ⟨pm_cokV hbs hZ ⟨hx, hb, hml, hown, hts⟩ (kW_Mo_staticOf l D base sa) (fun mc ms => cwV 5 hts (pw_gV (pw_in 2660 (w := .methodLink "RoutingFieldModel" 715 ⟨"RoutingFieldModel", "staticOf", "(IIJJI)I"⟩) (by decide +kernel) rfl) ki_Mo_staticOf ks_Mo_staticOf kn_Mo ko_Mo_staticOf) rfl rfl rfl (by decide +kernel) ⟨Nat.le_of_ble_eq_true rfl, Nat.le_of_ble_eq_true rfl⟩) (ci := 12) rfl, fun _ h => absurd h List.not_mem_nil⟩⟩),
    hZ, kst_ok ht hZ (kS_Mo_ok sa), knar_ok ht, ktx_ok (kE_Mo_ok sa)⟩
set_option maxRecDepth 100000 in
theorem ki_Mo_markChanged : Cond.instanceMethod ⟨"RoutingFieldModel", "markChanged", "(II)V"⟩ ∈ pw_T := (pw_in 2670 (by decide +kernel) rfl)
set_option maxRecDepth 100000 in
theorem ks_Mo_markChanged : Cond.selects "RoutingFieldModel" ⟨"RoutingFieldModel", "markChanged", "(II)V"⟩ ⟨"RoutingFieldModel", "markChanged", "(II)V"⟩ ∈ pw_T := (pw_sel 141 (q := (⟨"RoutingFieldModel", "markChanged", "(II)V"⟩, 166)) (by decide +kernel))
set_option maxRecDepth 100000 in
theorem ko_Mo_markChanged : Cond.code ⟨"RoutingFieldModel", "markChanged", "(II)V"⟩ prog_14_method_77_code 3 none ∈ pw_T := (pw_in 2671 rfl rfl)
set_option maxRecDepth 100000 in
theorem kD_Mo_markChanged : ∀ q ∈ kC_Mo_markChanged, decode prog_14_method_77_code q.1 = .ok (q.2, pm_len q.1 q.2) := by decide +kernel
set_option maxRecDepth 100000 in
theorem kW_Mo_markChanged (l : Launch) (D : va_G) (base : Nat) (sa : Nat → Nat) : pm_Met l D kcl base (kZ sa) ⟨"RoutingFieldModel", "markChanged", "(II)V"⟩ (.code ⟨"RoutingFieldModel", "markChanged", "(II)V"⟩ prog_14_method_77_code 3 none :: pw_T) 0 0 (kP_Mo_markChanged base sa) := by
  refine pm_met (by decide) rfl rfl ?_
  intro mc ms p e s m args below meth c hx hb hml hown hnm hts hbs hZ
  have ht : ∀ w ∈ pw_T, w.before args s = true := fun w h => hts w (List.mem_cons_of_mem _ h)
  exact ⟨hx, hb, hown, hbs, pm_look_all kD_Mo_markChanged, kf_ok (init := false) ht hZ kF_Mo_ok (fun h => by cases h), km_ok ht kM_Mo_ok, kci_ok ht kI_Mo_ok, kli_ok ht kJ_Mo_ok, kar_ok ht hZ kA_Mo_ok,
    pm_look_all (fun _ h => absurd h List.not_mem_nil),
    hZ, kst_ok ht hZ (kS_Mo_ok sa), knar_ok ht, ktx_ok (kE_Mo_ok sa)⟩
