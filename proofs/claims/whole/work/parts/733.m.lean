set_option maxRecDepth 100000 in
theorem ki_Mo_tick : Cond.instanceMethod ⟨"RoutingFieldModel", "tick", "()V"⟩ ∈ pw_T := (pw_in 2960 (by decide +kernel) rfl)
set_option maxRecDepth 100000 in
theorem ks_Mo_tick : Cond.selects "RoutingFieldModel" ⟨"RoutingFieldModel", "tick", "()V"⟩ ⟨"RoutingFieldModel", "tick", "()V"⟩ ∈ pw_T := (pw_sel 183 (q := (⟨"RoutingFieldModel", "tick", "()V"⟩, 166)) (by decide +kernel))
set_option maxRecDepth 100000 in
theorem ko_Mo_tick : Cond.code ⟨"RoutingFieldModel", "tick", "()V"⟩ prog_14_method_135_code 3 none ∈ pw_T := (pw_in 2961 rfl rfl)
set_option maxRecDepth 100000 in
theorem kD_Mo_tick_0 : ∀ q ∈ kC_Mo_tick_0, decode prog_14_method_135_code q.1 = .ok (q.2, pm_len q.1 q.2) := by decide +kernel
set_option maxRecDepth 100000 in
theorem kD_Mo_tick_1 : ∀ q ∈ kC_Mo_tick_1, decode prog_14_method_135_code q.1 = .ok (q.2, pm_len q.1 q.2) := by decide +kernel
theorem kD_Mo_tick : ∀ q ∈ kC_Mo_tick, decode prog_14_method_135_code q.1 = .ok (q.2, pm_len q.1 q.2) := List.forall_mem_append.mpr ⟨kD_Mo_tick_0, kD_Mo_tick_1⟩
set_option maxRecDepth 100000 in
theorem kW_Mo_tick (l : Launch) (D : va_G) (base : Nat) (sa : Nat → Nat) : pm_Met l D kcl base (kZ sa) ⟨"RoutingFieldModel", "tick", "()V"⟩ (.code ⟨"RoutingFieldModel", "tick", "()V"⟩ prog_14_method_135_code 3 none :: pw_T) 11 338 (kP_Mo_tick base sa) := by
  refine pm_met (by decide) rfl rfl ?_
  intro mc ms p e s m args below meth c hx hb hml hown hnm hts hbs hZ
  have ht : ∀ w ∈ pw_T, w.before args s = true := fun w h => hts w (List.mem_cons_of_mem _ h)
  exact ⟨hx, hb, hown, hbs, pm_look_all kD_Mo_tick, kf_ok (init := false) ht hZ kF_Mo_ok (fun h => by cases h), km_ok ht kM_Mo_ok, kci_ok ht kI_Mo_ok, kli_ok ht kJ_Mo_ok, kar_ok ht hZ kA_Mo_ok,
    pm_look_all (List.forall_mem_cons.mpr ⟨pm_cokV hbs hZ ⟨hx, hb, hml, hown, hts⟩ (kW_Mo_arrive l D base sa) (fun mc ms => cwV 1 hts (pw_gV (pw_in 2962 (w := .methodLink "RoutingFieldModel" 1096 ⟨"RoutingFieldModel", "arrive", "(I)V"⟩) (by decide +kernel) rfl) ki_Mo_arrive ks_Mo_arrive kn_Mo ko_Mo_arrive) rfl rfl rfl (by decide +kernel) ⟨Nat.le_of_ble_eq_true rfl, Nat.le_of_ble_eq_true rfl⟩) (ci := 12) rfl, List.forall_mem_cons.mpr ⟨pm_cokV hbs hZ ⟨hx, hb, hml, hown, hts⟩ (kW_Mo_age l D base sa) (fun mc ms => cwV 1 hts (pw_gV (pw_in 3101 (w := .methodLink "RoutingFieldModel" 1099 ⟨"RoutingFieldModel", "age", "(I)V"⟩) (by decide +kernel) rfl) ki_Mo_age ks_Mo_age kn_Mo ko_Mo_age) rfl rfl rfl (by decide +kernel) ⟨Nat.le_of_ble_eq_true rfl, Nat.le_of_ble_eq_true rfl⟩) (ci := 12) rfl, List.forall_mem_cons.mpr ⟨pm_cokV hbs hZ ⟨hx, hb, hml, hown, hts⟩ (kW_Mo_tellAll l D base sa) (fun mc ms => cwV 2 hts (pw_gV (pw_in 3109 (w := .methodLink "RoutingFieldModel" 1102 ⟨"RoutingFieldModel", "tellAll", "(II)V"⟩) (by decide +kernel) rfl) ki_Mo_tellAll ks_Mo_tellAll kn_Mo ko_Mo_tellAll) rfl rfl rfl (by decide +kernel) ⟨Nat.le_of_ble_eq_true rfl, Nat.le_of_ble_eq_true rfl⟩) (ci := 12) rfl, List.forall_mem_cons.mpr ⟨pm_cokV hbs hZ ⟨hx, hb, hml, hown, hts⟩ (kW_Mo_forget l D base sa) (fun mc ms => cwV 1 hts (pw_gV (pw_in 3117 (w := .methodLink "RoutingFieldModel" 1105 ⟨"RoutingFieldModel", "forget", "(I)V"⟩) (by decide +kernel) rfl) ki_Mo_forget ks_Mo_forget kn_Mo ko_Mo_forget) rfl rfl rfl (by decide +kernel) ⟨Nat.le_of_ble_eq_true rfl, Nat.le_of_ble_eq_true rfl⟩) (ci := 12) rfl, List.forall_mem_cons.mpr ⟨pm_cokV hbs hZ ⟨hx, hb, hml, hown, hts⟩ (kW_Mo_tally l D base sa) (fun mc ms => cwV 3 hts (pw_gV (pw_in 2974 (w := .methodLink "RoutingFieldModel" 1032 ⟨"RoutingFieldModel", "tally", "(III)V"⟩) (by decide +kernel) rfl) ki_Mo_tally ks_Mo_tally kn_Mo ko_Mo_tally) rfl rfl rfl (by decide +kernel) ⟨Nat.le_of_ble_eq_true rfl, Nat.le_of_ble_eq_true rfl⟩) (ci := 12) rfl, fun _ h => absurd h List.not_mem_nil⟩⟩⟩⟩⟩),
    hZ, kst_ok ht hZ (kS_Mo_ok sa), knar_ok ht, ktx_ok (kE_Mo_ok sa)⟩
set_option maxRecDepth 100000 in
theorem ki_Mo_ticks : Cond.instanceMethod ⟨"RoutingFieldModel", "ticks", "(I)I"⟩ ∈ pw_T := (pw_in 2955 (by decide +kernel) rfl)
set_option maxRecDepth 100000 in
theorem ks_Mo_ticks : Cond.selects "RoutingFieldModel" ⟨"RoutingFieldModel", "ticks", "(I)I"⟩ ⟨"RoutingFieldModel", "ticks", "(I)I"⟩ ∈ pw_T := (pw_in 2956 (by decide +kernel) rfl)
set_option maxRecDepth 100000 in
theorem ko_Mo_ticks : Cond.code ⟨"RoutingFieldModel", "ticks", "(I)I"⟩ prog_14_method_136_code 3 (some .int) ∈ pw_T := (pw_in 2957 rfl rfl)
set_option maxRecDepth 100000 in
theorem kD_Mo_ticks : ∀ q ∈ kC_Mo_ticks, decode prog_14_method_136_code q.1 = .ok (q.2, pm_len q.1 q.2) := by decide +kernel
set_option maxRecDepth 100000 in
theorem kW_Mo_ticks (l : Launch) (D : va_G) (base : Nat) (sa : Nat → Nat) : pm_Met l D kcl base (kZ sa) ⟨"RoutingFieldModel", "ticks", "(I)I"⟩ (.code ⟨"RoutingFieldModel", "ticks", "(I)I"⟩ prog_14_method_136_code 3 (some .int) :: pw_T) 12 360 (kP_Mo_ticks base sa) := by
  refine pm_met (by decide) rfl rfl ?_
  intro mc ms p e s m args below meth c hx hb hml hown hnm hts hbs hZ
  have ht : ∀ w ∈ pw_T, w.before args s = true := fun w h => hts w (List.mem_cons_of_mem _ h)
  exact ⟨hx, hb, hown, hbs, pm_look_all kD_Mo_ticks, kf_ok (init := false) ht hZ kF_Mo_ok (fun h => by cases h), km_ok ht kM_Mo_ok, kci_ok ht kI_Mo_ok, kli_ok ht kJ_Mo_ok, kar_ok ht hZ kA_Mo_ok,
    pm_look_all (List.forall_mem_cons.mpr ⟨pm_cokV hbs hZ ⟨hx, hb, hml, hown, hts⟩ (kW_Mo_tick l D base sa) (fun mc ms => cwV 0 hts (pw_gV (pw_in 2958 (w := .methodLink "RoutingFieldModel" 1108 ⟨"RoutingFieldModel", "tick", "()V"⟩) (by decide +kernel) rfl) ki_Mo_tick ks_Mo_tick kn_Mo ko_Mo_tick) rfl rfl rfl (by decide +kernel) ⟨Nat.le_of_ble_eq_true rfl, Nat.le_of_ble_eq_true rfl⟩) (ci := 12) rfl, fun _ h => absurd h List.not_mem_nil⟩),
    hZ, kst_ok ht hZ (kS_Mo_ok sa), knar_ok ht, ktx_ok (kE_Mo_ok sa)⟩
set_option maxRecDepth 100000 in
theorem ki_Mo_link : Cond.instanceMethod ⟨"RoutingFieldModel", "link", "(IZ)Z"⟩ ∈ pw_T := (pw_in 3122 (by decide +kernel) rfl)
set_option maxRecDepth 100000 in
theorem ks_Mo_link : Cond.selects "RoutingFieldModel" ⟨"RoutingFieldModel", "link", "(IZ)Z"⟩ ⟨"RoutingFieldModel", "link", "(IZ)Z"⟩ ∈ pw_T := (pw_in 3123 (by decide +kernel) rfl)
set_option maxRecDepth 100000 in
theorem ko_Mo_link : Cond.code ⟨"RoutingFieldModel", "link", "(IZ)Z"⟩ prog_14_method_137_code 7 (some .boolean) ∈ pw_T := (pw_in 3124 rfl rfl)
set_option maxRecDepth 100000 in
theorem kD_Mo_link_0 : ∀ q ∈ kC_Mo_link_0, decode prog_14_method_137_code q.1 = .ok (q.2, pm_len q.1 q.2) := by decide +kernel
set_option maxRecDepth 100000 in
theorem kD_Mo_link_1 : ∀ q ∈ kC_Mo_link_1, decode prog_14_method_137_code q.1 = .ok (q.2, pm_len q.1 q.2) := by decide +kernel
set_option maxRecDepth 100000 in
theorem kD_Mo_link_2 : ∀ q ∈ kC_Mo_link_2, decode prog_14_method_137_code q.1 = .ok (q.2, pm_len q.1 q.2) := by decide +kernel
theorem kD_Mo_link : ∀ q ∈ kC_Mo_link, decode prog_14_method_137_code q.1 = .ok (q.2, pm_len q.1 q.2) := List.forall_mem_append.mpr ⟨kD_Mo_link_0, List.forall_mem_append.mpr ⟨kD_Mo_link_1, kD_Mo_link_2⟩⟩
set_option maxRecDepth 100000 in
theorem kW_Mo_link (l : Launch) (D : va_G) (base : Nat) (sa : Nat → Nat) : pm_Met l D kcl base (kZ sa) ⟨"RoutingFieldModel", "link", "(IZ)Z"⟩ (.code ⟨"RoutingFieldModel", "link", "(IZ)Z"⟩ prog_14_method_137_code 7 (some .boolean) :: pw_T) 8 206 (kP_Mo_link base sa) := by
  refine pm_met (by decide) rfl rfl ?_
  intro mc ms p e s m args below meth c hx hb hml hown hnm hts hbs hZ
  have ht : ∀ w ∈ pw_T, w.before args s = true := fun w h => hts w (List.mem_cons_of_mem _ h)
  exact ⟨hx, hb, hown, hbs, pm_look_all kD_Mo_link, kf_ok (init := false) ht hZ kF_Mo_ok (fun h => by cases h), km_ok ht kM_Mo_ok, kci_ok ht kI_Mo_ok, kli_ok ht kJ_Mo_ok, kar_ok ht hZ kA_Mo_ok,
    pm_look_all (List.forall_mem_cons.mpr ⟨pm_cokV hbs hZ ⟨hx, hb, hml, hown, hts⟩ (kW_Mo_takeOff l D base sa) (fun mc ms => cwV 1 hts (pw_gV (pw_in 2966 (w := .methodLink "RoutingFieldModel" 1086 ⟨"RoutingFieldModel", "takeOff", "(I)V"⟩) (by decide +kernel) rfl) ki_Mo_takeOff ks_Mo_takeOff kn_Mo ko_Mo_takeOff) rfl rfl rfl (by decide +kernel) ⟨Nat.le_of_ble_eq_true rfl, Nat.le_of_ble_eq_true rfl⟩) (ci := 12) rfl, List.forall_mem_cons.mpr ⟨pm_cokV hbs hZ ⟨hx, hb, hml, hown, hts⟩ (kW_Mo_interfaceTo l D base sa) (fun mc ms => cwV 2 hts (pw_gV (pw_in 2608 (w := .methodLink "RoutingFieldModel" 672 ⟨"RoutingFieldModel", "interfaceTo", "(II)I"⟩) (by decide +kernel) rfl) ki_Mo_interfaceTo ks_Mo_interfaceTo kn_Mo ko_Mo_interfaceTo) rfl rfl rfl (by decide +kernel) ⟨Nat.le_of_ble_eq_true rfl, Nat.le_of_ble_eq_true rfl⟩) (ci := 12) rfl, List.forall_mem_cons.mpr ⟨pm_cokV hbs hZ ⟨hx, hb, hml, hown, hts⟩ (kW_Mo_die l D base sa) (fun mc ms => cwV 2 hts (pw_gV (pw_in 2676 (w := .methodLink "RoutingFieldModel" 789 ⟨"RoutingFieldModel", "die", "(II)V"⟩) (by decide +kernel) rfl) ki_Mo_die ks_Mo_die kn_Mo ko_Mo_die) rfl rfl rfl (by decide +kernel) ⟨Nat.le_of_ble_eq_true rfl, Nat.le_of_ble_eq_true rfl⟩) (ci := 12) rfl, List.forall_mem_cons.mpr ⟨pm_cokV hbs hZ ⟨hx, hb, hml, hown, hts⟩ (kW_Mo_settle l D base sa) (fun mc ms => cwV 1 hts (pw_gV (pw_in 2641 (w := .methodLink "RoutingFieldModel" 697 ⟨"RoutingFieldModel", "settle", "(I)V"⟩) (by decide +kernel) rfl) ki_Mo_settle ks_Mo_settle kn_Mo ko_Mo_settle) rfl rfl rfl (by decide +kernel) ⟨Nat.le_of_ble_eq_true rfl, Nat.le_of_ble_eq_true rfl⟩) (ci := 12) rfl, List.forall_mem_cons.mpr ⟨pm_cokV hbs hZ ⟨hx, hb, hml, hown, hts⟩ (kW_Mo_requests l D base sa) (fun mc ms => cwV 1 hts (pw_gV (pw_in 3125 (w := .methodLink "RoutingFieldModel" 1111 ⟨"RoutingFieldModel", "requests", "(I)V"⟩) (by decide +kernel) rfl) ki_Mo_requests ks_Mo_requests kn_Mo ko_Mo_requests) rfl rfl rfl (by decide +kernel) ⟨Nat.le_of_ble_eq_true rfl, Nat.le_of_ble_eq_true rfl⟩) (ci := 12) rfl, fun _ h => absurd h List.not_mem_nil⟩⟩⟩⟩⟩),
    hZ, kst_ok ht hZ (kS_Mo_ok sa), knar_ok ht, ktx_ok (kE_Mo_ok sa)⟩
set_option maxRecDepth 100000 in
theorem ki_Mo_lose : Cond.instanceMethod ⟨"RoutingFieldModel", "lose", "(II)Z"⟩ ∈ pw_T := (pw_in 3130 (by decide +kernel) rfl)
set_option maxRecDepth 100000 in
theorem ks_Mo_lose : Cond.selects "RoutingFieldModel" ⟨"RoutingFieldModel", "lose", "(II)Z"⟩ ⟨"RoutingFieldModel", "lose", "(II)Z"⟩ ∈ pw_T := (pw_in 3131 (by decide +kernel) rfl)
set_option maxRecDepth 100000 in
theorem ko_Mo_lose : Cond.code ⟨"RoutingFieldModel", "lose", "(II)Z"⟩ prog_14_method_138_code 3 (some .boolean) ∈ pw_T := (pw_in 3132 rfl rfl)
set_option maxRecDepth 100000 in
theorem kD_Mo_lose : ∀ q ∈ kC_Mo_lose, decode prog_14_method_138_code q.1 = .ok (q.2, pm_len q.1 q.2) := by decide +kernel
set_option maxRecDepth 100000 in
theorem kW_Mo_lose (l : Launch) (D : va_G) (base : Nat) (sa : Nat → Nat) : pm_Met l D kcl base (kZ sa) ⟨"RoutingFieldModel", "lose", "(II)Z"⟩ (.code ⟨"RoutingFieldModel", "lose", "(II)Z"⟩ prog_14_method_138_code 3 (some .boolean) :: pw_T) 0 0 (kP_Mo_lose base sa) := by
  refine pm_met (by decide) rfl rfl ?_
  intro mc ms p e s m args below meth c hx hb hml hown hnm hts hbs hZ
  have ht : ∀ w ∈ pw_T, w.before args s = true := fun w h => hts w (List.mem_cons_of_mem _ h)
  exact ⟨hx, hb, hown, hbs, pm_look_all kD_Mo_lose, kf_ok (init := false) ht hZ kF_Mo_ok (fun h => by cases h), km_ok ht kM_Mo_ok, kci_ok ht kI_Mo_ok, kli_ok ht kJ_Mo_ok, kar_ok ht hZ kA_Mo_ok,
    pm_look_all (fun _ h => absurd h List.not_mem_nil),
    hZ, kst_ok ht hZ (kS_Mo_ok sa), knar_ok ht, ktx_ok (kE_Mo_ok sa)⟩
set_option maxRecDepth 100000 in
theorem ki_Mo_run : Cond.instanceMethod ⟨"RoutingFieldModel", "run", "(IZ)Z"⟩ ∈ pw_T := (pw_in 3134 (by decide +kernel) rfl)
set_option maxRecDepth 100000 in
theorem ks_Mo_run : Cond.selects "RoutingFieldModel" ⟨"RoutingFieldModel", "run", "(IZ)Z"⟩ ⟨"RoutingFieldModel", "run", "(IZ)Z"⟩ ∈ pw_T := (pw_in 3135 (by decide +kernel) rfl)
set_option maxRecDepth 100000 in
theorem ko_Mo_run : Cond.code ⟨"RoutingFieldModel", "run", "(IZ)Z"⟩ prog_14_method_139_code 4 (some .boolean) ∈ pw_T := (pw_in 3136 rfl rfl)
set_option maxRecDepth 100000 in
theorem kD_Mo_run_0 : ∀ q ∈ kC_Mo_run_0, decode prog_14_method_139_code q.1 = .ok (q.2, pm_len q.1 q.2) := by decide +kernel
set_option maxRecDepth 100000 in
theorem kD_Mo_run_1 : ∀ q ∈ kC_Mo_run_1, decode prog_14_method_139_code q.1 = .ok (q.2, pm_len q.1 q.2) := by decide +kernel
theorem kD_Mo_run : ∀ q ∈ kC_Mo_run, decode prog_14_method_139_code q.1 = .ok (q.2, pm_len q.1 q.2) := List.forall_mem_append.mpr ⟨kD_Mo_run_0, kD_Mo_run_1⟩
set_option maxRecDepth 100000 in
theorem kW_Mo_run (l : Launch) (D : va_G) (base : Nat) (sa : Nat → Nat) : pm_Met l D kcl base (kZ sa) ⟨"RoutingFieldModel", "run", "(IZ)Z"⟩ (.code ⟨"RoutingFieldModel", "run", "(IZ)Z"⟩ prog_14_method_139_code 4 (some .boolean) :: pw_T) 10 282 (kP_Mo_run base sa) := by
  refine pm_met (by decide) rfl rfl ?_
  intro mc ms p e s m args below meth c hx hb hml hown hnm hts hbs hZ
  have ht : ∀ w ∈ pw_T, w.before args s = true := fun w h => hts w (List.mem_cons_of_mem _ h)
  exact ⟨hx, hb, hown, hbs, pm_look_all kD_Mo_run, kf_ok (init := false) ht hZ kF_Mo_ok (fun h => by cases h), km_ok ht kM_Mo_ok, kci_ok ht kI_Mo_ok, kli_ok ht kJ_Mo_ok, kar_ok ht hZ kA_Mo_ok,
    pm_look_all (List.forall_mem_cons.mpr ⟨pm_cokV hbs hZ ⟨hx, hb, hml, hown, hts⟩ (kW_Mo_tellAll l D base sa) (fun mc ms => cwV 2 hts (pw_gV (pw_in 3109 (w := .methodLink "RoutingFieldModel" 1102 ⟨"RoutingFieldModel", "tellAll", "(II)V"⟩) (by decide +kernel) rfl) ki_Mo_tellAll ks_Mo_tellAll kn_Mo ko_Mo_tellAll) rfl rfl rfl (by decide +kernel) ⟨Nat.le_of_ble_eq_true rfl, Nat.le_of_ble_eq_true rfl⟩) (ci := 12) rfl, List.forall_mem_cons.mpr ⟨pm_cokV hbs hZ ⟨hx, hb, hml, hown, hts⟩ (kW_Mo_settle l D base sa) (fun mc ms => cwV 1 hts (pw_gV (pw_in 2641 (w := .methodLink "RoutingFieldModel" 697 ⟨"RoutingFieldModel", "settle", "(I)V"⟩) (by decide +kernel) rfl) ki_Mo_settle ks_Mo_settle kn_Mo ko_Mo_settle) rfl rfl rfl (by decide +kernel) ⟨Nat.le_of_ble_eq_true rfl, Nat.le_of_ble_eq_true rfl⟩) (ci := 12) rfl, List.forall_mem_cons.mpr ⟨pm_cokV hbs hZ ⟨hx, hb, hml, hown, hts⟩ (kW_Mo_requests l D base sa) (fun mc ms => cwV 1 hts (pw_gV (pw_in 3125 (w := .methodLink "RoutingFieldModel" 1111 ⟨"RoutingFieldModel", "requests", "(I)V"⟩) (by decide +kernel) rfl) ki_Mo_requests ks_Mo_requests kn_Mo ko_Mo_requests) rfl rfl rfl (by decide +kernel) ⟨Nat.le_of_ble_eq_true rfl, Nat.le_of_ble_eq_true rfl⟩) (ci := 12) rfl, fun _ h => absurd h List.not_mem_nil⟩⟩⟩),
    hZ, kst_ok ht hZ (kS_Mo_ok sa), knar_ok ht, ktx_ok (kE_Mo_ok sa)⟩
set_option maxRecDepth 100000 in
theorem ki_Mo_put : Cond.instanceMethod ⟨"RoutingFieldModel", "put", "(IIII)Z"⟩ ∈ pw_T := (pw_in 3138 (by decide +kernel) rfl)
set_option maxRecDepth 100000 in
theorem ks_Mo_put : Cond.selects "RoutingFieldModel" ⟨"RoutingFieldModel", "put", "(IIII)Z"⟩ ⟨"RoutingFieldModel", "put", "(IIII)Z"⟩ ∈ pw_T := (pw_in 3139 (by decide +kernel) rfl)
set_option maxRecDepth 100000 in
theorem ko_Mo_put : Cond.code ⟨"RoutingFieldModel", "put", "(IIII)Z"⟩ prog_14_method_140_code 9 (some .boolean) ∈ pw_T := (pw_in 3140 rfl rfl)
set_option maxRecDepth 100000 in
theorem kD_Mo_put_0 : ∀ q ∈ kC_Mo_put_0, decode prog_14_method_140_code q.1 = .ok (q.2, pm_len q.1 q.2) := by decide +kernel
set_option maxRecDepth 100000 in
theorem kD_Mo_put_1 : ∀ q ∈ kC_Mo_put_1, decode prog_14_method_140_code q.1 = .ok (q.2, pm_len q.1 q.2) := by decide +kernel
set_option maxRecDepth 100000 in
theorem kD_Mo_put_2 : ∀ q ∈ kC_Mo_put_2, decode prog_14_method_140_code q.1 = .ok (q.2, pm_len q.1 q.2) := by decide +kernel
theorem kD_Mo_put : ∀ q ∈ kC_Mo_put, decode prog_14_method_140_code q.1 = .ok (q.2, pm_len q.1 q.2) := List.forall_mem_append.mpr ⟨kD_Mo_put_0, List.forall_mem_append.mpr ⟨kD_Mo_put_1, kD_Mo_put_2⟩⟩
set_option maxRecDepth 100000 in
theorem kW_Mo_put (l : Launch) (D : va_G) (base : Nat) (sa : Nat → Nat) : pm_Met l D kcl base (kZ sa) ⟨"RoutingFieldModel", "put", "(IIII)Z"⟩ (.code ⟨"RoutingFieldModel", "put", "(IIII)Z"⟩ prog_14_method_140_code 9 (some .boolean) :: pw_T) 1 38 (kP_Mo_put base sa) := by
  refine pm_met (by decide) rfl rfl ?_
  intro mc ms p e s m args below meth c hx hb hml hown hnm hts hbs hZ
  have ht : ∀ w ∈ pw_T, w.before args s = true := fun w h => hts w (List.mem_cons_of_mem _ h)
  exact ⟨hx, hb, hown, hbs, pm_look_all kD_Mo_put, kf_ok (init := false) ht hZ kF_Mo_ok (fun h => by cases h), km_ok ht kM_Mo_ok, kci_ok ht kI_Mo_ok, kli_ok ht kJ_Mo_ok, kar_ok ht hZ kA_Mo_ok,
    pm_look_all (List.forall_mem_cons.mpr ⟨pm_cokS hbs hZ ⟨hx, hb, hml, hown, hts⟩ (kW_Mo_highOf l D base sa) (fun mc ms => va_cwS 3 hts (pw_gS (pw_in 3008 (w := .methodLink "RoutingFieldModel" 1054 ⟨"RoutingFieldModel", "highOf", "([III)J"⟩) (by decide +kernel) rfl) kv_Mo_highOf kn_Mo ko_Mo_highOf) rfl rfl rfl (by decide +kernel) ⟨Nat.le_of_ble_eq_true rfl, Nat.le_of_ble_eq_true rfl⟩) (Nat.le_of_ble_eq_true rfl), List.forall_mem_cons.mpr ⟨pm_cokS hbs hZ ⟨hx, hb, hml, hown, hts⟩ (kW_Mo_lowOf l D base sa) (fun mc ms => va_cwS 3 hts (pw_gS (pw_in 3011 (w := .methodLink "RoutingFieldModel" 1058 ⟨"RoutingFieldModel", "lowOf", "([III)J"⟩) (by decide +kernel) rfl) kv_Mo_lowOf kn_Mo ko_Mo_lowOf) rfl rfl rfl (by decide +kernel) ⟨Nat.le_of_ble_eq_true rfl, Nat.le_of_ble_eq_true rfl⟩) (Nat.le_of_ble_eq_true rfl), List.forall_mem_cons.mpr ⟨pm_cokV hbs hZ ⟨hx, hb, hml, hown, hts⟩ (kW_Mo_go l D base sa) (fun mc ms => cwV 11 hts (pw_gV (pw_in 2844 (w := .methodLink "RoutingFieldModel" 942 ⟨"RoutingFieldModel", "go", "(IIZJJIJJIIZ)V"⟩) (by decide +kernel) rfl) ki_Mo_go ks_Mo_go kn_Mo ko_Mo_go) rfl rfl rfl (by decide +kernel) ⟨Nat.le_of_ble_eq_true rfl, Nat.le_of_ble_eq_true rfl⟩) (ci := 12) rfl, fun _ h => absurd h List.not_mem_nil⟩⟩⟩),
    hZ, kst_ok ht hZ (kS_Mo_ok sa), knar_ok ht, ktx_ok (kE_Mo_ok sa)⟩
set_option maxRecDepth 100000 in
theorem ki_Mo_say : Cond.instanceMethod ⟨"RoutingFieldModel", "say", "(I)V"⟩ ∈ pw_T := (pw_in 3163 (by decide +kernel) rfl)
set_option maxRecDepth 100000 in
theorem ks_Mo_say : Cond.selects "RoutingFieldModel" ⟨"RoutingFieldModel", "say", "(I)V"⟩ ⟨"RoutingFieldModel", "say", "(I)V"⟩ ∈ pw_T := (pw_sel 223 (q := (⟨"RoutingFieldModel", "say", "(I)V"⟩, 166)) (by decide +kernel))
set_option maxRecDepth 100000 in
theorem ko_Mo_say : Cond.code ⟨"RoutingFieldModel", "say", "(I)V"⟩ prog_14_method_141_code 4 none ∈ pw_T := (pw_in 3164 rfl rfl)
set_option maxRecDepth 100000 in
theorem kD_Mo_say : ∀ q ∈ kC_Mo_say, decode prog_14_method_141_code q.1 = .ok (q.2, pm_len q.1 q.2) := by decide +kernel
set_option maxRecDepth 100000 in
theorem kW_Mo_say (l : Launch) (D : va_G) (base : Nat) (sa : Nat → Nat) : pm_Met l D kcl base (kZ sa) ⟨"RoutingFieldModel", "say", "(I)V"⟩ (.code ⟨"RoutingFieldModel", "say", "(I)V"⟩ prog_14_method_141_code 4 none :: pw_T) 0 0 (kP_Mo_say base sa) := by
  refine pm_met (by decide) rfl rfl ?_
  intro mc ms p e s m args below meth c hx hb hml hown hnm hts hbs hZ
  have ht : ∀ w ∈ pw_T, w.before args s = true := fun w h => hts w (List.mem_cons_of_mem _ h)
  exact ⟨hx, hb, hown, hbs, pm_look_all kD_Mo_say, kf_ok (init := false) ht hZ kF_Mo_ok (fun h => by cases h), km_ok ht kM_Mo_ok, kci_ok ht kI_Mo_ok, kli_ok ht kJ_Mo_ok, kar_ok ht hZ kA_Mo_ok,
    pm_look_all (fun _ h => absurd h List.not_mem_nil),
    hZ, kst_ok ht hZ (kS_Mo_ok sa), knar_ok ht, ktx_ok (kE_Mo_ok sa)⟩
set_option maxRecDepth 100000 in
theorem ki_Mo_sayName : Cond.instanceMethod ⟨"RoutingFieldModel", "sayName", "(J)V"⟩ ∈ pw_T := (pw_in 3191 (by decide +kernel) rfl)
set_option maxRecDepth 100000 in
theorem ks_Mo_sayName : Cond.selects "RoutingFieldModel" ⟨"RoutingFieldModel", "sayName", "(J)V"⟩ ⟨"RoutingFieldModel", "sayName", "(J)V"⟩ ∈ pw_T := (pw_sel 229 (q := (⟨"RoutingFieldModel", "sayName", "(J)V"⟩, 166)) (by decide +kernel))
set_option maxRecDepth 100000 in
theorem ko_Mo_sayName : Cond.code ⟨"RoutingFieldModel", "sayName", "(J)V"⟩ prog_14_method_142_code 7 none ∈ pw_T := (pw_in 3192 rfl rfl)
set_option maxRecDepth 100000 in
theorem kD_Mo_sayName_0 : ∀ q ∈ kC_Mo_sayName_0, decode prog_14_method_142_code q.1 = .ok (q.2, pm_len q.1 q.2) := by decide +kernel
set_option maxRecDepth 100000 in
theorem kD_Mo_sayName_1 : ∀ q ∈ kC_Mo_sayName_1, decode prog_14_method_142_code q.1 = .ok (q.2, pm_len q.1 q.2) := by decide +kernel
theorem kD_Mo_sayName : ∀ q ∈ kC_Mo_sayName, decode prog_14_method_142_code q.1 = .ok (q.2, pm_len q.1 q.2) := List.forall_mem_append.mpr ⟨kD_Mo_sayName_0, kD_Mo_sayName_1⟩
set_option maxRecDepth 100000 in
theorem kW_Mo_sayName (l : Launch) (D : va_G) (base : Nat) (sa : Nat → Nat) : pm_Met l D kcl base (kZ sa) ⟨"RoutingFieldModel", "sayName", "(J)V"⟩ (.code ⟨"RoutingFieldModel", "sayName", "(J)V"⟩ prog_14_method_142_code 7 none :: pw_T) 1 23 (kP_Mo_sayName base sa) := by
  refine pm_met (by decide) rfl rfl ?_
  intro mc ms p e s m args below meth c hx hb hml hown hnm hts hbs hZ
  have ht : ∀ w ∈ pw_T, w.before args s = true := fun w h => hts w (List.mem_cons_of_mem _ h)
  exact ⟨hx, hb, hown, hbs, pm_look_all kD_Mo_sayName, kf_ok (init := false) ht hZ kF_Mo_ok (fun h => by cases h), km_ok ht kM_Mo_ok, kci_ok ht kI_Mo_ok, kli_ok ht kJ_Mo_ok, kar_ok ht hZ kA_Mo_ok,
    pm_look_all (List.forall_mem_cons.mpr ⟨pm_cokV hbs hZ ⟨hx, hb, hml, hown, hts⟩ (kW_Mo_say l D base sa) (fun mc ms => cwV 1 hts (pw_gV (pw_in 3161 (w := .methodLink "RoutingFieldModel" 1119 ⟨"RoutingFieldModel", "say", "(I)V"⟩) (by decide +kernel) rfl) ki_Mo_say ks_Mo_say kn_Mo ko_Mo_say) rfl rfl rfl (by decide +kernel) ⟨Nat.le_of_ble_eq_true rfl, Nat.le_of_ble_eq_true rfl⟩) (ci := 12) rfl, fun _ h => absurd h List.not_mem_nil⟩),
    hZ, kst_ok ht hZ (kS_Mo_ok sa), knar_ok ht, ktx_ok (kE_Mo_ok sa)⟩
set_option maxRecDepth 100000 in
theorem ki_Mo_sayNumber10 : Cond.instanceMethod ⟨"RoutingFieldModel", "sayNumber10", "(I)V"⟩ ∈ pw_T := (pw_in 3171 (by decide +kernel) rfl)
set_option maxRecDepth 100000 in
theorem ks_Mo_sayNumber10 : Cond.selects "RoutingFieldModel" ⟨"RoutingFieldModel", "sayNumber10", "(I)V"⟩ ⟨"RoutingFieldModel", "sayNumber10", "(I)V"⟩ ∈ pw_T := (pw_sel 225 (q := (⟨"RoutingFieldModel", "sayNumber10", "(I)V"⟩, 166)) (by decide +kernel))
set_option maxRecDepth 100000 in
theorem ko_Mo_sayNumber10 : Cond.code ⟨"RoutingFieldModel", "sayNumber10", "(I)V"⟩ prog_14_method_144_code 3 none ∈ pw_T := (pw_in 3172 rfl rfl)
set_option maxRecDepth 100000 in
theorem kD_Mo_sayNumber10 : ∀ q ∈ kC_Mo_sayNumber10, decode prog_14_method_144_code q.1 = .ok (q.2, pm_len q.1 q.2) := by decide +kernel
set_option maxRecDepth 100000 in
theorem kW_Mo_sayNumber10 (l : Launch) (D : va_G) (base : Nat) (sa : Nat → Nat) : pm_Met l D kcl base (kZ sa) ⟨"RoutingFieldModel", "sayNumber10", "(I)V"⟩ (.code ⟨"RoutingFieldModel", "sayNumber10", "(I)V"⟩ prog_14_method_144_code 3 none :: pw_T) 1 23 (kP_Mo_sayNumber10 base sa) := by
  refine pm_met (by decide) rfl rfl ?_
  intro mc ms p e s m args below meth c hx hb hml hown hnm hts hbs hZ
  have ht : ∀ w ∈ pw_T, w.before args s = true := fun w h => hts w (List.mem_cons_of_mem _ h)
  exact ⟨hx, hb, hown, hbs, pm_look_all kD_Mo_sayNumber10, kf_ok (init := false) ht hZ kF_Mo_ok (fun h => by cases h), km_ok ht kM_Mo_ok, kci_ok ht kI_Mo_ok, kli_ok ht kJ_Mo_ok, kar_ok ht hZ kA_Mo_ok,
    pm_look_all (List.forall_mem_cons.mpr ⟨pm_cokV hbs hZ ⟨hx, hb, hml, hown, hts⟩ (kW_Mo_say l D base sa) (fun mc ms => cwV 1 hts (pw_gV (pw_in 3161 (w := .methodLink "RoutingFieldModel" 1119 ⟨"RoutingFieldModel", "say", "(I)V"⟩) (by decide +kernel) rfl) ki_Mo_say ks_Mo_say kn_Mo ko_Mo_say) rfl rfl rfl (by decide +kernel) ⟨Nat.le_of_ble_eq_true rfl, Nat.le_of_ble_eq_true rfl⟩) (ci := 12) rfl, fun _ h => absurd h List.not_mem_nil⟩),
    hZ, kst_ok ht hZ (kS_Mo_ok sa), knar_ok ht, ktx_ok (kE_Mo_ok sa)⟩
set_option maxRecDepth 100000 in
theorem ki_Mo_sayNumber : Cond.instanceMethod ⟨"RoutingFieldModel", "sayNumber", "(I)V"⟩ ∈ pw_T := (pw_in 3167 (by decide +kernel) rfl)
set_option maxRecDepth 100000 in
theorem ks_Mo_sayNumber : Cond.selects "RoutingFieldModel" ⟨"RoutingFieldModel", "sayNumber", "(I)V"⟩ ⟨"RoutingFieldModel", "sayNumber", "(I)V"⟩ ∈ pw_T := (pw_sel 224 (q := (⟨"RoutingFieldModel", "sayNumber", "(I)V"⟩, 166)) (by decide +kernel))
set_option maxRecDepth 100000 in
theorem ko_Mo_sayNumber : Cond.code ⟨"RoutingFieldModel", "sayNumber", "(I)V"⟩ prog_14_method_143_code 2 none ∈ pw_T := (pw_in 3168 rfl rfl)
set_option maxRecDepth 100000 in
theorem kD_Mo_sayNumber : ∀ q ∈ kC_Mo_sayNumber, decode prog_14_method_143_code q.1 = .ok (q.2, pm_len q.1 q.2) := by decide +kernel
set_option maxRecDepth 100000 in
theorem kW_Mo_sayNumber (l : Launch) (D : va_G) (base : Nat) (sa : Nat → Nat) : pm_Met l D kcl base (kZ sa) ⟨"RoutingFieldModel", "sayNumber", "(I)V"⟩ (.code ⟨"RoutingFieldModel", "sayNumber", "(I)V"⟩ prog_14_method_143_code 2 none :: pw_T) 2 45 (kP_Mo_sayNumber base sa) := by
  refine pm_met (by decide) rfl rfl ?_
  intro mc ms p e s m args below meth c hx hb hml hown hnm hts hbs hZ
  have ht : ∀ w ∈ pw_T, w.before args s = true := fun w h => hts w (List.mem_cons_of_mem _ h)
  exact ⟨hx, hb, hown, hbs, pm_look_all kD_Mo_sayNumber, kf_ok (init := false) ht hZ kF_Mo_ok (fun h => by cases h), km_ok ht kM_Mo_ok, kci_ok ht kI_Mo_ok, kli_ok ht kJ_Mo_ok, kar_ok ht hZ kA_Mo_ok,
    pm_look_all (List.forall_mem_cons.mpr ⟨pm_cokV hbs hZ ⟨hx, hb, hml, hown, hts⟩ (kW_Mo_sayNumber10 l D base sa) (fun mc ms => cwV 1 hts (pw_gV (pw_in 3169 (w := .methodLink "RoutingFieldModel" 1122 ⟨"RoutingFieldModel", "sayNumber10", "(I)V"⟩) (by decide +kernel) rfl) ki_Mo_sayNumber10 ks_Mo_sayNumber10 kn_Mo ko_Mo_sayNumber10) rfl rfl rfl (by decide +kernel) ⟨Nat.le_of_ble_eq_true rfl, Nat.le_of_ble_eq_true rfl⟩) (ci := 12) rfl, List.forall_mem_cons.mpr ⟨pm_cokV hbs hZ ⟨hx, hb, hml, hown, hts⟩ (kW_Mo_say l D base sa) (fun mc ms => cwV 1 hts (pw_gV (pw_in 3161 (w := .methodLink "RoutingFieldModel" 1119 ⟨"RoutingFieldModel", "say", "(I)V"⟩) (by decide +kernel) rfl) ki_Mo_say ks_Mo_say kn_Mo ko_Mo_say) rfl rfl rfl (by decide +kernel) ⟨Nat.le_of_ble_eq_true rfl, Nat.le_of_ble_eq_true rfl⟩) (ci := 12) rfl, fun _ h => absurd h List.not_mem_nil⟩⟩),
    hZ, kst_ok ht hZ (kS_Mo_ok sa), knar_ok ht, ktx_ok (kE_Mo_ok sa)⟩
set_option maxRecDepth 100000 in
theorem kv_Mo_hexadecimalDigit : Cond.static ⟨"RoutingFieldModel", "hexadecimalDigit", "(I)I"⟩ ∈ pw_T := (pw_in 3175 (by decide +kernel) rfl)
set_option maxRecDepth 100000 in
theorem ko_Mo_hexadecimalDigit : Cond.code ⟨"RoutingFieldModel", "hexadecimalDigit", "(I)I"⟩ prog_14_method_145_code 1 (some .int) ∈ pw_T := (pw_in 3176 rfl rfl)
set_option maxRecDepth 100000 in
theorem kD_Mo_hexadecimalDigit : ∀ q ∈ kC_Mo_hexadecimalDigit, decode prog_14_method_145_code q.1 = .ok (q.2, pm_len q.1 q.2) := by decide +kernel
set_option maxRecDepth 100000 in
theorem kW_Mo_hexadecimalDigit (l : Launch) (D : va_G) (base : Nat) (sa : Nat → Nat) : pm_Met l D kcl base (kZ sa) ⟨"RoutingFieldModel", "hexadecimalDigit", "(I)I"⟩ (.code ⟨"RoutingFieldModel", "hexadecimalDigit", "(I)I"⟩ prog_14_method_145_code 1 (some .int) :: pw_T) 0 0 (kP_Mo_hexadecimalDigit base sa) := by
  refine pm_met (by decide) rfl rfl ?_
  intro mc ms p e s m args below meth c hx hb hml hown hnm hts hbs hZ
  have ht : ∀ w ∈ pw_T, w.before args s = true := fun w h => hts w (List.mem_cons_of_mem _ h)
  exact ⟨hx, hb, hown, hbs, pm_look_all kD_Mo_hexadecimalDigit, kf_ok (init := false) ht hZ kF_Mo_ok (fun h => by cases h), km_ok ht kM_Mo_ok, kci_ok ht kI_Mo_ok, kli_ok ht kJ_Mo_ok, kar_ok ht hZ kA_Mo_ok,
    pm_look_all (fun _ h => absurd h List.not_mem_nil),
    hZ, kst_ok ht hZ (kS_Mo_ok sa), knar_ok ht, ktx_ok (kE_Mo_ok sa)⟩
