set_option maxRecDepth 100000 in
theorem ki_Mo_init : Cond.instanceMethod ⟨"RoutingFieldModel", "<init>", "()V"⟩ ∈ pw_T := (pw_in 1976 (by decide +kernel) rfl)
set_option maxRecDepth 100000 in
theorem ko_Mo_init : Cond.code ⟨"RoutingFieldModel", "<init>", "()V"⟩ prog_14_method_1_code 1 none ∈ pw_T := (pw_in 1977 rfl rfl)
set_option maxRecDepth 100000 in
theorem kD_Mo_init_0 : ∀ q ∈ kC_Mo_init_0, decode prog_14_method_1_code q.1 = .ok (q.2, pm_len q.1 q.2) := by decide +kernel
set_option maxRecDepth 100000 in
theorem kD_Mo_init_1 : ∀ q ∈ kC_Mo_init_1, decode prog_14_method_1_code q.1 = .ok (q.2, pm_len q.1 q.2) := by decide +kernel
set_option maxRecDepth 100000 in
theorem kD_Mo_init_2 : ∀ q ∈ kC_Mo_init_2, decode prog_14_method_1_code q.1 = .ok (q.2, pm_len q.1 q.2) := by decide +kernel
set_option maxRecDepth 100000 in
theorem kD_Mo_init_3 : ∀ q ∈ kC_Mo_init_3, decode prog_14_method_1_code q.1 = .ok (q.2, pm_len q.1 q.2) := by decide +kernel
set_option maxRecDepth 100000 in
theorem kD_Mo_init_4 : ∀ q ∈ kC_Mo_init_4, decode prog_14_method_1_code q.1 = .ok (q.2, pm_len q.1 q.2) := by decide +kernel
set_option maxRecDepth 100000 in
theorem kD_Mo_init_5 : ∀ q ∈ kC_Mo_init_5, decode prog_14_method_1_code q.1 = .ok (q.2, pm_len q.1 q.2) := by decide +kernel
set_option maxRecDepth 100000 in
theorem kD_Mo_init_6 : ∀ q ∈ kC_Mo_init_6, decode prog_14_method_1_code q.1 = .ok (q.2, pm_len q.1 q.2) := by decide +kernel
set_option maxRecDepth 100000 in
theorem kD_Mo_init_7 : ∀ q ∈ kC_Mo_init_7, decode prog_14_method_1_code q.1 = .ok (q.2, pm_len q.1 q.2) := by decide +kernel
set_option maxRecDepth 100000 in
theorem kD_Mo_init_8 : ∀ q ∈ kC_Mo_init_8, decode prog_14_method_1_code q.1 = .ok (q.2, pm_len q.1 q.2) := by decide +kernel
set_option maxRecDepth 100000 in
theorem kD_Mo_init_9 : ∀ q ∈ kC_Mo_init_9, decode prog_14_method_1_code q.1 = .ok (q.2, pm_len q.1 q.2) := by decide +kernel
set_option maxRecDepth 100000 in
theorem kD_Mo_init_10 : ∀ q ∈ kC_Mo_init_10, decode prog_14_method_1_code q.1 = .ok (q.2, pm_len q.1 q.2) := by decide +kernel
set_option maxRecDepth 100000 in
theorem kD_Mo_init_11 : ∀ q ∈ kC_Mo_init_11, decode prog_14_method_1_code q.1 = .ok (q.2, pm_len q.1 q.2) := by decide +kernel
theorem kD_Mo_init : ∀ q ∈ kC_Mo_init, decode prog_14_method_1_code q.1 = .ok (q.2, pm_len q.1 q.2) := List.forall_mem_append.mpr ⟨kD_Mo_init_0, List.forall_mem_append.mpr ⟨kD_Mo_init_1, List.forall_mem_append.mpr ⟨kD_Mo_init_2, List.forall_mem_append.mpr ⟨kD_Mo_init_3, List.forall_mem_append.mpr ⟨kD_Mo_init_4, List.forall_mem_append.mpr ⟨kD_Mo_init_5, List.forall_mem_append.mpr ⟨kD_Mo_init_6, List.forall_mem_append.mpr ⟨kD_Mo_init_7, List.forall_mem_append.mpr ⟨kD_Mo_init_8, List.forall_mem_append.mpr ⟨kD_Mo_init_9, List.forall_mem_append.mpr ⟨kD_Mo_init_10, kD_Mo_init_11⟩⟩⟩⟩⟩⟩⟩⟩⟩⟩⟩
set_option maxRecDepth 100000 in
theorem kW_Mo_init (l : Launch) (D : va_G) (base : Nat) (sa : Nat → Nat) : pm_Met l D kcl base (kZ sa) ⟨"RoutingFieldModel", "<init>", "()V"⟩ (.code ⟨"RoutingFieldModel", "<init>", "()V"⟩ prog_14_method_1_code 1 none :: pw_T) 1 20 (kP_Mo_init base sa) := by
  refine pm_met (by decide) rfl rfl ?_
  intro mc ms p e s m args below meth c hx hb hml hown hnm hts hbs hZ
  have ht : ∀ w ∈ pw_T, w.before args s = true := fun w h => hts w (List.mem_cons_of_mem _ h)
  exact ⟨hx, hb, hown, hbs, pm_look_all kD_Mo_init, kf_ok (init := true) ht hZ kF_Mo_ok (fun _ => hnm), km_ok ht kM_Mo_ok, kci_ok ht kI_Mo_ok, kli_ok ht kJ_Mo_ok, kar_ok ht hZ kA_Mo_ok,
    pm_look_all (List.forall_mem_cons.mpr ⟨pm_cokO hx hb hml hown (ht _ (pw_in 1978 (by decide +kernel) rfl)) (ht _ (pw_in 31 (by decide +kernel) rfl)) (ht _ (pw_in 32 rfl rfl)) (Nat.le_of_ble_eq_true rfl) (Nat.le_of_ble_eq_true rfl), fun _ h => absurd h List.not_mem_nil⟩),
    hZ, kst_ok ht hZ (kS_Mo_ok sa), knar_ok ht, ktx_ok (kE_Mo_ok sa)⟩
set_option maxRecDepth 100000 in
theorem ki_Mo_thrown : Cond.instanceMethod ⟨"RoutingFieldModel", "thrown", "()I"⟩ ∈ pw_T := (pw_in 2481 (by decide +kernel) rfl)
set_option maxRecDepth 100000 in
theorem ks_Mo_thrown : Cond.selects "RoutingFieldModel" ⟨"RoutingFieldModel", "thrown", "()I"⟩ ⟨"RoutingFieldModel", "thrown", "()I"⟩ ∈ pw_T := (pw_in 2482 (by decide +kernel) rfl)
set_option maxRecDepth 100000 in
theorem ko_Mo_thrown : Cond.code ⟨"RoutingFieldModel", "thrown", "()I"⟩ prog_14_method_2_code 1 (some .int) ∈ pw_T := (pw_in 2483 rfl rfl)
set_option maxRecDepth 100000 in
theorem kD_Mo_thrown : ∀ q ∈ kC_Mo_thrown, decode prog_14_method_2_code q.1 = .ok (q.2, pm_len q.1 q.2) := by decide +kernel
set_option maxRecDepth 100000 in
theorem kW_Mo_thrown (l : Launch) (D : va_G) (base : Nat) (sa : Nat → Nat) : pm_Met l D kcl base (kZ sa) ⟨"RoutingFieldModel", "thrown", "()I"⟩ (.code ⟨"RoutingFieldModel", "thrown", "()I"⟩ prog_14_method_2_code 1 (some .int) :: pw_T) 0 0 (kP_Mo_thrown base sa) := by
  refine pm_met (by decide) rfl rfl ?_
  intro mc ms p e s m args below meth c hx hb hml hown hnm hts hbs hZ
  have ht : ∀ w ∈ pw_T, w.before args s = true := fun w h => hts w (List.mem_cons_of_mem _ h)
  exact ⟨hx, hb, hown, hbs, pm_look_all kD_Mo_thrown, kf_ok (init := false) ht hZ kF_Mo_ok (fun h => by cases h), km_ok ht kM_Mo_ok, kci_ok ht kI_Mo_ok, kli_ok ht kJ_Mo_ok, kar_ok ht hZ kA_Mo_ok,
    pm_look_all (fun _ h => absurd h List.not_mem_nil),
    hZ, kst_ok ht hZ (kS_Mo_ok sa), knar_ok ht, ktx_ok (kE_Mo_ok sa)⟩
set_option maxRecDepth 100000 in
theorem kv_Mo_maskHigh : Cond.static ⟨"RoutingFieldModel", "maskHigh", "(I)J"⟩ ∈ pw_T := (pw_in 2654 (by decide +kernel) rfl)
set_option maxRecDepth 100000 in
theorem ko_Mo_maskHigh : Cond.code ⟨"RoutingFieldModel", "maskHigh", "(I)J"⟩ prog_14_method_3_code 1 (some .long) ∈ pw_T := (pw_in 2655 rfl rfl)
set_option maxRecDepth 100000 in
theorem kD_Mo_maskHigh : ∀ q ∈ kC_Mo_maskHigh, decode prog_14_method_3_code q.1 = .ok (q.2, pm_len q.1 q.2) := by decide +kernel
set_option maxRecDepth 100000 in
theorem kW_Mo_maskHigh (l : Launch) (D : va_G) (base : Nat) (sa : Nat → Nat) : pm_Met l D kcl base (kZ sa) ⟨"RoutingFieldModel", "maskHigh", "(I)J"⟩ (.code ⟨"RoutingFieldModel", "maskHigh", "(I)J"⟩ prog_14_method_3_code 1 (some .long) :: pw_T) 0 0 (kP_Mo_maskHigh base sa) := by
  refine pm_met (by decide) rfl rfl ?_
  intro mc ms p e s m args below meth c hx hb hml hown hnm hts hbs hZ
  have ht : ∀ w ∈ pw_T, w.before args s = true := fun w h => hts w (List.mem_cons_of_mem _ h)
  exact ⟨hx, hb, hown, hbs, pm_look_all kD_Mo_maskHigh, kf_ok (init := false) ht hZ kF_Mo_ok (fun h => by cases h), km_ok ht kM_Mo_ok, kci_ok ht kI_Mo_ok, kli_ok ht kJ_Mo_ok, kar_ok ht hZ kA_Mo_ok,
    pm_look_all (fun _ h => absurd h List.not_mem_nil),
    hZ, kst_ok ht hZ (kS_Mo_ok sa), knar_ok ht, ktx_ok (kE_Mo_ok sa)⟩
set_option maxRecDepth 100000 in
theorem kv_Mo_maskLow : Cond.static ⟨"RoutingFieldModel", "maskLow", "(I)J"⟩ ∈ pw_T := (pw_in 2658 (by decide +kernel) rfl)
set_option maxRecDepth 100000 in
theorem ko_Mo_maskLow : Cond.code ⟨"RoutingFieldModel", "maskLow", "(I)J"⟩ prog_14_method_4_code 1 (some .long) ∈ pw_T := (pw_in 2659 rfl rfl)
set_option maxRecDepth 100000 in
theorem kD_Mo_maskLow : ∀ q ∈ kC_Mo_maskLow, decode prog_14_method_4_code q.1 = .ok (q.2, pm_len q.1 q.2) := by decide +kernel
set_option maxRecDepth 100000 in
theorem kW_Mo_maskLow (l : Launch) (D : va_G) (base : Nat) (sa : Nat → Nat) : pm_Met l D kcl base (kZ sa) ⟨"RoutingFieldModel", "maskLow", "(I)J"⟩ (.code ⟨"RoutingFieldModel", "maskLow", "(I)J"⟩ prog_14_method_4_code 1 (some .long) :: pw_T) 0 0 (kP_Mo_maskLow base sa) := by
  refine pm_met (by decide) rfl rfl ?_
  intro mc ms p e s m args below meth c hx hb hml hown hnm hts hbs hZ
  have ht : ∀ w ∈ pw_T, w.before args s = true := fun w h => hts w (List.mem_cons_of_mem _ h)
  exact ⟨hx, hb, hown, hbs, pm_look_all kD_Mo_maskLow, kf_ok (init := false) ht hZ kF_Mo_ok (fun h => by cases h), km_ok ht kM_Mo_ok, kci_ok ht kI_Mo_ok, kli_ok ht kJ_Mo_ok, kar_ok ht hZ kA_Mo_ok,
    pm_look_all (fun _ h => absurd h List.not_mem_nil),
    hZ, kst_ok ht hZ (kS_Mo_ok sa), knar_ok ht, ktx_ok (kE_Mo_ok sa)⟩
set_option maxRecDepth 100000 in
theorem kv_Mo_isPrefix : Cond.static ⟨"RoutingFieldModel", "isPrefix", "(JJI)Z"⟩ ∈ pw_T := (pw_in 2874 (by decide +kernel) rfl)
set_option maxRecDepth 100000 in
theorem ko_Mo_isPrefix : Cond.code ⟨"RoutingFieldModel", "isPrefix", "(JJI)Z"⟩ prog_14_method_5_code 5 (some .boolean) ∈ pw_T := (pw_in 2875 rfl rfl)
set_option maxRecDepth 100000 in
theorem kD_Mo_isPrefix : ∀ q ∈ kC_Mo_isPrefix, decode prog_14_method_5_code q.1 = .ok (q.2, pm_len q.1 q.2) := by decide +kernel
set_option maxRecDepth 100000 in
theorem kW_Mo_isPrefix (l : Launch) (D : va_G) (base : Nat) (sa : Nat → Nat) : pm_Met l D kcl base (kZ sa) ⟨"RoutingFieldModel", "isPrefix", "(JJI)Z"⟩ (.code ⟨"RoutingFieldModel", "isPrefix", "(JJI)Z"⟩ prog_14_method_5_code 5 (some .boolean) :: pw_T) 1 24 (kP_Mo_isPrefix base sa) := by
  refine pm_met (by decide) rfl rfl ?_
  intro mc ms p e s m args below meth c hx hb hml hown hnm hts hbs hZ
  have ht : ∀ w ∈ pw_T, w.before args s = true := fun w h => hts w (List.mem_cons_of_mem _ h)
  exact ⟨hx, hb, hown, hbs, pm_look_all kD_Mo_isPrefix, kf_ok (init := false) ht hZ kF_Mo_ok (fun h => by cases h), km_ok ht kM_Mo_ok, kci_ok ht kI_Mo_ok, kli_ok ht kJ_Mo_ok, kar_ok ht hZ kA_Mo_ok,
    pm_look_all (List.forall_mem_cons.mpr ⟨pm_cokS hbs hZ ⟨hx, hb, hml, hown, hts⟩ (kW_Mo_maskHigh l D base sa) (fun mc ms => va_cwS 1 hts (pw_gS (pw_in 2653 (w := .methodLink "RoutingFieldModel" 433 ⟨"RoutingFieldModel", "maskHigh", "(I)J"⟩) (by decide +kernel) rfl) kv_Mo_maskHigh kn_Mo ko_Mo_maskHigh) rfl rfl rfl (by decide +kernel) ⟨Nat.le_of_ble_eq_true rfl, Nat.le_of_ble_eq_true rfl⟩) (Nat.le_of_ble_eq_true rfl), List.forall_mem_cons.mpr ⟨pm_cokS hbs hZ ⟨hx, hb, hml, hown, hts⟩ (kW_Mo_maskLow l D base sa) (fun mc ms => va_cwS 1 hts (pw_gS (pw_in 2657 (w := .methodLink "RoutingFieldModel" 437 ⟨"RoutingFieldModel", "maskLow", "(I)J"⟩) (by decide +kernel) rfl) kv_Mo_maskLow kn_Mo ko_Mo_maskLow) rfl rfl rfl (by decide +kernel) ⟨Nat.le_of_ble_eq_true rfl, Nat.le_of_ble_eq_true rfl⟩) (Nat.le_of_ble_eq_true rfl), fun _ h => absurd h List.not_mem_nil⟩⟩),
    hZ, kst_ok ht hZ (kS_Mo_ok sa), knar_ok ht, ktx_ok (kE_Mo_ok sa)⟩
set_option maxRecDepth 100000 in
theorem kv_Mo_covers : Cond.static ⟨"RoutingFieldModel", "covers", "(JJIJJ)Z"⟩ ∈ pw_T := (pw_in 2979 (by decide +kernel) rfl)
set_option maxRecDepth 100000 in
theorem ko_Mo_covers : Cond.code ⟨"RoutingFieldModel", "covers", "(JJIJJ)Z"⟩ prog_14_method_6_code 9 (some .boolean) ∈ pw_T := (pw_in 2980 rfl rfl)
set_option maxRecDepth 100000 in
theorem kD_Mo_covers : ∀ q ∈ kC_Mo_covers, decode prog_14_method_6_code q.1 = .ok (q.2, pm_len q.1 q.2) := by decide +kernel
set_option maxRecDepth 100000 in
theorem kW_Mo_covers (l : Launch) (D : va_G) (base : Nat) (sa : Nat → Nat) : pm_Met l D kcl base (kZ sa) ⟨"RoutingFieldModel", "covers", "(JJIJJ)Z"⟩ (.code ⟨"RoutingFieldModel", "covers", "(JJIJJ)Z"⟩ prog_14_method_6_code 9 (some .boolean) :: pw_T) 1 24 (kP_Mo_covers base sa) := by
  refine pm_met (by decide) rfl rfl ?_
  intro mc ms p e s m args below meth c hx hb hml hown hnm hts hbs hZ
  have ht : ∀ w ∈ pw_T, w.before args s = true := fun w h => hts w (List.mem_cons_of_mem _ h)
  exact ⟨hx, hb, hown, hbs, pm_look_all kD_Mo_covers, kf_ok (init := false) ht hZ kF_Mo_ok (fun h => by cases h), km_ok ht kM_Mo_ok, kci_ok ht kI_Mo_ok, kli_ok ht kJ_Mo_ok, kar_ok ht hZ kA_Mo_ok,
    pm_look_all (List.forall_mem_cons.mpr ⟨pm_cokS hbs hZ ⟨hx, hb, hml, hown, hts⟩ (kW_Mo_maskHigh l D base sa) (fun mc ms => va_cwS 1 hts (pw_gS (pw_in 2653 (w := .methodLink "RoutingFieldModel" 433 ⟨"RoutingFieldModel", "maskHigh", "(I)J"⟩) (by decide +kernel) rfl) kv_Mo_maskHigh kn_Mo ko_Mo_maskHigh) rfl rfl rfl (by decide +kernel) ⟨Nat.le_of_ble_eq_true rfl, Nat.le_of_ble_eq_true rfl⟩) (Nat.le_of_ble_eq_true rfl), List.forall_mem_cons.mpr ⟨pm_cokS hbs hZ ⟨hx, hb, hml, hown, hts⟩ (kW_Mo_maskLow l D base sa) (fun mc ms => va_cwS 1 hts (pw_gS (pw_in 2657 (w := .methodLink "RoutingFieldModel" 437 ⟨"RoutingFieldModel", "maskLow", "(I)J"⟩) (by decide +kernel) rfl) kv_Mo_maskLow kn_Mo ko_Mo_maskLow) rfl rfl rfl (by decide +kernel) ⟨Nat.le_of_ble_eq_true rfl, Nat.le_of_ble_eq_true rfl⟩) (Nat.le_of_ble_eq_true rfl), fun _ h => absurd h List.not_mem_nil⟩⟩),
    hZ, kst_ok ht hZ (kS_Mo_ok sa), knar_ok ht, ktx_ok (kE_Mo_ok sa)⟩
set_option maxRecDepth 100000 in
theorem kv_Mo_coversPrefix : Cond.static ⟨"RoutingFieldModel", "coversPrefix", "(JJIJJI)Z"⟩ ∈ pw_T := (pw_in 3031 (by decide +kernel) rfl)
set_option maxRecDepth 100000 in
theorem ko_Mo_coversPrefix : Cond.code ⟨"RoutingFieldModel", "coversPrefix", "(JJIJJI)Z"⟩ prog_14_method_7_code 10 (some .boolean) ∈ pw_T := (pw_in 3032 rfl rfl)
set_option maxRecDepth 100000 in
theorem kD_Mo_coversPrefix : ∀ q ∈ kC_Mo_coversPrefix, decode prog_14_method_7_code q.1 = .ok (q.2, pm_len q.1 q.2) := by decide +kernel
set_option maxRecDepth 100000 in
theorem kW_Mo_coversPrefix (l : Launch) (D : va_G) (base : Nat) (sa : Nat → Nat) : pm_Met l D kcl base (kZ sa) ⟨"RoutingFieldModel", "coversPrefix", "(JJIJJI)Z"⟩ (.code ⟨"RoutingFieldModel", "coversPrefix", "(JJIJJI)Z"⟩ prog_14_method_7_code 10 (some .boolean) :: pw_T) 2 56 (kP_Mo_coversPrefix base sa) := by
  refine pm_met (by decide) rfl rfl ?_
  intro mc ms p e s m args below meth c hx hb hml hown hnm hts hbs hZ
  have ht : ∀ w ∈ pw_T, w.before args s = true := fun w h => hts w (List.mem_cons_of_mem _ h)
  exact ⟨hx, hb, hown, hbs, pm_look_all kD_Mo_coversPrefix, kf_ok (init := false) ht hZ kF_Mo_ok (fun h => by cases h), km_ok ht kM_Mo_ok, kci_ok ht kI_Mo_ok, kli_ok ht kJ_Mo_ok, kar_ok ht hZ kA_Mo_ok,
    pm_look_all (List.forall_mem_cons.mpr ⟨pm_cokS hbs hZ ⟨hx, hb, hml, hown, hts⟩ (kW_Mo_covers l D base sa) (fun mc ms => va_cwS 5 hts (pw_gS (pw_in 2978 (w := .methodLink "RoutingFieldModel" 440 ⟨"RoutingFieldModel", "covers", "(JJIJJ)Z"⟩) (by decide +kernel) rfl) kv_Mo_covers kn_Mo ko_Mo_covers) rfl rfl rfl (by decide +kernel) ⟨Nat.le_of_ble_eq_true rfl, Nat.le_of_ble_eq_true rfl⟩) (Nat.le_of_ble_eq_true rfl), fun _ h => absurd h List.not_mem_nil⟩),
    hZ, kst_ok ht hZ (kS_Mo_ok sa), knar_ok ht, ktx_ok (kE_Mo_ok sa)⟩
set_option maxRecDepth 100000 in
theorem kv_Mo_isLess : Cond.static ⟨"RoutingFieldModel", "isLess", "(JJ)Z"⟩ ∈ pw_T := (pw_in 2700 (by decide +kernel) rfl)
set_option maxRecDepth 100000 in
theorem ko_Mo_isLess : Cond.code ⟨"RoutingFieldModel", "isLess", "(JJ)Z"⟩ prog_14_method_8_code 4 (some .boolean) ∈ pw_T := (pw_in 2701 rfl rfl)
set_option maxRecDepth 100000 in
theorem kD_Mo_isLess : ∀ q ∈ kC_Mo_isLess, decode prog_14_method_8_code q.1 = .ok (q.2, pm_len q.1 q.2) := by decide +kernel
set_option maxRecDepth 100000 in
theorem kW_Mo_isLess (l : Launch) (D : va_G) (base : Nat) (sa : Nat → Nat) : pm_Met l D kcl base (kZ sa) ⟨"RoutingFieldModel", "isLess", "(JJ)Z"⟩ (.code ⟨"RoutingFieldModel", "isLess", "(JJ)Z"⟩ prog_14_method_8_code 4 (some .boolean) :: pw_T) 0 0 (kP_Mo_isLess base sa) := by
  refine pm_met (by decide) rfl rfl ?_
  intro mc ms p e s m args below meth c hx hb hml hown hnm hts hbs hZ
  have ht : ∀ w ∈ pw_T, w.before args s = true := fun w h => hts w (List.mem_cons_of_mem _ h)
  exact ⟨hx, hb, hown, hbs, pm_look_all kD_Mo_isLess, kf_ok (init := false) ht hZ kF_Mo_ok (fun h => by cases h), km_ok ht kM_Mo_ok, kci_ok ht kI_Mo_ok, kli_ok ht kJ_Mo_ok, kar_ok ht hZ kA_Mo_ok,
    pm_look_all (fun _ h => absurd h List.not_mem_nil),
    hZ, kst_ok ht hZ (kS_Mo_ok sa), knar_ok ht, ktx_ok (kE_Mo_ok sa)⟩
set_option maxRecDepth 100000 in
theorem kv_Mo_isAhead : Cond.static ⟨"RoutingFieldModel", "isAhead", "(JJIJJI)Z"⟩ ∈ pw_T := (pw_in 2697 (by decide +kernel) rfl)
set_option maxRecDepth 100000 in
theorem ko_Mo_isAhead : Cond.code ⟨"RoutingFieldModel", "isAhead", "(JJIJJI)Z"⟩ prog_14_method_9_code 10 (some .boolean) ∈ pw_T := (pw_in 2698 rfl rfl)
set_option maxRecDepth 100000 in
theorem kD_Mo_isAhead : ∀ q ∈ kC_Mo_isAhead, decode prog_14_method_9_code q.1 = .ok (q.2, pm_len q.1 q.2) := by decide +kernel
set_option maxRecDepth 100000 in
theorem kW_Mo_isAhead (l : Launch) (D : va_G) (base : Nat) (sa : Nat → Nat) : pm_Met l D kcl base (kZ sa) ⟨"RoutingFieldModel", "isAhead", "(JJIJJI)Z"⟩ (.code ⟨"RoutingFieldModel", "isAhead", "(JJIJJI)Z"⟩ prog_14_method_9_code 10 (some .boolean) :: pw_T) 1 27 (kP_Mo_isAhead base sa) := by
  refine pm_met (by decide) rfl rfl ?_
  intro mc ms p e s m args below meth c hx hb hml hown hnm hts hbs hZ
  have ht : ∀ w ∈ pw_T, w.before args s = true := fun w h => hts w (List.mem_cons_of_mem _ h)
  exact ⟨hx, hb, hown, hbs, pm_look_all kD_Mo_isAhead, kf_ok (init := false) ht hZ kF_Mo_ok (fun h => by cases h), km_ok ht kM_Mo_ok, kci_ok ht kI_Mo_ok, kli_ok ht kJ_Mo_ok, kar_ok ht hZ kA_Mo_ok,
    pm_look_all (List.forall_mem_cons.mpr ⟨pm_cokS hbs hZ ⟨hx, hb, hml, hown, hts⟩ (kW_Mo_isLess l D base sa) (fun mc ms => va_cwS 2 hts (pw_gS (pw_in 2699 (w := .methodLink "RoutingFieldModel" 448 ⟨"RoutingFieldModel", "isLess", "(JJ)Z"⟩) (by decide +kernel) rfl) kv_Mo_isLess kn_Mo ko_Mo_isLess) rfl rfl rfl (by decide +kernel) ⟨Nat.le_of_ble_eq_true rfl, Nat.le_of_ble_eq_true rfl⟩) (Nat.le_of_ble_eq_true rfl), fun _ h => absurd h List.not_mem_nil⟩),
    hZ, kst_ok ht hZ (kS_Mo_ok sa), knar_ok ht, ktx_ok (kE_Mo_ok sa)⟩
set_option maxRecDepth 100000 in
theorem kv_Mo_bitsOf : Cond.static ⟨"RoutingFieldModel", "bitsOf", "(I)I"⟩ ∈ pw_T := (pw_in 2606 (by decide +kernel) rfl)
set_option maxRecDepth 100000 in
theorem ko_Mo_bitsOf : Cond.code ⟨"RoutingFieldModel", "bitsOf", "(I)I"⟩ prog_14_method_10_code 1 (some .int) ∈ pw_T := (pw_in 2607 rfl rfl)
set_option maxRecDepth 100000 in
theorem kD_Mo_bitsOf : ∀ q ∈ kC_Mo_bitsOf, decode prog_14_method_10_code q.1 = .ok (q.2, pm_len q.1 q.2) := by decide +kernel
set_option maxRecDepth 100000 in
theorem kW_Mo_bitsOf (l : Launch) (D : va_G) (base : Nat) (sa : Nat → Nat) : pm_Met l D kcl base (kZ sa) ⟨"RoutingFieldModel", "bitsOf", "(I)I"⟩ (.code ⟨"RoutingFieldModel", "bitsOf", "(I)I"⟩ prog_14_method_10_code 1 (some .int) :: pw_T) 0 0 (kP_Mo_bitsOf base sa) := by
  refine pm_met (by decide) rfl rfl ?_
  intro mc ms p e s m args below meth c hx hb hml hown hnm hts hbs hZ
  have ht : ∀ w ∈ pw_T, w.before args s = true := fun w h => hts w (List.mem_cons_of_mem _ h)
  exact ⟨hx, hb, hown, hbs, pm_look_all kD_Mo_bitsOf, kf_ok (init := false) ht hZ kF_Mo_ok (fun h => by cases h), km_ok ht kM_Mo_ok, kci_ok ht kI_Mo_ok, kli_ok ht kJ_Mo_ok, kar_ok ht hZ kA_Mo_ok,
    pm_look_all (fun _ h => absurd h List.not_mem_nil),
    hZ, kst_ok ht hZ (kS_Mo_ok sa), knar_ok ht, ktx_ok (kE_Mo_ok sa)⟩
