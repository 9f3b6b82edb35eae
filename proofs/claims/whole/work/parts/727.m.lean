set_option maxRecDepth 100000 in
theorem ki_Mo_line : Cond.instanceMethod ⟨"RoutingFieldModel", "line", "()I"⟩ ∈ pw_T := (pw_in 2513 (by decide +kernel) rfl)
set_option maxRecDepth 100000 in
theorem ks_Mo_line : Cond.selects "RoutingFieldModel" ⟨"RoutingFieldModel", "line", "()I"⟩ ⟨"RoutingFieldModel", "line", "()I"⟩ ∈ pw_T := (pw_sel 111 (q := (⟨"RoutingFieldModel", "line", "()I"⟩, 166)) (by decide +kernel))
set_option maxRecDepth 100000 in
theorem ko_Mo_line : Cond.code ⟨"RoutingFieldModel", "line", "()I"⟩ prog_14_method_36_code 3 (some .int) ∈ pw_T := (pw_in 2514 rfl rfl)
set_option maxRecDepth 100000 in
theorem kD_Mo_line_0 : ∀ q ∈ kC_Mo_line_0, decode prog_14_method_36_code q.1 = .ok (q.2, pm_len q.1 q.2) := by decide +kernel
set_option maxRecDepth 100000 in
theorem kD_Mo_line_1 : ∀ q ∈ kC_Mo_line_1, decode prog_14_method_36_code q.1 = .ok (q.2, pm_len q.1 q.2) := by decide +kernel
set_option maxRecDepth 100000 in
theorem kD_Mo_line_2 : ∀ q ∈ kC_Mo_line_2, decode prog_14_method_36_code q.1 = .ok (q.2, pm_len q.1 q.2) := by decide +kernel
theorem kD_Mo_line : ∀ q ∈ kC_Mo_line, decode prog_14_method_36_code q.1 = .ok (q.2, pm_len q.1 q.2) := List.forall_mem_append.mpr ⟨kD_Mo_line_0, List.forall_mem_append.mpr ⟨kD_Mo_line_1, kD_Mo_line_2⟩⟩
set_option maxRecDepth 100000 in
theorem kW_Mo_line (l : Launch) (D : va_G) (base : Nat) (sa : Nat → Nat) : pm_Met l D kcl base (kZ sa) ⟨"RoutingFieldModel", "line", "()I"⟩ (.code ⟨"RoutingFieldModel", "line", "()I"⟩ prog_14_method_36_code 3 (some .int) :: pw_T) 8 215 (kP_Mo_line base sa) := by
  refine pm_met (by decide) rfl rfl ?_
  intro mc ms p e s m args below meth c hx hb hml hown hnm hts hbs hZ
  have ht : ∀ w ∈ pw_T, w.before args s = true := fun w h => hts w (List.mem_cons_of_mem _ h)
  exact ⟨hx, hb, hown, hbs, pm_look_all kD_Mo_line, kf_ok (init := false) ht hZ kF_Mo_ok (fun h => by cases h), km_ok ht kM_Mo_ok, kci_ok ht kI_Mo_ok, kli_ok ht kJ_Mo_ok, kar_ok ht hZ kA_Mo_ok,
    pm_look_all (List.forall_mem_cons.mpr ⟨pm_cokV hbs hZ ⟨hx, hb, hml, hown, hts⟩ (kW_Mo_code l D base sa) (fun mc ms => cwV 1 hts (pw_gV (pw_in 2515 (w := .methodLink "RoutingFieldModel" 467 ⟨"RoutingFieldModel", "code", "(I)J"⟩) (by decide +kernel) rfl) ki_Mo_code ks_Mo_code kn_Mo ko_Mo_code) rfl rfl rfl (by decide +kernel) ⟨Nat.le_of_ble_eq_true rfl, Nat.le_of_ble_eq_true rfl⟩) (ci := 12) rfl, List.forall_mem_cons.mpr ⟨pm_cokV hbs hZ ⟨hx, hb, hml, hown, hts⟩ (kW_Mo_lineLink l D base sa) (fun mc ms => cwV 0 hts (pw_gV (pw_in 2525 (w := .methodLink "RoutingFieldModel" 542 ⟨"RoutingFieldModel", "lineLink", "()I"⟩) (by decide +kernel) rfl) ki_Mo_lineLink ks_Mo_lineLink kn_Mo ko_Mo_lineLink) rfl rfl rfl (by decide +kernel) ⟨Nat.le_of_ble_eq_true rfl, Nat.le_of_ble_eq_true rfl⟩) (ci := 12) rfl, List.forall_mem_cons.mpr ⟨pm_cokV hbs hZ ⟨hx, hb, hml, hown, hts⟩ (kW_Mo_lineRouter l D base sa) (fun mc ms => cwV 0 hts (pw_gV (pw_in 2563 (w := .methodLink "RoutingFieldModel" 547 ⟨"RoutingFieldModel", "lineRouter", "()I"⟩) (by decide +kernel) rfl) ki_Mo_lineRouter ks_Mo_lineRouter kn_Mo ko_Mo_lineRouter) rfl rfl rfl (by decide +kernel) ⟨Nat.le_of_ble_eq_true rfl, Nat.le_of_ble_eq_true rfl⟩) (ci := 12) rfl, List.forall_mem_cons.mpr ⟨pm_cokV hbs hZ ⟨hx, hb, hml, hown, hts⟩ (kW_Mo_lineJoin l D base sa) (fun mc ms => cwV 0 hts (pw_gV (pw_in 2572 (w := .methodLink "RoutingFieldModel" 552 ⟨"RoutingFieldModel", "lineJoin", "()I"⟩) (by decide +kernel) rfl) ki_Mo_lineJoin ks_Mo_lineJoin kn_Mo ko_Mo_lineJoin) rfl rfl rfl (by decide +kernel) ⟨Nat.le_of_ble_eq_true rfl, Nat.le_of_ble_eq_true rfl⟩) (ci := 12) rfl, List.forall_mem_cons.mpr ⟨pm_cokV hbs hZ ⟨hx, hb, hml, hown, hts⟩ (kW_Mo_lineKey l D base sa) (fun mc ms => cwV 0 hts (pw_gV (pw_in 2850 (w := .methodLink "RoutingFieldModel" 557 ⟨"RoutingFieldModel", "lineKey", "()I"⟩) (by decide +kernel) rfl) ki_Mo_lineKey ks_Mo_lineKey kn_Mo ko_Mo_lineKey) rfl rfl rfl (by decide +kernel) ⟨Nat.le_of_ble_eq_true rfl, Nat.le_of_ble_eq_true rfl⟩) (ci := 12) rfl, List.forall_mem_cons.mpr ⟨pm_cokV hbs hZ ⟨hx, hb, hml, hown, hts⟩ (kW_Mo_lineNokey l D base sa) (fun mc ms => cwV 0 hts (pw_gV (pw_in 2859 (w := .methodLink "RoutingFieldModel" 562 ⟨"RoutingFieldModel", "lineNokey", "()I"⟩) (by decide +kernel) rfl) ki_Mo_lineNokey ks_Mo_lineNokey kn_Mo ko_Mo_lineNokey) rfl rfl rfl (by decide +kernel) ⟨Nat.le_of_ble_eq_true rfl, Nat.le_of_ble_eq_true rfl⟩) (ci := 12) rfl, List.forall_mem_cons.mpr ⟨pm_cokV hbs hZ ⟨hx, hb, hml, hown, hts⟩ (kW_Mo_lineStatic l D base sa) (fun mc ms => cwV 0 hts (pw_gV (pw_in 2864 (w := .methodLink "RoutingFieldModel" 567 ⟨"RoutingFieldModel", "lineStatic", "()I"⟩) (by decide +kernel) rfl) ki_Mo_lineStatic ks_Mo_lineStatic kn_Mo ko_Mo_lineStatic) rfl rfl rfl (by decide +kernel) ⟨Nat.le_of_ble_eq_true rfl, Nat.le_of_ble_eq_true rfl⟩) (ci := 12) rfl, List.forall_mem_cons.mpr ⟨pm_cokV hbs hZ ⟨hx, hb, hml, hown, hts⟩ (kW_Mo_lineNostatic l D base sa) (fun mc ms => cwV 0 hts (pw_gV (pw_in 2877 (w := .methodLink "RoutingFieldModel" 572 ⟨"RoutingFieldModel", "lineNostatic", "()I"⟩) (by decide +kernel) rfl) ki_Mo_lineNostatic ks_Mo_lineNostatic kn_Mo ko_Mo_lineNostatic) rfl rfl rfl (by decide +kernel) ⟨Nat.le_of_ble_eq_true rfl, Nat.le_of_ble_eq_true rfl⟩) (ci := 12) rfl, List.forall_mem_cons.mpr ⟨pm_cokV hbs hZ ⟨hx, hb, hml, hown, hts⟩ (kW_Mo_lineFilter l D base sa) (fun mc ms => cwV 0 hts (pw_gV (pw_in 2882 (w := .methodLink "RoutingFieldModel" 577 ⟨"RoutingFieldModel", "lineFilter", "()I"⟩) (by decide +kernel) rfl) ki_Mo_lineFilter ks_Mo_lineFilter kn_Mo ko_Mo_lineFilter) rfl rfl rfl (by decide +kernel) ⟨Nat.le_of_ble_eq_true rfl, Nat.le_of_ble_eq_true rfl⟩) (ci := 12) rfl, List.forall_mem_cons.mpr ⟨pm_cokV hbs hZ ⟨hx, hb, hml, hown, hts⟩ (kW_Mo_lineList l D base sa) (fun mc ms => cwV 0 hts (pw_gV (pw_in 2899 (w := .methodLink "RoutingFieldModel" 582 ⟨"RoutingFieldModel", "lineList", "()I"⟩) (by decide +kernel) rfl) ki_Mo_lineList ks_Mo_lineList kn_Mo ko_Mo_lineList) rfl rfl rfl (by decide +kernel) ⟨Nat.le_of_ble_eq_true rfl, Nat.le_of_ble_eq_true rfl⟩) (ci := 12) rfl, List.forall_mem_cons.mpr ⟨pm_cokV hbs hZ ⟨hx, hb, hml, hown, hts⟩ (kW_Mo_lineDistribute l D base sa) (fun mc ms => cwV 0 hts (pw_gV (pw_in 2910 (w := .methodLink "RoutingFieldModel" 587 ⟨"RoutingFieldModel", "lineDistribute", "()I"⟩) (by decide +kernel) rfl) ki_Mo_lineDistribute ks_Mo_lineDistribute kn_Mo ko_Mo_lineDistribute) rfl rfl rfl (by decide +kernel) ⟨Nat.le_of_ble_eq_true rfl, Nat.le_of_ble_eq_true rfl⟩) (ci := 12) rfl, List.forall_mem_cons.mpr ⟨pm_cokV hbs hZ ⟨hx, hb, hml, hown, hts⟩ (kW_Mo_lineOffset l D base sa) (fun mc ms => cwV 0 hts (pw_gV (pw_in 2919 (w := .methodLink "RoutingFieldModel" 592 ⟨"RoutingFieldModel", "lineOffset", "()I"⟩) (by decide +kernel) rfl) ki_Mo_lineOffset ks_Mo_lineOffset kn_Mo ko_Mo_lineOffset) rfl rfl rfl (by decide +kernel) ⟨Nat.le_of_ble_eq_true rfl, Nat.le_of_ble_eq_true rfl⟩) (ci := 12) rfl, List.forall_mem_cons.mpr ⟨pm_cokV hbs hZ ⟨hx, hb, hml, hown, hts⟩ (kW_Mo_lineSummary l D base sa) (fun mc ms => cwV 0 hts (pw_gV (pw_in 2924 (w := .methodLink "RoutingFieldModel" 597 ⟨"RoutingFieldModel", "lineSummary", "()I"⟩) (by decide +kernel) rfl) ki_Mo_lineSummary ks_Mo_lineSummary kn_Mo ko_Mo_lineSummary) rfl rfl rfl (by decide +kernel) ⟨Nat.le_of_ble_eq_true rfl, Nat.le_of_ble_eq_true rfl⟩) (ci := 12) rfl, List.forall_mem_cons.mpr ⟨pm_cokV hbs hZ ⟨hx, hb, hml, hown, hts⟩ (kW_Mo_lineNeighbor l D base sa) (fun mc ms => cwV 0 hts (pw_gV (pw_in 2929 (w := .methodLink "RoutingFieldModel" 602 ⟨"RoutingFieldModel", "lineNeighbor", "()I"⟩) (by decide +kernel) rfl) ki_Mo_lineNeighbor ks_Mo_lineNeighbor kn_Mo ko_Mo_lineNeighbor) rfl rfl rfl (by decide +kernel) ⟨Nat.le_of_ble_eq_true rfl, Nat.le_of_ble_eq_true rfl⟩) (ci := 12) rfl, List.forall_mem_cons.mpr ⟨pm_cokV hbs hZ ⟨hx, hb, hml, hown, hts⟩ (kW_Mo_lineRedistribute l D base sa) (fun mc ms => cwV 0 hts (pw_gV (pw_in 2938 (w := .methodLink "RoutingFieldModel" 607 ⟨"RoutingFieldModel", "lineRedistribute", "()I"⟩) (by decide +kernel) rfl) ki_Mo_lineRedistribute ks_Mo_lineRedistribute kn_Mo ko_Mo_lineRedistribute) rfl rfl rfl (by decide +kernel) ⟨Nat.le_of_ble_eq_true rfl, Nat.le_of_ble_eq_true rfl⟩) (ci := 12) rfl, List.forall_mem_cons.mpr ⟨pm_cokV hbs hZ ⟨hx, hb, hml, hown, hts⟩ (kW_Mo_lineDefault l D base sa) (fun mc ms => cwV 0 hts (pw_gV (pw_in 2945 (w := .methodLink "RoutingFieldModel" 612 ⟨"RoutingFieldModel", "lineDefault", "()I"⟩) (by decide +kernel) rfl) ki_Mo_lineDefault ks_Mo_lineDefault kn_Mo ko_Mo_lineDefault) rfl rfl rfl (by decide +kernel) ⟨Nat.le_of_ble_eq_true rfl, Nat.le_of_ble_eq_true rfl⟩) (ci := 12) rfl, List.forall_mem_cons.mpr ⟨pm_cokV hbs hZ ⟨hx, hb, hml, hown, hts⟩ (kW_Mo_lineTimers l D base sa) (fun mc ms => cwV 0 hts (pw_gV (pw_in 2950 (w := .methodLink "RoutingFieldModel" 617 ⟨"RoutingFieldModel", "lineTimers", "()I"⟩) (by decide +kernel) rfl) ki_Mo_lineTimers ks_Mo_lineTimers kn_Mo ko_Mo_lineTimers) rfl rfl rfl (by decide +kernel) ⟨Nat.le_of_ble_eq_true rfl, Nat.le_of_ble_eq_true rfl⟩) (ci := 12) rfl, fun _ h => absurd h List.not_mem_nil⟩⟩⟩⟩⟩⟩⟩⟩⟩⟩⟩⟩⟩⟩⟩⟩⟩),
    hZ, kst_ok ht hZ (kS_Mo_ok sa), knar_ok ht, ktx_ok (kE_Mo_ok sa)⟩
set_option maxRecDepth 100000 in
theorem ki_Mo_read : Cond.instanceMethod ⟨"RoutingFieldModel", "read", "()I"⟩ ∈ pw_T := (pw_in 2501 (by decide +kernel) rfl)
set_option maxRecDepth 100000 in
theorem ks_Mo_read : Cond.selects "RoutingFieldModel" ⟨"RoutingFieldModel", "read", "()I"⟩ ⟨"RoutingFieldModel", "read", "()I"⟩ ∈ pw_T := (pw_in 2502 (by decide +kernel) rfl)
set_option maxRecDepth 100000 in
theorem ko_Mo_read : Cond.code ⟨"RoutingFieldModel", "read", "()I"⟩ prog_14_method_33_code 4 (some .int) ∈ pw_T := (pw_in 2503 rfl rfl)
set_option maxRecDepth 100000 in
theorem kD_Mo_read_0 : ∀ q ∈ kC_Mo_read_0, decode prog_14_method_33_code q.1 = .ok (q.2, pm_len q.1 q.2) := by decide +kernel
set_option maxRecDepth 100000 in
theorem kD_Mo_read_1 : ∀ q ∈ kC_Mo_read_1, decode prog_14_method_33_code q.1 = .ok (q.2, pm_len q.1 q.2) := by decide +kernel
theorem kD_Mo_read : ∀ q ∈ kC_Mo_read, decode prog_14_method_33_code q.1 = .ok (q.2, pm_len q.1 q.2) := List.forall_mem_append.mpr ⟨kD_Mo_read_0, kD_Mo_read_1⟩
set_option maxRecDepth 100000 in
theorem kW_Mo_read (l : Launch) (D : va_G) (base : Nat) (sa : Nat → Nat) : pm_Met l D kcl base (kZ sa) ⟨"RoutingFieldModel", "read", "()I"⟩ (.code ⟨"RoutingFieldModel", "read", "()I"⟩ prog_14_method_33_code 4 (some .int) :: pw_T) 9 237 (kP_Mo_read base sa) := by
  refine pm_met (by decide) rfl rfl ?_
  intro mc ms p e s m args below meth c hx hb hml hown hnm hts hbs hZ
  have ht : ∀ w ∈ pw_T, w.before args s = true := fun w h => hts w (List.mem_cons_of_mem _ h)
  exact ⟨hx, hb, hown, hbs, pm_look_all kD_Mo_read, kf_ok (init := false) ht hZ kF_Mo_ok (fun h => by cases h), km_ok ht kM_Mo_ok, kci_ok ht kI_Mo_ok, kli_ok ht kJ_Mo_ok, kar_ok ht hZ kA_Mo_ok,
    pm_look_all (List.forall_mem_cons.mpr ⟨pm_cokV hbs hZ ⟨hx, hb, hml, hown, hts⟩ (kW_Mo_part l D base sa) (fun mc ms => cwV 2 hts (pw_gV (pw_in 2504 (w := .methodLink "RoutingFieldModel" 526 ⟨"RoutingFieldModel", "part", "(II)V"⟩) (by decide +kernel) rfl) ki_Mo_part ks_Mo_part kn_Mo ko_Mo_part) rfl rfl rfl (by decide +kernel) ⟨Nat.le_of_ble_eq_true rfl, Nat.le_of_ble_eq_true rfl⟩) (ci := 12) rfl, List.forall_mem_cons.mpr ⟨pm_cokV hbs hZ ⟨hx, hb, hml, hown, hts⟩ (kW_Mo_line l D base sa) (fun mc ms => cwV 0 hts (pw_gV (pw_in 2511 (w := .methodLink "RoutingFieldModel" 533 ⟨"RoutingFieldModel", "line", "()I"⟩) (by decide +kernel) rfl) ki_Mo_line ks_Mo_line kn_Mo ko_Mo_line) rfl rfl rfl (by decide +kernel) ⟨Nat.le_of_ble_eq_true rfl, Nat.le_of_ble_eq_true rfl⟩) (ci := 12) rfl, fun _ h => absurd h List.not_mem_nil⟩⟩),
    hZ, kst_ok ht hZ (kS_Mo_ok sa), knar_ok ht, ktx_ok (kE_Mo_ok sa)⟩
set_option maxRecDepth 100000 in
theorem ki_Mo_filterAllows : Cond.instanceMethod ⟨"RoutingFieldModel", "filterAllows", "(IIIJJI)Z"⟩ ∈ pw_T := (pw_in 3028 (by decide +kernel) rfl)
set_option maxRecDepth 100000 in
theorem ks_Mo_filterAllows : Cond.selects "RoutingFieldModel" ⟨"RoutingFieldModel", "filterAllows", "(IIIJJI)Z"⟩ ⟨"RoutingFieldModel", "filterAllows", "(IIIJJI)Z"⟩ ∈ pw_T := (pw_sel 195 (q := (⟨"RoutingFieldModel", "filterAllows", "(IIIJJI)Z"⟩, 166)) (by decide +kernel))
set_option maxRecDepth 100000 in
theorem ko_Mo_filterAllows : Cond.code ⟨"RoutingFieldModel", "filterAllows", "(IIIJJI)Z"⟩ prog_14_method_67_code 10 (some .boolean) ∈ pw_T := (pw_in 3029 rfl rfl)
set_option maxRecDepth 100000 in
theorem kD_Mo_filterAllows : ∀ q ∈ kC_Mo_filterAllows, decode prog_14_method_67_code q.1 = .ok (q.2, pm_len q.1 q.2) := by decide +kernel
set_option maxRecDepth 100000 in
theorem kW_Mo_filterAllows (l : Launch) (D : va_G) (base : Nat) (sa : Nat → Nat) : pm_Met l D kcl base (kZ sa) ⟨"RoutingFieldModel", "filterAllows", "(IIIJJI)Z"⟩ (.code ⟨"RoutingFieldModel", "filterAllows", "(IIIJJI)Z"⟩ prog_14_method_67_code 10 (some .boolean) :: pw_T) 3 89 (kP_Mo_filterAllows base sa) := by
  refine pm_met (by decide) rfl rfl ?_
  intro mc ms p e s m args below meth c hx hb hml hown hnm hts hbs hZ
  have ht : ∀ w ∈ pw_T, w.before args s = true := fun w h => hts w (List.mem_cons_of_mem _ h)
  exact ⟨hx, hb, hown, hbs, pm_look_all kD_Mo_filterAllows, kf_ok (init := false) ht hZ kF_Mo_ok (fun h => by cases h), km_ok ht kM_Mo_ok, kci_ok ht kI_Mo_ok, kli_ok ht kJ_Mo_ok, kar_ok ht hZ kA_Mo_ok,
    pm_look_all (List.forall_mem_cons.mpr ⟨pm_cokS hbs hZ ⟨hx, hb, hml, hown, hts⟩ (kW_Mo_coversPrefix l D base sa) (fun mc ms => va_cwS 6 hts (pw_gS (pw_in 3030 (w := .methodLink "RoutingFieldModel" 750 ⟨"RoutingFieldModel", "coversPrefix", "(JJIJJI)Z"⟩) (by decide +kernel) rfl) kv_Mo_coversPrefix kn_Mo ko_Mo_coversPrefix) rfl rfl rfl (by decide +kernel) ⟨Nat.le_of_ble_eq_true rfl, Nat.le_of_ble_eq_true rfl⟩) (Nat.le_of_ble_eq_true rfl), fun _ h => absurd h List.not_mem_nil⟩),
    hZ, kst_ok ht hZ (kS_Mo_ok sa), knar_ok ht, ktx_ok (kE_Mo_ok sa)⟩
set_option maxRecDepth 100000 in
theorem ki_Mo_fits : Cond.instanceMethod ⟨"RoutingFieldModel", "fits", "(IIJJI)Z"⟩ ∈ pw_T := (pw_in 3043 (by decide +kernel) rfl)
set_option maxRecDepth 100000 in
theorem ks_Mo_fits : Cond.selects "RoutingFieldModel" ⟨"RoutingFieldModel", "fits", "(IIJJI)Z"⟩ ⟨"RoutingFieldModel", "fits", "(IIJJI)Z"⟩ ∈ pw_T := (pw_sel 198 (q := (⟨"RoutingFieldModel", "fits", "(IIJJI)Z"⟩, 166)) (by decide +kernel))
set_option maxRecDepth 100000 in
theorem ko_Mo_fits : Cond.code ⟨"RoutingFieldModel", "fits", "(IIJJI)Z"⟩ prog_14_method_68_code 10 (some .boolean) ∈ pw_T := (pw_in 3044 rfl rfl)
set_option maxRecDepth 100000 in
theorem kD_Mo_fits_0 : ∀ q ∈ kC_Mo_fits_0, decode prog_14_method_68_code q.1 = .ok (q.2, pm_len q.1 q.2) := by decide +kernel
set_option maxRecDepth 100000 in
theorem kD_Mo_fits_1 : ∀ q ∈ kC_Mo_fits_1, decode prog_14_method_68_code q.1 = .ok (q.2, pm_len q.1 q.2) := by decide +kernel
theorem kD_Mo_fits : ∀ q ∈ kC_Mo_fits, decode prog_14_method_68_code q.1 = .ok (q.2, pm_len q.1 q.2) := List.forall_mem_append.mpr ⟨kD_Mo_fits_0, kD_Mo_fits_1⟩
set_option maxRecDepth 100000 in
theorem kW_Mo_fits (l : Launch) (D : va_G) (base : Nat) (sa : Nat → Nat) : pm_Met l D kcl base (kZ sa) ⟨"RoutingFieldModel", "fits", "(IIJJI)Z"⟩ (.code ⟨"RoutingFieldModel", "fits", "(IIJJI)Z"⟩ prog_14_method_68_code 10 (some .boolean) :: pw_T) 3 89 (kP_Mo_fits base sa) := by
  refine pm_met (by decide) rfl rfl ?_
  intro mc ms p e s m args below meth c hx hb hml hown hnm hts hbs hZ
  have ht : ∀ w ∈ pw_T, w.before args s = true := fun w h => hts w (List.mem_cons_of_mem _ h)
  exact ⟨hx, hb, hown, hbs, pm_look_all kD_Mo_fits, kf_ok (init := false) ht hZ kF_Mo_ok (fun h => by cases h), km_ok ht kM_Mo_ok, kci_ok ht kI_Mo_ok, kli_ok ht kJ_Mo_ok, kar_ok ht hZ kA_Mo_ok,
    pm_look_all (List.forall_mem_cons.mpr ⟨pm_cokS hbs hZ ⟨hx, hb, hml, hown, hts⟩ (kW_Mo_coversPrefix l D base sa) (fun mc ms => va_cwS 6 hts (pw_gS (pw_in 3030 (w := .methodLink "RoutingFieldModel" 750 ⟨"RoutingFieldModel", "coversPrefix", "(JJIJJI)Z"⟩) (by decide +kernel) rfl) kv_Mo_coversPrefix kn_Mo ko_Mo_coversPrefix) rfl rfl rfl (by decide +kernel) ⟨Nat.le_of_ble_eq_true rfl, Nat.le_of_ble_eq_true rfl⟩) (Nat.le_of_ble_eq_true rfl), List.forall_mem_cons.mpr ⟨pm_cokS hbs hZ ⟨hx, hb, hml, hown, hts⟩ (kW_Mo_bitsOf l D base sa) (fun mc ms => va_cwS 1 hts (pw_gS (pw_in 2605 (w := .methodLink "RoutingFieldModel" 510 ⟨"RoutingFieldModel", "bitsOf", "(I)I"⟩) (by decide +kernel) rfl) kv_Mo_bitsOf kn_Mo ko_Mo_bitsOf) rfl rfl rfl (by decide +kernel) ⟨Nat.le_of_ble_eq_true rfl, Nat.le_of_ble_eq_true rfl⟩) (Nat.le_of_ble_eq_true rfl), fun _ h => absurd h List.not_mem_nil⟩⟩),
    hZ, kst_ok ht hZ (kS_Mo_ok sa), knar_ok ht, ktx_ok (kE_Mo_ok sa)⟩
set_option maxRecDepth 100000 in
theorem ki_Mo_listAllows : Cond.instanceMethod ⟨"RoutingFieldModel", "listAllows", "(IIJJI)Z"⟩ ∈ pw_T := (pw_in 3039 (by decide +kernel) rfl)
set_option maxRecDepth 100000 in
theorem ks_Mo_listAllows : Cond.selects "RoutingFieldModel" ⟨"RoutingFieldModel", "listAllows", "(IIJJI)Z"⟩ ⟨"RoutingFieldModel", "listAllows", "(IIJJI)Z"⟩ ∈ pw_T := (pw_sel 197 (q := (⟨"RoutingFieldModel", "listAllows", "(IIJJI)Z"⟩, 166)) (by decide +kernel))
set_option maxRecDepth 100000 in
theorem ko_Mo_listAllows : Cond.code ⟨"RoutingFieldModel", "listAllows", "(IIJJI)Z"⟩ prog_14_method_69_code 9 (some .boolean) ∈ pw_T := (pw_in 3040 rfl rfl)
set_option maxRecDepth 100000 in
theorem kD_Mo_listAllows : ∀ q ∈ kC_Mo_listAllows, decode prog_14_method_69_code q.1 = .ok (q.2, pm_len q.1 q.2) := by decide +kernel
set_option maxRecDepth 100000 in
theorem kW_Mo_listAllows (l : Launch) (D : va_G) (base : Nat) (sa : Nat → Nat) : pm_Met l D kcl base (kZ sa) ⟨"RoutingFieldModel", "listAllows", "(IIJJI)Z"⟩ (.code ⟨"RoutingFieldModel", "listAllows", "(IIJJI)Z"⟩ prog_14_method_69_code 9 (some .boolean) :: pw_T) 4 118 (kP_Mo_listAllows base sa) := by
  refine pm_met (by decide) rfl rfl ?_
  intro mc ms p e s m args below meth c hx hb hml hown hnm hts hbs hZ
  have ht : ∀ w ∈ pw_T, w.before args s = true := fun w h => hts w (List.mem_cons_of_mem _ h)
  exact ⟨hx, hb, hown, hbs, pm_look_all kD_Mo_listAllows, kf_ok (init := false) ht hZ kF_Mo_ok (fun h => by cases h), km_ok ht kM_Mo_ok, kci_ok ht kI_Mo_ok, kli_ok ht kJ_Mo_ok, kar_ok ht hZ kA_Mo_ok,
    pm_look_all (List.forall_mem_cons.mpr ⟨pm_cokV hbs hZ ⟨hx, hb, hml, hown, hts⟩ (kW_Mo_fits l D base sa) (fun mc ms => cwV 5 hts (pw_gV (pw_in 3041 (w := .methodLink "RoutingFieldModel" 754 ⟨"RoutingFieldModel", "fits", "(IIJJI)Z"⟩) (by decide +kernel) rfl) ki_Mo_fits ks_Mo_fits kn_Mo ko_Mo_fits) rfl rfl rfl (by decide +kernel) ⟨Nat.le_of_ble_eq_true rfl, Nat.le_of_ble_eq_true rfl⟩) (ci := 12) rfl, fun _ h => absurd h List.not_mem_nil⟩),
    hZ, kst_ok ht hZ (kS_Mo_ok sa), knar_ok ht, ktx_ok (kE_Mo_ok sa)⟩
set_option maxRecDepth 100000 in
theorem ki_Mo_distributeAllows : Cond.instanceMethod ⟨"RoutingFieldModel", "distributeAllows", "(IIIIJJI)Z"⟩ ∈ pw_T := (pw_in 3035 (by decide +kernel) rfl)
set_option maxRecDepth 100000 in
theorem ks_Mo_distributeAllows : Cond.selects "RoutingFieldModel" ⟨"RoutingFieldModel", "distributeAllows", "(IIIIJJI)Z"⟩ ⟨"RoutingFieldModel", "distributeAllows", "(IIIIJJI)Z"⟩ ∈ pw_T := (pw_sel 196 (q := (⟨"RoutingFieldModel", "distributeAllows", "(IIIIJJI)Z"⟩, 166)) (by decide +kernel))
set_option maxRecDepth 100000 in
theorem ko_Mo_distributeAllows : Cond.code ⟨"RoutingFieldModel", "distributeAllows", "(IIIIJJI)Z"⟩ prog_14_method_70_code 12 (some .boolean) ∈ pw_T := (pw_in 3036 rfl rfl)
set_option maxRecDepth 100000 in
theorem kD_Mo_distributeAllows : ∀ q ∈ kC_Mo_distributeAllows, decode prog_14_method_70_code q.1 = .ok (q.2, pm_len q.1 q.2) := by decide +kernel
set_option maxRecDepth 100000 in
theorem kW_Mo_distributeAllows (l : Launch) (D : va_G) (base : Nat) (sa : Nat → Nat) : pm_Met l D kcl base (kZ sa) ⟨"RoutingFieldModel", "distributeAllows", "(IIIIJJI)Z"⟩ (.code ⟨"RoutingFieldModel", "distributeAllows", "(IIIIJJI)Z"⟩ prog_14_method_70_code 12 (some .boolean) :: pw_T) 5 146 (kP_Mo_distributeAllows base sa) := by
  refine pm_met (by decide) rfl rfl ?_
  intro mc ms p e s m args below meth c hx hb hml hown hnm hts hbs hZ
  have ht : ∀ w ∈ pw_T, w.before args s = true := fun w h => hts w (List.mem_cons_of_mem _ h)
  exact ⟨hx, hb, hown, hbs, pm_look_all kD_Mo_distributeAllows, kf_ok (init := false) ht hZ kF_Mo_ok (fun h => by cases h), km_ok ht kM_Mo_ok, kci_ok ht kI_Mo_ok, kli_ok ht kJ_Mo_ok, kar_ok ht hZ kA_Mo_ok,
    pm_look_all (List.forall_mem_cons.mpr ⟨pm_cokV hbs hZ ⟨hx, hb, hml, hown, hts⟩ (kW_Mo_listAllows l D base sa) (fun mc ms => cwV 5 hts (pw_gV (pw_in 3037 (w := .methodLink "RoutingFieldModel" 758 ⟨"RoutingFieldModel", "listAllows", "(IIJJI)Z"⟩) (by decide +kernel) rfl) ki_Mo_listAllows ks_Mo_listAllows kn_Mo ko_Mo_listAllows) rfl rfl rfl (by decide +kernel) ⟨Nat.le_of_ble_eq_true rfl, Nat.le_of_ble_eq_true rfl⟩) (ci := 12) rfl, fun _ h => absurd h List.not_mem_nil⟩),
    hZ, kst_ok ht hZ (kS_Mo_ok sa), knar_ok ht, ktx_ok (kE_Mo_ok sa)⟩
set_option maxRecDepth 100000 in
theorem ki_Mo_offsetFor : Cond.instanceMethod ⟨"RoutingFieldModel", "offsetFor", "(IIIIJJI)I"⟩ ∈ pw_T := (pw_in 3047 (by decide +kernel) rfl)
set_option maxRecDepth 100000 in
theorem ks_Mo_offsetFor : Cond.selects "RoutingFieldModel" ⟨"RoutingFieldModel", "offsetFor", "(IIIIJJI)I"⟩ ⟨"RoutingFieldModel", "offsetFor", "(IIIIJJI)I"⟩ ∈ pw_T := (pw_sel 199 (q := (⟨"RoutingFieldModel", "offsetFor", "(IIIIJJI)I"⟩, 166)) (by decide +kernel))
set_option maxRecDepth 100000 in
theorem ko_Mo_offsetFor : Cond.code ⟨"RoutingFieldModel", "offsetFor", "(IIIIJJI)I"⟩ prog_14_method_71_code 12 (some .int) ∈ pw_T := (pw_in 3048 rfl rfl)
set_option maxRecDepth 100000 in
theorem kD_Mo_offsetFor : ∀ q ∈ kC_Mo_offsetFor, decode prog_14_method_71_code q.1 = .ok (q.2, pm_len q.1 q.2) := by decide +kernel
set_option maxRecDepth 100000 in
theorem kW_Mo_offsetFor (l : Launch) (D : va_G) (base : Nat) (sa : Nat → Nat) : pm_Met l D kcl base (kZ sa) ⟨"RoutingFieldModel", "offsetFor", "(IIIIJJI)I"⟩ (.code ⟨"RoutingFieldModel", "offsetFor", "(IIIIJJI)I"⟩ prog_14_method_71_code 12 (some .int) :: pw_T) 5 146 (kP_Mo_offsetFor base sa) := by
  refine pm_met (by decide) rfl rfl ?_
  intro mc ms p e s m args below meth c hx hb hml hown hnm hts hbs hZ
  have ht : ∀ w ∈ pw_T, w.before args s = true := fun w h => hts w (List.mem_cons_of_mem _ h)
  exact ⟨hx, hb, hown, hbs, pm_look_all kD_Mo_offsetFor, kf_ok (init := false) ht hZ kF_Mo_ok (fun h => by cases h), km_ok ht kM_Mo_ok, kci_ok ht kI_Mo_ok, kli_ok ht kJ_Mo_ok, kar_ok ht hZ kA_Mo_ok,
    pm_look_all (List.forall_mem_cons.mpr ⟨pm_cokV hbs hZ ⟨hx, hb, hml, hown, hts⟩ (kW_Mo_listAllows l D base sa) (fun mc ms => cwV 5 hts (pw_gV (pw_in 3037 (w := .methodLink "RoutingFieldModel" 758 ⟨"RoutingFieldModel", "listAllows", "(IIJJI)Z"⟩) (by decide +kernel) rfl) ki_Mo_listAllows ks_Mo_listAllows kn_Mo ko_Mo_listAllows) rfl rfl rfl (by decide +kernel) ⟨Nat.le_of_ble_eq_true rfl, Nat.le_of_ble_eq_true rfl⟩) (ci := 12) rfl, fun _ h => absurd h List.not_mem_nil⟩),
    hZ, kst_ok ht hZ (kS_Mo_ok sa), knar_ok ht, ktx_ok (kE_Mo_ok sa)⟩
set_option maxRecDepth 100000 in
theorem ki_Mo_remove : Cond.instanceMethod ⟨"RoutingFieldModel", "remove", "(II)V"⟩ ∈ pw_T := (pw_in 3107 (by decide +kernel) rfl)
set_option maxRecDepth 100000 in
theorem ks_Mo_remove : Cond.selects "RoutingFieldModel" ⟨"RoutingFieldModel", "remove", "(II)V"⟩ ⟨"RoutingFieldModel", "remove", "(II)V"⟩ ∈ pw_T := (pw_sel 214 (q := (⟨"RoutingFieldModel", "remove", "(II)V"⟩, 166)) (by decide +kernel))
set_option maxRecDepth 100000 in
theorem ko_Mo_remove : Cond.code ⟨"RoutingFieldModel", "remove", "(II)V"⟩ prog_14_method_76_code 4 none ∈ pw_T := (pw_in 3108 rfl rfl)
set_option maxRecDepth 100000 in
theorem kD_Mo_remove : ∀ q ∈ kC_Mo_remove, decode prog_14_method_76_code q.1 = .ok (q.2, pm_len q.1 q.2) := by decide +kernel
set_option maxRecDepth 100000 in
theorem kW_Mo_remove (l : Launch) (D : va_G) (base : Nat) (sa : Nat → Nat) : pm_Met l D kcl base (kZ sa) ⟨"RoutingFieldModel", "remove", "(II)V"⟩ (.code ⟨"RoutingFieldModel", "remove", "(II)V"⟩ prog_14_method_76_code 4 none :: pw_T) 1 22 (kP_Mo_remove base sa) := by
  refine pm_met (by decide) rfl rfl ?_
  intro mc ms p e s m args below meth c hx hb hml hown hnm hts hbs hZ
  have ht : ∀ w ∈ pw_T, w.before args s = true := fun w h => hts w (List.mem_cons_of_mem _ h)
  exact ⟨hx, hb, hown, hbs, pm_look_all kD_Mo_remove, kf_ok (init := false) ht hZ kF_Mo_ok (fun h => by cases h), km_ok ht kM_Mo_ok, kci_ok ht kI_Mo_ok, kli_ok ht kJ_Mo_ok, kar_ok ht hZ kA_Mo_ok,
    pm_look_all (List.forall_mem_cons.mpr ⟨pm_cokV hbs hZ ⟨hx, hb, hml, hown, hts⟩ (kW_Mo_copyRoute l D base sa) (fun mc ms => cwV 2 hts (pw_gV (pw_in 2703 (w := .methodLink "RoutingFieldModel" 764 ⟨"RoutingFieldModel", "copyRoute", "(II)V"⟩) (by decide +kernel) rfl) ki_Mo_copyRoute ks_Mo_copyRoute kn_Mo ko_Mo_copyRoute) rfl rfl rfl (by decide +kernel) ⟨Nat.le_of_ble_eq_true rfl, Nat.le_of_ble_eq_true rfl⟩) (ci := 12) rfl, fun _ h => absurd h List.not_mem_nil⟩),
    hZ, kst_ok ht hZ (kS_Mo_ok sa), knar_ok ht, ktx_ok (kE_Mo_ok sa)⟩
set_option maxRecDepth 100000 in
theorem ki_Mo_putAddress : Cond.instanceMethod ⟨"RoutingFieldModel", "putAddress", "([IIIJJ)V"⟩ ∈ pw_T := (pw_in 3099 (by decide +kernel) rfl)
set_option maxRecDepth 100000 in
theorem ks_Mo_putAddress : Cond.selects "RoutingFieldModel" ⟨"RoutingFieldModel", "putAddress", "([IIIJJ)V"⟩ ⟨"RoutingFieldModel", "putAddress", "([IIIJJ)V"⟩ ∈ pw_T := (pw_sel 212 (q := (⟨"RoutingFieldModel", "putAddress", "([IIIJJ)V"⟩, 166)) (by decide +kernel))
set_option maxRecDepth 100000 in
theorem ko_Mo_putAddress : Cond.code ⟨"RoutingFieldModel", "putAddress", "([IIIJJ)V"⟩ prog_14_method_98_code 9 none ∈ pw_T := (pw_in 3100 rfl rfl)
set_option maxRecDepth 100000 in
theorem kD_Mo_putAddress : ∀ q ∈ kC_Mo_putAddress, decode prog_14_method_98_code q.1 = .ok (q.2, pm_len q.1 q.2) := by decide +kernel
set_option maxRecDepth 100000 in
theorem kW_Mo_putAddress (l : Launch) (D : va_G) (base : Nat) (sa : Nat → Nat) : pm_Met l D kcl base (kZ sa) ⟨"RoutingFieldModel", "putAddress", "([IIIJJ)V"⟩ (.code ⟨"RoutingFieldModel", "putAddress", "([IIIJJ)V"⟩ prog_14_method_98_code 9 none :: pw_T) 0 0 (kP_Mo_putAddress base sa) := by
  refine pm_met (by decide) rfl rfl ?_
  intro mc ms p e s m args below meth c hx hb hml hown hnm hts hbs hZ
  have ht : ∀ w ∈ pw_T, w.before args s = true := fun w h => hts w (List.mem_cons_of_mem _ h)
  exact ⟨hx, hb, hown, hbs, pm_look_all kD_Mo_putAddress, kf_ok (init := false) ht hZ kF_Mo_ok (fun h => by cases h), km_ok ht kM_Mo_ok, kci_ok ht kI_Mo_ok, kli_ok ht kJ_Mo_ok, kar_ok ht hZ kA_Mo_ok,
    pm_look_all (fun _ h => absurd h List.not_mem_nil),
    hZ, kst_ok ht hZ (kS_Mo_ok sa), knar_ok ht, ktx_ok (kE_Mo_ok sa)⟩
set_option maxRecDepth 100000 in
theorem kv_Mo_highOf : Cond.static ⟨"RoutingFieldModel", "highOf", "([III)J"⟩ ∈ pw_T := (pw_in 3009 (by decide +kernel) rfl)
set_option maxRecDepth 100000 in
theorem ko_Mo_highOf : Cond.code ⟨"RoutingFieldModel", "highOf", "([III)J"⟩ prog_14_method_99_code 6 (some .long) ∈ pw_T := (pw_in 3010 rfl rfl)
set_option maxRecDepth 100000 in
theorem kD_Mo_highOf : ∀ q ∈ kC_Mo_highOf, decode prog_14_method_99_code q.1 = .ok (q.2, pm_len q.1 q.2) := by decide +kernel
set_option maxRecDepth 100000 in
theorem kW_Mo_highOf (l : Launch) (D : va_G) (base : Nat) (sa : Nat → Nat) : pm_Met l D kcl base (kZ sa) ⟨"RoutingFieldModel", "highOf", "([III)J"⟩ (.code ⟨"RoutingFieldModel", "highOf", "([III)J"⟩ prog_14_method_99_code 6 (some .long) :: pw_T) 0 0 (kP_Mo_highOf base sa) := by
  refine pm_met (by decide) rfl rfl ?_
  intro mc ms p e s m args below meth c hx hb hml hown hnm hts hbs hZ
  have ht : ∀ w ∈ pw_T, w.before args s = true := fun w h => hts w (List.mem_cons_of_mem _ h)
  exact ⟨hx, hb, hown, hbs, pm_look_all kD_Mo_highOf, kf_ok (init := false) ht hZ kF_Mo_ok (fun h => by cases h), km_ok ht kM_Mo_ok, kci_ok ht kI_Mo_ok, kli_ok ht kJ_Mo_ok, kar_ok ht hZ kA_Mo_ok,
    pm_look_all (fun _ h => absurd h List.not_mem_nil),
    hZ, kst_ok ht hZ (kS_Mo_ok sa), knar_ok ht, ktx_ok (kE_Mo_ok sa)⟩
set_option maxRecDepth 100000 in
theorem kv_Mo_lowOf : Cond.static ⟨"RoutingFieldModel", "lowOf", "([III)J"⟩ ∈ pw_T := (pw_in 3012 (by decide +kernel) rfl)
set_option maxRecDepth 100000 in
theorem ko_Mo_lowOf : Cond.code ⟨"RoutingFieldModel", "lowOf", "([III)J"⟩ prog_14_method_100_code 6 (some .long) ∈ pw_T := (pw_in 3013 rfl rfl)
set_option maxRecDepth 100000 in
theorem kD_Mo_lowOf : ∀ q ∈ kC_Mo_lowOf, decode prog_14_method_100_code q.1 = .ok (q.2, pm_len q.1 q.2) := by decide +kernel
set_option maxRecDepth 100000 in
theorem kW_Mo_lowOf (l : Launch) (D : va_G) (base : Nat) (sa : Nat → Nat) : pm_Met l D kcl base (kZ sa) ⟨"RoutingFieldModel", "lowOf", "([III)J"⟩ (.code ⟨"RoutingFieldModel", "lowOf", "([III)J"⟩ prog_14_method_100_code 6 (some .long) :: pw_T) 0 0 (kP_Mo_lowOf base sa) := by
  refine pm_met (by decide) rfl rfl ?_
  intro mc ms p e s m args below meth c hx hb hml hown hnm hts hbs hZ
  have ht : ∀ w ∈ pw_T, w.before args s = true := fun w h => hts w (List.mem_cons_of_mem _ h)
  exact ⟨hx, hb, hown, hbs, pm_look_all kD_Mo_lowOf, kf_ok (init := false) ht hZ kF_Mo_ok (fun h => by cases h), km_ok ht kM_Mo_ok, kci_ok ht kI_Mo_ok, kli_ok ht kJ_Mo_ok, kar_ok ht hZ kA_Mo_ok,
    pm_look_all (fun _ h => absurd h List.not_mem_nil),
    hZ, kst_ok ht hZ (kS_Mo_ok sa), knar_ok ht, ktx_ok (kE_Mo_ok sa)⟩
set_option maxRecDepth 100000 in
theorem kv_Mo_number4 : Cond.static ⟨"RoutingFieldModel", "number4", "([II)J"⟩ ∈ pw_T := (pw_in 2994 (by decide +kernel) rfl)
set_option maxRecDepth 100000 in
theorem ko_Mo_number4 : Cond.code ⟨"RoutingFieldModel", "number4", "([II)J"⟩ prog_14_method_101_code 2 (some .long) ∈ pw_T := (pw_in 2995 rfl rfl)
set_option maxRecDepth 100000 in
theorem kD_Mo_number4 : ∀ q ∈ kC_Mo_number4, decode prog_14_method_101_code q.1 = .ok (q.2, pm_len q.1 q.2) := by decide +kernel
set_option maxRecDepth 100000 in
theorem kW_Mo_number4 (l : Launch) (D : va_G) (base : Nat) (sa : Nat → Nat) : pm_Met l D kcl base (kZ sa) ⟨"RoutingFieldModel", "number4", "([II)J"⟩ (.code ⟨"RoutingFieldModel", "number4", "([II)J"⟩ prog_14_method_101_code 2 (some .long) :: pw_T) 0 0 (kP_Mo_number4 base sa) := by
  refine pm_met (by decide) rfl rfl ?_
  intro mc ms p e s m args below meth c hx hb hml hown hnm hts hbs hZ
  have ht : ∀ w ∈ pw_T, w.before args s = true := fun w h => hts w (List.mem_cons_of_mem _ h)
  exact ⟨hx, hb, hown, hbs, pm_look_all kD_Mo_number4, kf_ok (init := false) ht hZ kF_Mo_ok (fun h => by cases h), km_ok ht kM_Mo_ok, kci_ok ht kI_Mo_ok, kli_ok ht kJ_Mo_ok, kar_ok ht hZ kA_Mo_ok,
    pm_look_all (fun _ h => absurd h List.not_mem_nil),
    hZ, kst_ok ht hZ (kS_Mo_ok sa), knar_ok ht, ktx_ok (kE_Mo_ok sa)⟩
set_option maxRecDepth 100000 in
theorem ki_Mo_requests : Cond.instanceMethod ⟨"RoutingFieldModel", "requests", "(I)V"⟩ ∈ pw_T := (pw_in 3127 (by decide +kernel) rfl)
set_option maxRecDepth 100000 in
theorem ks_Mo_requests : Cond.selects "RoutingFieldModel" ⟨"RoutingFieldModel", "requests", "(I)V"⟩ ⟨"RoutingFieldModel", "requests", "(I)V"⟩ ∈ pw_T := (pw_sel 218 (q := (⟨"RoutingFieldModel", "requests", "(I)V"⟩, 166)) (by decide +kernel))
set_option maxRecDepth 100000 in
theorem ko_Mo_requests : Cond.code ⟨"RoutingFieldModel", "requests", "(I)V"⟩ prog_14_method_106_code 3 none ∈ pw_T := (pw_in 3128 rfl rfl)
set_option maxRecDepth 100000 in
theorem kD_Mo_requests : ∀ q ∈ kC_Mo_requests, decode prog_14_method_106_code q.1 = .ok (q.2, pm_len q.1 q.2) := by decide +kernel
set_option maxRecDepth 100000 in
theorem kW_Mo_requests (l : Launch) (D : va_G) (base : Nat) (sa : Nat → Nat) : pm_Met l D kcl base (kZ sa) ⟨"RoutingFieldModel", "requests", "(I)V"⟩ (.code ⟨"RoutingFieldModel", "requests", "(I)V"⟩ prog_14_method_106_code 3 none :: pw_T) 7 184 (kP_Mo_requests base sa) := by
  refine pm_met (by decide) rfl rfl ?_
  intro mc ms p e s m args below meth c hx hb hml hown hnm hts hbs hZ
  have ht : ∀ w ∈ pw_T, w.before args s = true := fun w h => hts w (List.mem_cons_of_mem _ h)
  exact ⟨hx, hb, hown, hbs, pm_look_all kD_Mo_requests, kf_ok (init := false) ht hZ kF_Mo_ok (fun h => by cases h), km_ok ht kM_Mo_ok, kci_ok ht kI_Mo_ok, kli_ok ht kJ_Mo_ok, kar_ok ht hZ kA_Mo_ok,
    pm_look_all (List.forall_mem_cons.mpr ⟨pm_cokV hbs hZ ⟨hx, hb, hml, hown, hts⟩ (kW_Mo_request l D base sa) (fun mc ms => cwV 2 hts (pw_gV (pw_in 2707 (w := .methodLink "RoutingFieldModel" 700 ⟨"RoutingFieldModel", "request", "(II)V"⟩) (by decide +kernel) rfl) ki_Mo_request ks_Mo_request kn_Mo ko_Mo_request) rfl rfl rfl (by decide +kernel) ⟨Nat.le_of_ble_eq_true rfl, Nat.le_of_ble_eq_true rfl⟩) (ci := 12) rfl, fun _ h => absurd h List.not_mem_nil⟩),
    hZ, kst_ok ht hZ (kS_Mo_ok sa), knar_ok ht, ktx_ok (kE_Mo_ok sa)⟩
