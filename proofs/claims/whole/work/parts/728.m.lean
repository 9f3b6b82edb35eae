set_option maxRecDepth 100000 in
theorem ki_Mo_toldMetric : Cond.instanceMethod ⟨"RoutingFieldModel", "toldMetric", "(III)I"⟩ ∈ pw_T := (pw_in 3071 (by decide +kernel) rfl)
set_option maxRecDepth 100000 in
theorem ks_Mo_toldMetric : Cond.selects "RoutingFieldModel" ⟨"RoutingFieldModel", "toldMetric", "(III)I"⟩ ⟨"RoutingFieldModel", "toldMetric", "(III)I"⟩ ∈ pw_T := (pw_sel 205 (q := (⟨"RoutingFieldModel", "toldMetric", "(III)I"⟩, 166)) (by decide +kernel))
set_option maxRecDepth 100000 in
theorem ko_Mo_toldMetric : Cond.code ⟨"RoutingFieldModel", "toldMetric", "(III)I"⟩ prog_14_method_107_code 11 (some .int) ∈ pw_T := (pw_in 3072 rfl rfl)
set_option maxRecDepth 100000 in
theorem kD_Mo_toldMetric_0 : ∀ q ∈ kC_Mo_toldMetric_0, decode prog_14_method_107_code q.1 = .ok (q.2, pm_len q.1 q.2) := by decide +kernel
set_option maxRecDepth 100000 in
theorem kD_Mo_toldMetric_1 : ∀ q ∈ kC_Mo_toldMetric_1, decode prog_14_method_107_code q.1 = .ok (q.2, pm_len q.1 q.2) := by decide +kernel
set_option maxRecDepth 100000 in
theorem kD_Mo_toldMetric_2 : ∀ q ∈ kC_Mo_toldMetric_2, decode prog_14_method_107_code q.1 = .ok (q.2, pm_len q.1 q.2) := by decide +kernel
set_option maxRecDepth 100000 in
theorem kD_Mo_toldMetric_3 : ∀ q ∈ kC_Mo_toldMetric_3, decode prog_14_method_107_code q.1 = .ok (q.2, pm_len q.1 q.2) := by decide +kernel
theorem kD_Mo_toldMetric : ∀ q ∈ kC_Mo_toldMetric, decode prog_14_method_107_code q.1 = .ok (q.2, pm_len q.1 q.2) := List.forall_mem_append.mpr ⟨kD_Mo_toldMetric_0, List.forall_mem_append.mpr ⟨kD_Mo_toldMetric_1, List.forall_mem_append.mpr ⟨kD_Mo_toldMetric_2, kD_Mo_toldMetric_3⟩⟩⟩
set_option maxRecDepth 100000 in
theorem kW_Mo_toldMetric (l : Launch) (D : va_G) (base : Nat) (sa : Nat → Nat) : pm_Met l D kcl base (kZ sa) ⟨"RoutingFieldModel", "toldMetric", "(III)I"⟩ (.code ⟨"RoutingFieldModel", "toldMetric", "(III)I"⟩ prog_14_method_107_code 11 (some .int) :: pw_T) 6 177 (kP_Mo_toldMetric base sa) := by
  refine pm_met (by decide) rfl rfl ?_
  intro mc ms p e s m args below meth c hx hb hml hown hnm hts hbs hZ
  have ht : ∀ w ∈ pw_T, w.before args s = true := fun w h => hts w (List.mem_cons_of_mem _ h)
  exact ⟨hx, hb, hown, hbs, pm_look_all kD_Mo_toldMetric, kf_ok (init := false) ht hZ kF_Mo_ok (fun h => by cases h), km_ok ht kM_Mo_ok, kci_ok ht kI_Mo_ok, kli_ok ht kJ_Mo_ok, kar_ok ht hZ kA_Mo_ok,
    pm_look_all (List.forall_mem_cons.mpr ⟨pm_cokV hbs hZ ⟨hx, hb, hml, hown, hts⟩ (kW_Mo_filterAllows l D base sa) (fun mc ms => cwV 6 hts (pw_gV (pw_in 3026 (w := .methodLink "RoutingFieldModel" 953 ⟨"RoutingFieldModel", "filterAllows", "(IIIJJI)Z"⟩) (by decide +kernel) rfl) ki_Mo_filterAllows ks_Mo_filterAllows kn_Mo ko_Mo_filterAllows) rfl rfl rfl (by decide +kernel) ⟨Nat.le_of_ble_eq_true rfl, Nat.le_of_ble_eq_true rfl⟩) (ci := 12) rfl, List.forall_mem_cons.mpr ⟨pm_cokV hbs hZ ⟨hx, hb, hml, hown, hts⟩ (kW_Mo_distributeAllows l D base sa) (fun mc ms => cwV 7 hts (pw_gV (pw_in 3033 (w := .methodLink "RoutingFieldModel" 957 ⟨"RoutingFieldModel", "distributeAllows", "(IIIIJJI)Z"⟩) (by decide +kernel) rfl) ki_Mo_distributeAllows ks_Mo_distributeAllows kn_Mo ko_Mo_distributeAllows) rfl rfl rfl (by decide +kernel) ⟨Nat.le_of_ble_eq_true rfl, Nat.le_of_ble_eq_true rfl⟩) (ci := 12) rfl, List.forall_mem_cons.mpr ⟨pm_cokV hbs hZ ⟨hx, hb, hml, hown, hts⟩ (kW_Mo_offsetFor l D base sa) (fun mc ms => cwV 7 hts (pw_gV (pw_in 3045 (w := .methodLink "RoutingFieldModel" 961 ⟨"RoutingFieldModel", "offsetFor", "(IIIIJJI)I"⟩) (by decide +kernel) rfl) ki_Mo_offsetFor ks_Mo_offsetFor kn_Mo ko_Mo_offsetFor) rfl rfl rfl (by decide +kernel) ⟨Nat.le_of_ble_eq_true rfl, Nat.le_of_ble_eq_true rfl⟩) (ci := 12) rfl, fun _ h => absurd h List.not_mem_nil⟩⟩⟩),
    hZ, kst_ok ht hZ (kS_Mo_ok sa), knar_ok ht, ktx_ok (kE_Mo_ok sa)⟩
set_option maxRecDepth 100000 in
theorem ki_Mo_enter : Cond.instanceMethod ⟨"RoutingFieldModel", "enter", "(JJIII)V"⟩ ∈ pw_T := (pw_in 3075 (by decide +kernel) rfl)
set_option maxRecDepth 100000 in
theorem ks_Mo_enter : Cond.selects "RoutingFieldModel" ⟨"RoutingFieldModel", "enter", "(JJIII)V"⟩ ⟨"RoutingFieldModel", "enter", "(JJIII)V"⟩ ∈ pw_T := (pw_sel 206 (q := (⟨"RoutingFieldModel", "enter", "(JJIII)V"⟩, 166)) (by decide +kernel))
set_option maxRecDepth 100000 in
theorem ko_Mo_enter : Cond.code ⟨"RoutingFieldModel", "enter", "(JJIII)V"⟩ prog_14_method_108_code 9 none ∈ pw_T := (pw_in 3076 rfl rfl)
set_option maxRecDepth 100000 in
theorem kD_Mo_enter_0 : ∀ q ∈ kC_Mo_enter_0, decode prog_14_method_108_code q.1 = .ok (q.2, pm_len q.1 q.2) := by decide +kernel
set_option maxRecDepth 100000 in
theorem kD_Mo_enter_1 : ∀ q ∈ kC_Mo_enter_1, decode prog_14_method_108_code q.1 = .ok (q.2, pm_len q.1 q.2) := by decide +kernel
set_option maxRecDepth 100000 in
theorem kD_Mo_enter_2 : ∀ q ∈ kC_Mo_enter_2, decode prog_14_method_108_code q.1 = .ok (q.2, pm_len q.1 q.2) := by decide +kernel
theorem kD_Mo_enter : ∀ q ∈ kC_Mo_enter, decode prog_14_method_108_code q.1 = .ok (q.2, pm_len q.1 q.2) := List.forall_mem_append.mpr ⟨kD_Mo_enter_0, List.forall_mem_append.mpr ⟨kD_Mo_enter_1, kD_Mo_enter_2⟩⟩
set_option maxRecDepth 100000 in
theorem kW_Mo_enter (l : Launch) (D : va_G) (base : Nat) (sa : Nat → Nat) : pm_Met l D kcl base (kZ sa) ⟨"RoutingFieldModel", "enter", "(JJIII)V"⟩ (.code ⟨"RoutingFieldModel", "enter", "(JJIII)V"⟩ prog_14_method_108_code 9 none :: pw_T) 2 60 (kP_Mo_enter base sa) := by
  refine pm_met (by decide) rfl rfl ?_
  intro mc ms p e s m args below meth c hx hb hml hown hnm hts hbs hZ
  have ht : ∀ w ∈ pw_T, w.before args s = true := fun w h => hts w (List.mem_cons_of_mem _ h)
  exact ⟨hx, hb, hown, hbs, pm_look_all kD_Mo_enter, kf_ok (init := false) ht hZ kF_Mo_ok (fun h => by cases h), km_ok ht kM_Mo_ok, kci_ok ht kI_Mo_ok, kli_ok ht kJ_Mo_ok, kar_ok ht hZ kA_Mo_ok,
    pm_look_all (List.forall_mem_cons.mpr ⟨pm_cokS hbs hZ ⟨hx, hb, hml, hown, hts⟩ (kW_Mo_isAhead l D base sa) (fun mc ms => va_cwS 6 hts (pw_gS (pw_in 2696 (w := .methodLink "RoutingFieldModel" 767 ⟨"RoutingFieldModel", "isAhead", "(JJIJJI)Z"⟩) (by decide +kernel) rfl) kv_Mo_isAhead kn_Mo ko_Mo_isAhead) rfl rfl rfl (by decide +kernel) ⟨Nat.le_of_ble_eq_true rfl, Nat.le_of_ble_eq_true rfl⟩) (Nat.le_of_ble_eq_true rfl), fun _ h => absurd h List.not_mem_nil⟩),
    hZ, kst_ok ht hZ (kS_Mo_ok sa), knar_ok ht, ktx_ok (kE_Mo_ok sa)⟩
set_option maxRecDepth 100000 in
theorem ki_Mo_summaryFor : Cond.instanceMethod ⟨"RoutingFieldModel", "summaryFor", "(II)I"⟩ ∈ pw_T := (pw_in 3079 (by decide +kernel) rfl)
set_option maxRecDepth 100000 in
theorem ks_Mo_summaryFor : Cond.selects "RoutingFieldModel" ⟨"RoutingFieldModel", "summaryFor", "(II)I"⟩ ⟨"RoutingFieldModel", "summaryFor", "(II)I"⟩ ∈ pw_T := (pw_sel 207 (q := (⟨"RoutingFieldModel", "summaryFor", "(II)I"⟩, 166)) (by decide +kernel))
set_option maxRecDepth 100000 in
theorem ko_Mo_summaryFor : Cond.code ⟨"RoutingFieldModel", "summaryFor", "(II)I"⟩ prog_14_method_109_code 5 (some .int) ∈ pw_T := (pw_in 3080 rfl rfl)
set_option maxRecDepth 100000 in
theorem kD_Mo_summaryFor : ∀ q ∈ kC_Mo_summaryFor, decode prog_14_method_109_code q.1 = .ok (q.2, pm_len q.1 q.2) := by decide +kernel
set_option maxRecDepth 100000 in
theorem kW_Mo_summaryFor (l : Launch) (D : va_G) (base : Nat) (sa : Nat → Nat) : pm_Met l D kcl base (kZ sa) ⟨"RoutingFieldModel", "summaryFor", "(II)I"⟩ (.code ⟨"RoutingFieldModel", "summaryFor", "(II)I"⟩ prog_14_method_109_code 5 (some .int) :: pw_T) 3 89 (kP_Mo_summaryFor base sa) := by
  refine pm_met (by decide) rfl rfl ?_
  intro mc ms p e s m args below meth c hx hb hml hown hnm hts hbs hZ
  have ht : ∀ w ∈ pw_T, w.before args s = true := fun w h => hts w (List.mem_cons_of_mem _ h)
  exact ⟨hx, hb, hown, hbs, pm_look_all kD_Mo_summaryFor, kf_ok (init := false) ht hZ kF_Mo_ok (fun h => by cases h), km_ok ht kM_Mo_ok, kci_ok ht kI_Mo_ok, kli_ok ht kJ_Mo_ok, kar_ok ht hZ kA_Mo_ok,
    pm_look_all (List.forall_mem_cons.mpr ⟨pm_cokS hbs hZ ⟨hx, hb, hml, hown, hts⟩ (kW_Mo_coversPrefix l D base sa) (fun mc ms => va_cwS 6 hts (pw_gS (pw_in 3030 (w := .methodLink "RoutingFieldModel" 750 ⟨"RoutingFieldModel", "coversPrefix", "(JJIJJI)Z"⟩) (by decide +kernel) rfl) kv_Mo_coversPrefix kn_Mo ko_Mo_coversPrefix) rfl rfl rfl (by decide +kernel) ⟨Nat.le_of_ble_eq_true rfl, Nat.le_of_ble_eq_true rfl⟩) (Nat.le_of_ble_eq_true rfl), fun _ h => absurd h List.not_mem_nil⟩),
    hZ, kst_ok ht hZ (kS_Mo_ok sa), knar_ok ht, ktx_ok (kE_Mo_ok sa)⟩
set_option maxRecDepth 100000 in
theorem ki_Mo_besideDefault : Cond.instanceMethod ⟨"RoutingFieldModel", "besideDefault", "(II)Z"⟩ ∈ pw_T := (pw_in 3083 (by decide +kernel) rfl)
set_option maxRecDepth 100000 in
theorem ks_Mo_besideDefault : Cond.selects "RoutingFieldModel" ⟨"RoutingFieldModel", "besideDefault", "(II)Z"⟩ ⟨"RoutingFieldModel", "besideDefault", "(II)Z"⟩ ∈ pw_T := (pw_sel 208 (q := (⟨"RoutingFieldModel", "besideDefault", "(II)Z"⟩, 166)) (by decide +kernel))
set_option maxRecDepth 100000 in
theorem ko_Mo_besideDefault : Cond.code ⟨"RoutingFieldModel", "besideDefault", "(II)Z"⟩ prog_14_method_110_code 3 (some .boolean) ∈ pw_T := (pw_in 3084 rfl rfl)
set_option maxRecDepth 100000 in
theorem kD_Mo_besideDefault : ∀ q ∈ kC_Mo_besideDefault, decode prog_14_method_110_code q.1 = .ok (q.2, pm_len q.1 q.2) := by decide +kernel
set_option maxRecDepth 100000 in
theorem kW_Mo_besideDefault (l : Launch) (D : va_G) (base : Nat) (sa : Nat → Nat) : pm_Met l D kcl base (kZ sa) ⟨"RoutingFieldModel", "besideDefault", "(II)Z"⟩ (.code ⟨"RoutingFieldModel", "besideDefault", "(II)Z"⟩ prog_14_method_110_code 3 (some .boolean) :: pw_T) 0 0 (kP_Mo_besideDefault base sa) := by
  refine pm_met (by decide) rfl rfl ?_
  intro mc ms p e s m args below meth c hx hb hml hown hnm hts hbs hZ
  have ht : ∀ w ∈ pw_T, w.before args s = true := fun w h => hts w (List.mem_cons_of_mem _ h)
  exact ⟨hx, hb, hown, hbs, pm_look_all kD_Mo_besideDefault, kf_ok (init := false) ht hZ kF_Mo_ok (fun h => by cases h), km_ok ht kM_Mo_ok, kci_ok ht kI_Mo_ok, kli_ok ht kJ_Mo_ok, kar_ok ht hZ kA_Mo_ok,
    pm_look_all (fun _ h => absurd h List.not_mem_nil),
    hZ, kst_ok ht hZ (kS_Mo_ok sa), knar_ok ht, ktx_ok (kE_Mo_ok sa)⟩
set_option maxRecDepth 100000 in
theorem ki_Mo_gather : Cond.instanceMethod ⟨"RoutingFieldModel", "gather", "(III)V"⟩ ∈ pw_T := (pw_in 3067 (by decide +kernel) rfl)
set_option maxRecDepth 100000 in
theorem ks_Mo_gather : Cond.selects "RoutingFieldModel" ⟨"RoutingFieldModel", "gather", "(III)V"⟩ ⟨"RoutingFieldModel", "gather", "(III)V"⟩ ∈ pw_T := (pw_sel 204 (q := (⟨"RoutingFieldModel", "gather", "(III)V"⟩, 166)) (by decide +kernel))
set_option maxRecDepth 100000 in
theorem ko_Mo_gather : Cond.code ⟨"RoutingFieldModel", "gather", "(III)V"⟩ prog_14_method_111_code 9 none ∈ pw_T := (pw_in 3068 rfl rfl)
set_option maxRecDepth 100000 in
theorem kD_Mo_gather_0 : ∀ q ∈ kC_Mo_gather_0, decode prog_14_method_111_code q.1 = .ok (q.2, pm_len q.1 q.2) := by decide +kernel
set_option maxRecDepth 100000 in
theorem kD_Mo_gather_1 : ∀ q ∈ kC_Mo_gather_1, decode prog_14_method_111_code q.1 = .ok (q.2, pm_len q.1 q.2) := by decide +kernel
set_option maxRecDepth 100000 in
theorem kD_Mo_gather_2 : ∀ q ∈ kC_Mo_gather_2, decode prog_14_method_111_code q.1 = .ok (q.2, pm_len q.1 q.2) := by decide +kernel
set_option maxRecDepth 100000 in
theorem kD_Mo_gather_3 : ∀ q ∈ kC_Mo_gather_3, decode prog_14_method_111_code q.1 = .ok (q.2, pm_len q.1 q.2) := by decide +kernel
set_option maxRecDepth 100000 in
theorem kD_Mo_gather_4 : ∀ q ∈ kC_Mo_gather_4, decode prog_14_method_111_code q.1 = .ok (q.2, pm_len q.1 q.2) := by decide +kernel
theorem kD_Mo_gather : ∀ q ∈ kC_Mo_gather, decode prog_14_method_111_code q.1 = .ok (q.2, pm_len q.1 q.2) := List.forall_mem_append.mpr ⟨kD_Mo_gather_0, List.forall_mem_append.mpr ⟨kD_Mo_gather_1, List.forall_mem_append.mpr ⟨kD_Mo_gather_2, List.forall_mem_append.mpr ⟨kD_Mo_gather_3, kD_Mo_gather_4⟩⟩⟩⟩
set_option maxRecDepth 100000 in
theorem kW_Mo_gather (l : Launch) (D : va_G) (base : Nat) (sa : Nat → Nat) : pm_Met l D kcl base (kZ sa) ⟨"RoutingFieldModel", "gather", "(III)V"⟩ (.code ⟨"RoutingFieldModel", "gather", "(III)V"⟩ prog_14_method_111_code 9 none :: pw_T) 7 207 (kP_Mo_gather base sa) := by
  refine pm_met (by decide) rfl rfl ?_
  intro mc ms p e s m args below meth c hx hb hml hown hnm hts hbs hZ
  have ht : ∀ w ∈ pw_T, w.before args s = true := fun w h => hts w (List.mem_cons_of_mem _ h)
  exact ⟨hx, hb, hown, hbs, pm_look_all kD_Mo_gather, kf_ok (init := false) ht hZ kF_Mo_ok (fun h => by cases h), km_ok ht kM_Mo_ok, kci_ok ht kI_Mo_ok, kli_ok ht kJ_Mo_ok, kar_ok ht hZ kA_Mo_ok,
    pm_look_all (List.forall_mem_cons.mpr ⟨pm_cokV hbs hZ ⟨hx, hb, hml, hown, hts⟩ (kW_Mo_toldMetric l D base sa) (fun mc ms => cwV 3 hts (pw_gV (pw_in 3069 (w := .methodLink "RoutingFieldModel" 968 ⟨"RoutingFieldModel", "toldMetric", "(III)I"⟩) (by decide +kernel) rfl) ki_Mo_toldMetric ks_Mo_toldMetric kn_Mo ko_Mo_toldMetric) rfl rfl rfl (by decide +kernel) ⟨Nat.le_of_ble_eq_true rfl, Nat.le_of_ble_eq_true rfl⟩) (ci := 12) rfl, List.forall_mem_cons.mpr ⟨pm_cokV hbs hZ ⟨hx, hb, hml, hown, hts⟩ (kW_Mo_enter l D base sa) (fun mc ms => cwV 5 hts (pw_gV (pw_in 3073 (w := .methodLink "RoutingFieldModel" 971 ⟨"RoutingFieldModel", "enter", "(JJIII)V"⟩) (by decide +kernel) rfl) ki_Mo_enter ks_Mo_enter kn_Mo ko_Mo_enter) rfl rfl rfl (by decide +kernel) ⟨Nat.le_of_ble_eq_true rfl, Nat.le_of_ble_eq_true rfl⟩) (ci := 12) rfl, List.forall_mem_cons.mpr ⟨pm_cokV hbs hZ ⟨hx, hb, hml, hown, hts⟩ (kW_Mo_summaryFor l D base sa) (fun mc ms => cwV 2 hts (pw_gV (pw_in 3077 (w := .methodLink "RoutingFieldModel" 975 ⟨"RoutingFieldModel", "summaryFor", "(II)I"⟩) (by decide +kernel) rfl) ki_Mo_summaryFor ks_Mo_summaryFor kn_Mo ko_Mo_summaryFor) rfl rfl rfl (by decide +kernel) ⟨Nat.le_of_ble_eq_true rfl, Nat.le_of_ble_eq_true rfl⟩) (ci := 12) rfl, List.forall_mem_cons.mpr ⟨pm_cokV hbs hZ ⟨hx, hb, hml, hown, hts⟩ (kW_Mo_besideDefault l D base sa) (fun mc ms => cwV 2 hts (pw_gV (pw_in 3081 (w := .methodLink "RoutingFieldModel" 978 ⟨"RoutingFieldModel", "besideDefault", "(II)Z"⟩) (by decide +kernel) rfl) ki_Mo_besideDefault ks_Mo_besideDefault kn_Mo ko_Mo_besideDefault) rfl rfl rfl (by decide +kernel) ⟨Nat.le_of_ble_eq_true rfl, Nat.le_of_ble_eq_true rfl⟩) (ci := 12) rfl, fun _ h => absurd h List.not_mem_nil⟩⟩⟩⟩),
    hZ, kst_ok ht hZ (kS_Mo_ok sa), knar_ok ht, ktx_ok (kE_Mo_ok sa)⟩
set_option maxRecDepth 100000 in
theorem ki_Mo_mostEntries : Cond.instanceMethod ⟨"RoutingFieldModel", "mostEntries", "(II)I"⟩ ∈ pw_T := (pw_in 3091 (by decide +kernel) rfl)
set_option maxRecDepth 100000 in
theorem ks_Mo_mostEntries : Cond.selects "RoutingFieldModel" ⟨"RoutingFieldModel", "mostEntries", "(II)I"⟩ ⟨"RoutingFieldModel", "mostEntries", "(II)I"⟩ ∈ pw_T := (pw_sel 210 (q := (⟨"RoutingFieldModel", "mostEntries", "(II)I"⟩, 166)) (by decide +kernel))
set_option maxRecDepth 100000 in
theorem ko_Mo_mostEntries : Cond.code ⟨"RoutingFieldModel", "mostEntries", "(II)I"⟩ prog_14_method_112_code 9 (some .int) ∈ pw_T := (pw_in 3092 rfl rfl)
set_option maxRecDepth 100000 in
theorem kD_Mo_mostEntries_0 : ∀ q ∈ kC_Mo_mostEntries_0, decode prog_14_method_112_code q.1 = .ok (q.2, pm_len q.1 q.2) := by decide +kernel
set_option maxRecDepth 100000 in
theorem kD_Mo_mostEntries_1 : ∀ q ∈ kC_Mo_mostEntries_1, decode prog_14_method_112_code q.1 = .ok (q.2, pm_len q.1 q.2) := by decide +kernel
theorem kD_Mo_mostEntries : ∀ q ∈ kC_Mo_mostEntries, decode prog_14_method_112_code q.1 = .ok (q.2, pm_len q.1 q.2) := List.forall_mem_append.mpr ⟨kD_Mo_mostEntries_0, kD_Mo_mostEntries_1⟩
set_option maxRecDepth 100000 in
theorem kW_Mo_mostEntries (l : Launch) (D : va_G) (base : Nat) (sa : Nat → Nat) : pm_Met l D kcl base (kZ sa) ⟨"RoutingFieldModel", "mostEntries", "(II)I"⟩ (.code ⟨"RoutingFieldModel", "mostEntries", "(II)I"⟩ prog_14_method_112_code 9 (some .int) :: pw_T) 2 45 (kP_Mo_mostEntries base sa) := by
  refine pm_met (by decide) rfl rfl ?_
  intro mc ms p e s m args below meth c hx hb hml hown hnm hts hbs hZ
  have ht : ∀ w ∈ pw_T, w.before args s = true := fun w h => hts w (List.mem_cons_of_mem _ h)
  exact ⟨hx, hb, hown, hbs, pm_look_all kD_Mo_mostEntries, kf_ok (init := false) ht hZ kF_Mo_ok (fun h => by cases h), km_ok ht kM_Mo_ok, kci_ok ht kI_Mo_ok, kli_ok ht kJ_Mo_ok, kar_ok ht hZ kA_Mo_ok,
    pm_look_all (List.forall_mem_cons.mpr ⟨pm_cokV hbs hZ ⟨hx, hb, hml, hown, hts⟩ (kW_Mo_bornKey l D base sa) (fun mc ms => cwV 1 hts (pw_gV (pw_in 2719 (w := .methodLink "RoutingFieldModel" 924 ⟨"RoutingFieldModel", "bornKey", "(I)I"⟩) (by decide +kernel) rfl) ki_Mo_bornKey ks_Mo_bornKey kn_Mo ko_Mo_bornKey) rfl rfl rfl (by decide +kernel) ⟨Nat.le_of_ble_eq_true rfl, Nat.le_of_ble_eq_true rfl⟩) (ci := 12) rfl, fun _ h => absurd h List.not_mem_nil⟩),
    hZ, kst_ok ht hZ (kS_Mo_ok sa), knar_ok ht, ktx_ok (kE_Mo_ok sa)⟩
