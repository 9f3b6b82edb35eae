set_option maxRecDepth 100000 in
theorem ki_Mo_learn : Cond.instanceMethod ⟨"RoutingFieldModel", "learn", "(IIIIIJJ)V"⟩ ∈ pw_T := (pw_in 3051 (by decide +kernel) rfl)
set_option maxRecDepth 100000 in
theorem ks_Mo_learn : Cond.selects "RoutingFieldModel" ⟨"RoutingFieldModel", "learn", "(IIIIIJJ)V"⟩ ⟨"RoutingFieldModel", "learn", "(IIIIIJJ)V"⟩ ∈ pw_T := (pw_sel 200 (q := (⟨"RoutingFieldModel", "learn", "(IIIIIJJ)V"⟩, 166)) (by decide +kernel))
set_option maxRecDepth 100000 in
theorem ko_Mo_learn : Cond.code ⟨"RoutingFieldModel", "learn", "(IIIIIJJ)V"⟩ prog_14_method_130_code 16 none ∈ pw_T := (pw_in 3052 rfl rfl)
set_option maxRecDepth 100000 in
theorem kD_Mo_learn_0 : ∀ q ∈ kC_Mo_learn_0, decode prog_14_method_130_code q.1 = .ok (q.2, pm_len q.1 q.2) := by decide +kernel
set_option maxRecDepth 100000 in
theorem kD_Mo_learn_1 : ∀ q ∈ kC_Mo_learn_1, decode prog_14_method_130_code q.1 = .ok (q.2, pm_len q.1 q.2) := by decide +kernel
set_option maxRecDepth 100000 in
theorem kD_Mo_learn_2 : ∀ q ∈ kC_Mo_learn_2, decode prog_14_method_130_code q.1 = .ok (q.2, pm_len q.1 q.2) := by decide +kernel
set_option maxRecDepth 100000 in
theorem kD_Mo_learn_3 : ∀ q ∈ kC_Mo_learn_3, decode prog_14_method_130_code q.1 = .ok (q.2, pm_len q.1 q.2) := by decide +kernel
set_option maxRecDepth 100000 in
theorem kD_Mo_learn_4 : ∀ q ∈ kC_Mo_learn_4, decode prog_14_method_130_code q.1 = .ok (q.2, pm_len q.1 q.2) := by decide +kernel
set_option maxRecDepth 100000 in
theorem kD_Mo_learn_5 : ∀ q ∈ kC_Mo_learn_5, decode prog_14_method_130_code q.1 = .ok (q.2, pm_len q.1 q.2) := by decide +kernel
theorem kD_Mo_learn : ∀ q ∈ kC_Mo_learn, decode prog_14_method_130_code q.1 = .ok (q.2, pm_len q.1 q.2) := List.forall_mem_append.mpr ⟨kD_Mo_learn_0, List.forall_mem_append.mpr ⟨kD_Mo_learn_1, List.forall_mem_append.mpr ⟨kD_Mo_learn_2, List.forall_mem_append.mpr ⟨kD_Mo_learn_3, List.forall_mem_append.mpr ⟨kD_Mo_learn_4, kD_Mo_learn_5⟩⟩⟩⟩⟩
set_option maxRecDepth 100000 in
theorem kW_Mo_learn (l : Launch) (D : va_G) (base : Nat) (sa : Nat → Nat) : pm_Met l D kcl base (kZ sa) ⟨"RoutingFieldModel", "learn", "(IIIIIJJ)V"⟩ (.code ⟨"RoutingFieldModel", "learn", "(IIIIIJJ)V"⟩ prog_14_method_130_code 16 none :: pw_T) 4 107 (kP_Mo_learn base sa) := by
  refine pm_met (by decide) rfl rfl ?_
  intro mc ms p e s m args below meth c hx hb hml hown hnm hts hbs hZ
  have ht : ∀ w ∈ pw_T, w.before args s = true := fun w h => hts w (List.mem_cons_of_mem _ h)
  exact ⟨hx, hb, hown, hbs, pm_look_all kD_Mo_learn, kf_ok (init := false) ht hZ kF_Mo_ok (fun h => by cases h), km_ok ht kM_Mo_ok, kci_ok ht kI_Mo_ok, kli_ok ht kJ_Mo_ok, kar_ok ht hZ kA_Mo_ok,
    pm_look_all (List.forall_mem_cons.mpr ⟨pm_cokV hbs hZ ⟨hx, hb, hml, hown, hts⟩ (kW_Mo_find l D base sa) (fun mc ms => cwV 5 hts (pw_gV (pw_in 2684 (w := .methodLink "RoutingFieldModel" 792 ⟨"RoutingFieldModel", "find", "(IIJJI)I"⟩) (by decide +kernel) rfl) ki_Mo_find ks_Mo_find kn_Mo ko_Mo_find) rfl rfl rfl (by decide +kernel) ⟨Nat.le_of_ble_eq_true rfl, Nat.le_of_ble_eq_true rfl⟩) (ci := 12) rfl, List.forall_mem_cons.mpr ⟨pm_cokV hbs hZ ⟨hx, hb, hml, hown, hts⟩ (kW_Mo_tally l D base sa) (fun mc ms => cwV 3 hts (pw_gV (pw_in 2974 (w := .methodLink "RoutingFieldModel" 1032 ⟨"RoutingFieldModel", "tally", "(III)V"⟩) (by decide +kernel) rfl) ki_Mo_tally ks_Mo_tally kn_Mo ko_Mo_tally) rfl rfl rfl (by decide +kernel) ⟨Nat.le_of_ble_eq_true rfl, Nat.le_of_ble_eq_true rfl⟩) (ci := 12) rfl, List.forall_mem_cons.mpr ⟨pm_cokV hbs hZ ⟨hx, hb, hml, hown, hts⟩ (kW_Mo_insert l D base sa) (fun mc ms => cwV 5 hts (pw_gV (pw_in 2688 (w := .methodLink "RoutingFieldModel" 798 ⟨"RoutingFieldModel", "insert", "(IIJJI)I"⟩) (by decide +kernel) rfl) ki_Mo_insert ks_Mo_insert kn_Mo ko_Mo_insert) rfl rfl rfl (by decide +kernel) ⟨Nat.le_of_ble_eq_true rfl, Nat.le_of_ble_eq_true rfl⟩) (ci := 12) rfl, List.forall_mem_cons.mpr ⟨pm_cokV hbs hZ ⟨hx, hb, hml, hown, hts⟩ (kW_Mo_takeOver l D base sa) (fun mc ms => cwV 7 hts (pw_gV (pw_in 3053 (w := .methodLink "RoutingFieldModel" 1083 ⟨"RoutingFieldModel", "takeOver", "(IIIIIJJ)V"⟩) (by decide +kernel) rfl) ki_Mo_takeOver ks_Mo_takeOver kn_Mo ko_Mo_takeOver) rfl rfl rfl (by decide +kernel) ⟨Nat.le_of_ble_eq_true rfl, Nat.le_of_ble_eq_true rfl⟩) (ci := 12) rfl, fun _ h => absurd h List.not_mem_nil⟩⟩⟩⟩),
    hZ, kst_ok ht hZ (kS_Mo_ok sa), knar_ok ht, ktx_ok (kE_Mo_ok sa)⟩
set_option maxRecDepth 100000 in
theorem ki_Mo_takeAll : Cond.instanceMethod ⟨"RoutingFieldModel", "takeAll", "(IIJJ)V"⟩ ∈ pw_T := (pw_in 3006 (by decide +kernel) rfl)
set_option maxRecDepth 100000 in
theorem ks_Mo_takeAll : Cond.selects "RoutingFieldModel" ⟨"RoutingFieldModel", "takeAll", "(IIJJ)V"⟩ ⟨"RoutingFieldModel", "takeAll", "(IIJJ)V"⟩ ∈ pw_T := (pw_sel 193 (q := (⟨"RoutingFieldModel", "takeAll", "(IIJJ)V"⟩, 166)) (by decide +kernel))
set_option maxRecDepth 100000 in
theorem ko_Mo_takeAll : Cond.code ⟨"RoutingFieldModel", "takeAll", "(IIJJ)V"⟩ prog_14_method_129_code 22 none ∈ pw_T := (pw_in 3007 rfl rfl)
set_option maxRecDepth 100000 in
theorem kD_Mo_takeAll_0 : ∀ q ∈ kC_Mo_takeAll_0, decode prog_14_method_129_code q.1 = .ok (q.2, pm_len q.1 q.2) := by decide +kernel
set_option maxRecDepth 100000 in
theorem kD_Mo_takeAll_1 : ∀ q ∈ kC_Mo_takeAll_1, decode prog_14_method_129_code q.1 = .ok (q.2, pm_len q.1 q.2) := by decide +kernel
set_option maxRecDepth 100000 in
theorem kD_Mo_takeAll_2 : ∀ q ∈ kC_Mo_takeAll_2, decode prog_14_method_129_code q.1 = .ok (q.2, pm_len q.1 q.2) := by decide +kernel
set_option maxRecDepth 100000 in
theorem kD_Mo_takeAll_3 : ∀ q ∈ kC_Mo_takeAll_3, decode prog_14_method_129_code q.1 = .ok (q.2, pm_len q.1 q.2) := by decide +kernel
set_option maxRecDepth 100000 in
theorem kD_Mo_takeAll_4 : ∀ q ∈ kC_Mo_takeAll_4, decode prog_14_method_129_code q.1 = .ok (q.2, pm_len q.1 q.2) := by decide +kernel
set_option maxRecDepth 100000 in
theorem kD_Mo_takeAll_5 : ∀ q ∈ kC_Mo_takeAll_5, decode prog_14_method_129_code q.1 = .ok (q.2, pm_len q.1 q.2) := by decide +kernel
theorem kD_Mo_takeAll : ∀ q ∈ kC_Mo_takeAll, decode prog_14_method_129_code q.1 = .ok (q.2, pm_len q.1 q.2) := List.forall_mem_append.mpr ⟨kD_Mo_takeAll_0, List.forall_mem_append.mpr ⟨kD_Mo_takeAll_1, List.forall_mem_append.mpr ⟨kD_Mo_takeAll_2, List.forall_mem_append.mpr ⟨kD_Mo_takeAll_3, List.forall_mem_append.mpr ⟨kD_Mo_takeAll_4, kD_Mo_takeAll_5⟩⟩⟩⟩⟩
set_option maxRecDepth 100000 in
theorem kW_Mo_takeAll (l : Launch) (D : va_G) (base : Nat) (sa : Nat → Nat) : pm_Met l D kcl base (kZ sa) ⟨"RoutingFieldModel", "takeAll", "(IIJJ)V"⟩ (.code ⟨"RoutingFieldModel", "takeAll", "(IIJJ)V"⟩ prog_14_method_129_code 22 none :: pw_T) 6 165 (kP_Mo_takeAll base sa) := by
  refine pm_met (by decide) rfl rfl ?_
  intro mc ms p e s m args below meth c hx hb hml hown hnm hts hbs hZ
  have ht : ∀ w ∈ pw_T, w.before args s = true := fun w h => hts w (List.mem_cons_of_mem _ h)
  exact ⟨hx, hb, hown, hbs, pm_look_all kD_Mo_takeAll, kf_ok (init := false) ht hZ kF_Mo_ok (fun h => by cases h), km_ok ht kM_Mo_ok, kci_ok ht kI_Mo_ok, kli_ok ht kJ_Mo_ok, kar_ok ht hZ kA_Mo_ok,
    pm_look_all (List.forall_mem_cons.mpr ⟨pm_cokS hbs hZ ⟨hx, hb, hml, hown, hts⟩ (kW_Mo_highOf l D base sa) (fun mc ms => va_cwS 3 hts (pw_gS (pw_in 3008 (w := .methodLink "RoutingFieldModel" 1054 ⟨"RoutingFieldModel", "highOf", "([III)J"⟩) (by decide +kernel) rfl) kv_Mo_highOf kn_Mo ko_Mo_highOf) rfl rfl rfl (by decide +kernel) ⟨Nat.le_of_ble_eq_true rfl, Nat.le_of_ble_eq_true rfl⟩), List.forall_mem_cons.mpr ⟨pm_cokS hbs hZ ⟨hx, hb, hml, hown, hts⟩ (kW_Mo_lowOf l D base sa) (fun mc ms => va_cwS 3 hts (pw_gS (pw_in 3011 (w := .methodLink "RoutingFieldModel" 1058 ⟨"RoutingFieldModel", "lowOf", "([III)J"⟩) (by decide +kernel) rfl) kv_Mo_lowOf kn_Mo ko_Mo_lowOf) rfl rfl rfl (by decide +kernel) ⟨Nat.le_of_ble_eq_true rfl, Nat.le_of_ble_eq_true rfl⟩), List.forall_mem_cons.mpr ⟨pm_cokS hbs hZ ⟨hx, hb, hml, hown, hts⟩ (kW_Mo_number4 l D base sa) (fun mc ms => va_cwS 2 hts (pw_gS (pw_in 2993 (w := .methodLink "RoutingFieldModel" 1018 ⟨"RoutingFieldModel", "number4", "([II)J"⟩) (by decide +kernel) rfl) kv_Mo_number4 kn_Mo ko_Mo_number4) rfl rfl rfl (by decide +kernel) ⟨Nat.le_of_ble_eq_true rfl, Nat.le_of_ble_eq_true rfl⟩), List.forall_mem_cons.mpr ⟨pm_cokV hbs hZ ⟨hx, hb, hml, hown, hts⟩ (kW_Mo_isEntry l D base sa) (fun mc ms => cwV 2 hts (pw_gV (pw_in 3014 (w := .methodLink "RoutingFieldModel" 1051 ⟨"RoutingFieldModel", "isEntry", "(II)Z"⟩) (by decide +kernel) rfl) ki_Mo_isEntry ks_Mo_isEntry kn_Mo ko_Mo_isEntry) rfl rfl rfl (by decide +kernel) ⟨Nat.le_of_ble_eq_true rfl, Nat.le_of_ble_eq_true rfl⟩) (ci := 12) rfl, List.forall_mem_cons.mpr ⟨pm_cokS hbs hZ ⟨hx, hb, hml, hown, hts⟩ (kW_Mo_isForbidden l D base sa) (fun mc ms => va_cwS 3 hts (pw_gS (pw_in 3020 (w := .methodLink "RoutingFieldModel" 1069 ⟨"RoutingFieldModel", "isForbidden", "(IJI)Z"⟩) (by decide +kernel) rfl) kv_Mo_isForbidden kn_Mo ko_Mo_isForbidden) rfl rfl rfl (by decide +kernel) ⟨Nat.le_of_ble_eq_true rfl, Nat.le_of_ble_eq_true rfl⟩), List.forall_mem_cons.mpr ⟨pm_cokV hbs hZ ⟨hx, hb, hml, hown, hts⟩ (kW_Mo_filterAllows l D base sa) (fun mc ms => cwV 6 hts (pw_gV (pw_in 3026 (w := .methodLink "RoutingFieldModel" 953 ⟨"RoutingFieldModel", "filterAllows", "(IIIJJI)Z"⟩) (by decide +kernel) rfl) ki_Mo_filterAllows ks_Mo_filterAllows kn_Mo ko_Mo_filterAllows) rfl rfl rfl (by decide +kernel) ⟨Nat.le_of_ble_eq_true rfl, Nat.le_of_ble_eq_true rfl⟩) (ci := 12) rfl, List.forall_mem_cons.mpr ⟨pm_cokV hbs hZ ⟨hx, hb, hml, hown, hts⟩ (kW_Mo_distributeAllows l D base sa) (fun mc ms => cwV 7 hts (pw_gV (pw_in 3033 (w := .methodLink "RoutingFieldModel" 957 ⟨"RoutingFieldModel", "distributeAllows", "(IIIIJJI)Z"⟩) (by decide +kernel) rfl) ki_Mo_distributeAllows ks_Mo_distributeAllows kn_Mo ko_Mo_distributeAllows) rfl rfl rfl (by decide +kernel) ⟨Nat.le_of_ble_eq_true rfl, Nat.le_of_ble_eq_true rfl⟩) (ci := 12) rfl, List.forall_mem_cons.mpr ⟨pm_cokV hbs hZ ⟨hx, hb, hml, hown, hts⟩ (kW_Mo_tally l D base sa) (fun mc ms => cwV 3 hts (pw_gV (pw_in 2974 (w := .methodLink "RoutingFieldModel" 1032 ⟨"RoutingFieldModel", "tally", "(III)V"⟩) (by decide +kernel) rfl) ki_Mo_tally ks_Mo_tally kn_Mo ko_Mo_tally) rfl rfl rfl (by decide +kernel) ⟨Nat.le_of_ble_eq_true rfl, Nat.le_of_ble_eq_true rfl⟩) (ci := 12) rfl, List.forall_mem_cons.mpr ⟨pm_cokV hbs hZ ⟨hx, hb, hml, hown, hts⟩ (kW_Mo_offsetFor l D base sa) (fun mc ms => cwV 7 hts (pw_gV (pw_in 3045 (w := .methodLink "RoutingFieldModel" 961 ⟨"RoutingFieldModel", "offsetFor", "(IIIIJJI)I"⟩) (by decide +kernel) rfl) ki_Mo_offsetFor ks_Mo_offsetFor kn_Mo ko_Mo_offsetFor) rfl rfl rfl (by decide +kernel) ⟨Nat.le_of_ble_eq_true rfl, Nat.le_of_ble_eq_true rfl⟩) (ci := 12) rfl, List.forall_mem_cons.mpr ⟨pm_cokS hbs hZ ⟨hx, hb, hml, hown, hts⟩ (kW_Mo_covers l D base sa) (fun mc ms => va_cwS 5 hts (pw_gS (pw_in 2978 (w := .methodLink "RoutingFieldModel" 440 ⟨"RoutingFieldModel", "covers", "(JJIJJ)Z"⟩) (by decide +kernel) rfl) kv_Mo_covers kn_Mo ko_Mo_covers) rfl rfl rfl (by decide +kernel) ⟨Nat.le_of_ble_eq_true rfl, Nat.le_of_ble_eq_true rfl⟩), List.forall_mem_cons.mpr ⟨pm_cokV hbs hZ ⟨hx, hb, hml, hown, hts⟩ (kW_Mo_learn l D base sa) (fun mc ms => cwV 7 hts (pw_gV (pw_in 3049 (w := .methodLink "RoutingFieldModel" 1079 ⟨"RoutingFieldModel", "learn", "(IIIIIJJ)V"⟩) (by decide +kernel) rfl) ki_Mo_learn ks_Mo_learn kn_Mo ko_Mo_learn) rfl rfl rfl (by decide +kernel) ⟨Nat.le_of_ble_eq_true rfl, Nat.le_of_ble_eq_true rfl⟩) (ci := 12) rfl, fun _ h => absurd h List.not_mem_nil⟩⟩⟩⟩⟩⟩⟩⟩⟩⟩⟩),
    hZ, kst_ok ht hZ (kS_Mo_ok sa), knar_ok ht, ktx_ok (kE_Mo_ok sa)⟩
set_option maxRecDepth 100000 in
theorem ki_Mo_asksForAll : Cond.instanceMethod ⟨"RoutingFieldModel", "asksForAll", "(I)Z"⟩ ∈ pw_T := (pw_in 3063 (by decide +kernel) rfl)
set_option maxRecDepth 100000 in
theorem ks_Mo_asksForAll : Cond.selects "RoutingFieldModel" ⟨"RoutingFieldModel", "asksForAll", "(I)Z"⟩ ⟨"RoutingFieldModel", "asksForAll", "(I)Z"⟩ ∈ pw_T := (pw_sel 203 (q := (⟨"RoutingFieldModel", "asksForAll", "(I)Z"⟩, 166)) (by decide +kernel))
set_option maxRecDepth 100000 in
theorem ko_Mo_asksForAll : Cond.code ⟨"RoutingFieldModel", "asksForAll", "(I)Z"⟩ prog_14_method_125_code 3 (some .boolean) ∈ pw_T := (pw_in 3064 rfl rfl)
set_option maxRecDepth 100000 in
theorem kD_Mo_asksForAll : ∀ q ∈ kC_Mo_asksForAll, decode prog_14_method_125_code q.1 = .ok (q.2, pm_len q.1 q.2) := by decide +kernel
set_option maxRecDepth 100000 in
theorem kW_Mo_asksForAll (l : Launch) (D : va_G) (base : Nat) (sa : Nat → Nat) : pm_Met l D kcl base (kZ sa) ⟨"RoutingFieldModel", "asksForAll", "(I)Z"⟩ (.code ⟨"RoutingFieldModel", "asksForAll", "(I)Z"⟩ prog_14_method_125_code 3 (some .boolean) :: pw_T) 1 24 (kP_Mo_asksForAll base sa) := by
  refine pm_met (by decide) rfl rfl ?_
  intro mc ms p e s m args below meth c hx hb hml hown hnm hts hbs hZ
  have ht : ∀ w ∈ pw_T, w.before args s = true := fun w h => hts w (List.mem_cons_of_mem _ h)
  exact ⟨hx, hb, hown, hbs, pm_look_all kD_Mo_asksForAll, kf_ok (init := false) ht hZ kF_Mo_ok (fun h => by cases h), km_ok ht kM_Mo_ok, kci_ok ht kI_Mo_ok, kli_ok ht kJ_Mo_ok, kar_ok ht hZ kA_Mo_ok,
    pm_look_all (List.forall_mem_cons.mpr ⟨pm_cokS hbs hZ ⟨hx, hb, hml, hown, hts⟩ (kW_Mo_number4 l D base sa) (fun mc ms => va_cwS 2 hts (pw_gS (pw_in 2993 (w := .methodLink "RoutingFieldModel" 1018 ⟨"RoutingFieldModel", "number4", "([II)J"⟩) (by decide +kernel) rfl) kv_Mo_number4 kn_Mo ko_Mo_number4) rfl rfl rfl (by decide +kernel) ⟨Nat.le_of_ble_eq_true rfl, Nat.le_of_ble_eq_true rfl⟩), List.forall_mem_cons.mpr ⟨pm_cokV hbs hZ ⟨hx, hb, hml, hown, hts⟩ (kW_Mo_areZeros l D base sa) (fun mc ms => cwV 2 hts (pw_gV (pw_in 2989 (w := .methodLink "RoutingFieldModel" 1015 ⟨"RoutingFieldModel", "areZeros", "(II)Z"⟩) (by decide +kernel) rfl) ki_Mo_areZeros ks_Mo_areZeros kn_Mo ko_Mo_areZeros) rfl rfl rfl (by decide +kernel) ⟨Nat.le_of_ble_eq_true rfl, Nat.le_of_ble_eq_true rfl⟩) (ci := 12) rfl, fun _ h => absurd h List.not_mem_nil⟩⟩),
    hZ, kst_ok ht hZ (kS_Mo_ok sa), knar_ok ht, ktx_ok (kE_Mo_ok sa)⟩
