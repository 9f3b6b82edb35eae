set_option maxRecDepth 100000 in
theorem ki_Mo_oracle : Cond.instanceMethod ⟨"RoutingFieldModel", "oracle", "(I)I"⟩ ∈ pw_T := (pw_in 3279 (by decide +kernel) rfl)
set_option maxRecDepth 100000 in
theorem ks_Mo_oracle : Cond.selects "RoutingFieldModel" ⟨"RoutingFieldModel", "oracle", "(I)I"⟩ ⟨"RoutingFieldModel", "oracle", "(I)I"⟩ ∈ pw_T := (pw_in 3280 (by decide +kernel) rfl)
set_option maxRecDepth 100000 in
theorem ko_Mo_oracle : Cond.code ⟨"RoutingFieldModel", "oracle", "(I)I"⟩ prog_14_method_176_code 16 (some .int) ∈ pw_T := (pw_in 3281 rfl rfl)
set_option maxRecDepth 100000 in
theorem kD_Mo_oracle_0 : ∀ q ∈ kC_Mo_oracle_0, decode prog_14_method_176_code q.1 = .ok (q.2, pm_len q.1 q.2) := by decide +kernel
set_option maxRecDepth 100000 in
theorem kD_Mo_oracle_1 : ∀ q ∈ kC_Mo_oracle_1, decode prog_14_method_176_code q.1 = .ok (q.2, pm_len q.1 q.2) := by decide +kernel
set_option maxRecDepth 100000 in
theorem kD_Mo_oracle_2 : ∀ q ∈ kC_Mo_oracle_2, decode prog_14_method_176_code q.1 = .ok (q.2, pm_len q.1 q.2) := by decide +kernel
set_option maxRecDepth 100000 in
theorem kD_Mo_oracle_3 : ∀ q ∈ kC_Mo_oracle_3, decode prog_14_method_176_code q.1 = .ok (q.2, pm_len q.1 q.2) := by decide +kernel
set_option maxRecDepth 100000 in
theorem kD_Mo_oracle_4 : ∀ q ∈ kC_Mo_oracle_4, decode prog_14_method_176_code q.1 = .ok (q.2, pm_len q.1 q.2) := by decide +kernel
theorem kD_Mo_oracle : ∀ q ∈ kC_Mo_oracle, decode prog_14_method_176_code q.1 = .ok (q.2, pm_len q.1 q.2) := List.forall_mem_append.mpr ⟨kD_Mo_oracle_0, List.forall_mem_append.mpr ⟨kD_Mo_oracle_1, List.forall_mem_append.mpr ⟨kD_Mo_oracle_2, List.forall_mem_append.mpr ⟨kD_Mo_oracle_3, kD_Mo_oracle_4⟩⟩⟩⟩
set_option maxRecDepth 100000 in
theorem kW_Mo_oracle (l : Launch) (D : va_G) (base : Nat) (sa : Nat → Nat) : pm_Met l D kcl base (kZ sa) ⟨"RoutingFieldModel", "oracle", "(I)I"⟩ (.code ⟨"RoutingFieldModel", "oracle", "(I)I"⟩ prog_14_method_176_code 16 (some .int) :: pw_T) 5 123 (kP_Mo_oracle base sa) := by
  refine pm_met (by decide) rfl rfl ?_
  intro mc ms p e s m args below meth c hx hb hml hown hnm hts hbs hZ
  have ht : ∀ w ∈ pw_T, w.before args s = true := fun w h => hts w (List.mem_cons_of_mem _ h)
  exact ⟨hx, hb, hown, hbs, pm_look_all kD_Mo_oracle, kf_ok (init := false) ht hZ kF_Mo_ok (fun h => by cases h), km_ok ht kM_Mo_ok, kci_ok ht kI_Mo_ok, kli_ok ht kJ_Mo_ok, kar_ok ht hZ kA_Mo_ok,
    pm_look_all (List.forall_mem_cons.mpr ⟨pm_cokV hbs hZ ⟨hx, hb, hml, hown, hts⟩ (kW_Mo_takeAddress l D base sa) (fun mc ms => cwV 0 hts (pw_gV (pw_in 3282 (w := .methodLink "RoutingFieldModel" 1237 ⟨"RoutingFieldModel", "takeAddress", "()Z"⟩) (by decide +kernel) rfl) ki_Mo_takeAddress ks_Mo_takeAddress kn_Mo ko_Mo_takeAddress) rfl rfl rfl (by decide +kernel) ⟨Nat.le_of_ble_eq_true rfl, Nat.le_of_ble_eq_true rfl⟩) (ci := 12) rfl, List.forall_mem_cons.mpr ⟨pm_cokV hbs hZ ⟨hx, hb, hml, hown, hts⟩ (kW_Mo_isRouter l D base sa) (fun mc ms => cwV 1 hts (pw_gV (pw_in 3145 (w := .methodLink "RoutingFieldModel" 1177 ⟨"RoutingFieldModel", "isRouter", "(I)Z"⟩) (by decide +kernel) rfl) ki_Mo_isRouter ks_Mo_isRouter kn_Mo ko_Mo_isRouter) rfl rfl rfl (by decide +kernel) ⟨Nat.le_of_ble_eq_true rfl, Nat.le_of_ble_eq_true rfl⟩) (ci := 12) rfl, List.forall_mem_cons.mpr ⟨pm_cokV hbs hZ ⟨hx, hb, hml, hown, hts⟩ (kW_Mo_longestOfAll l D base sa) (fun mc ms => cwV 0 hts (pw_gV (pw_in 3286 (w := .methodLink "RoutingFieldModel" 1241 ⟨"RoutingFieldModel", "longestOfAll", "()I"⟩) (by decide +kernel) rfl) ki_Mo_longestOfAll ks_Mo_longestOfAll kn_Mo ko_Mo_longestOfAll) rfl rfl rfl (by decide +kernel) ⟨Nat.le_of_ble_eq_true rfl, Nat.le_of_ble_eq_true rfl⟩) (ci := 12) rfl, List.forall_mem_cons.mpr ⟨pm_cokS hbs hZ ⟨hx, hb, hml, hown, hts⟩ (kW_Mo_maskHigh l D base sa) (fun mc ms => va_cwS 1 hts (pw_gS (pw_in 2653 (w := .methodLink "RoutingFieldModel" 433 ⟨"RoutingFieldModel", "maskHigh", "(I)J"⟩) (by decide +kernel) rfl) kv_Mo_maskHigh kn_Mo ko_Mo_maskHigh) rfl rfl rfl (by decide +kernel) ⟨Nat.le_of_ble_eq_true rfl, Nat.le_of_ble_eq_true rfl⟩) (Nat.le_of_ble_eq_true rfl), List.forall_mem_cons.mpr ⟨pm_cokS hbs hZ ⟨hx, hb, hml, hown, hts⟩ (kW_Mo_maskLow l D base sa) (fun mc ms => va_cwS 1 hts (pw_gS (pw_in 2657 (w := .methodLink "RoutingFieldModel" 437 ⟨"RoutingFieldModel", "maskLow", "(I)J"⟩) (by decide +kernel) rfl) kv_Mo_maskLow kn_Mo ko_Mo_maskLow) rfl rfl rfl (by decide +kernel) ⟨Nat.le_of_ble_eq_true rfl, Nat.le_of_ble_eq_true rfl⟩) (Nat.le_of_ble_eq_true rfl), List.forall_mem_cons.mpr ⟨pm_cokV hbs hZ ⟨hx, hb, hml, hown, hts⟩ (kW_Mo_isDue l D base sa) (fun mc ms => cwV 5 hts (pw_gV (pw_in 2645 (w := .methodLink "RoutingFieldModel" 795 ⟨"RoutingFieldModel", "isDue", "(IIJJI)Z"⟩) (by decide +kernel) rfl) ki_Mo_isDue ks_Mo_isDue kn_Mo ko_Mo_isDue) rfl rfl rfl (by decide +kernel) ⟨Nat.le_of_ble_eq_true rfl, Nat.le_of_ble_eq_true rfl⟩) (ci := 12) rfl, List.forall_mem_cons.mpr ⟨pm_cokV hbs hZ ⟨hx, hb, hml, hown, hts⟩ (kW_Mo_leastAt l D base sa) (fun mc ms => cwV 3 hts (pw_gV (pw_in 3295 (w := .methodLink "RoutingFieldModel" 1246 ⟨"RoutingFieldModel", "leastAt", "(III)J"⟩) (by decide +kernel) rfl) ki_Mo_leastAt ks_Mo_leastAt kn_Mo ko_Mo_leastAt) rfl rfl rfl (by decide +kernel) ⟨Nat.le_of_ble_eq_true rfl, Nat.le_of_ble_eq_true rfl⟩) (ci := 12) rfl, fun _ h => absurd h List.not_mem_nil⟩⟩⟩⟩⟩⟩⟩),
    hZ, kst_ok ht hZ (kS_Mo_ok sa), knar_ok ht, ktx_ok (kE_Mo_ok sa)⟩
set_option maxRecDepth 100000 in
theorem ki_Mo_way : Cond.instanceMethod ⟨"RoutingFieldModel", "way", "(I)I"⟩ ∈ pw_T := (pw_in 3301 (by decide +kernel) rfl)
set_option maxRecDepth 100000 in
theorem ks_Mo_way : Cond.selects "RoutingFieldModel" ⟨"RoutingFieldModel", "way", "(I)I"⟩ ⟨"RoutingFieldModel", "way", "(I)I"⟩ ∈ pw_T := (pw_in 3302 (by decide +kernel) rfl)
set_option maxRecDepth 100000 in
theorem ko_Mo_way : Cond.code ⟨"RoutingFieldModel", "way", "(I)I"⟩ prog_14_method_178_code 6 (some .int) ∈ pw_T := (pw_in 3303 rfl rfl)
set_option maxRecDepth 100000 in
theorem kD_Mo_way_0 : ∀ q ∈ kC_Mo_way_0, decode prog_14_method_178_code q.1 = .ok (q.2, pm_len q.1 q.2) := by decide +kernel
set_option maxRecDepth 100000 in
theorem kD_Mo_way_1 : ∀ q ∈ kC_Mo_way_1, decode prog_14_method_178_code q.1 = .ok (q.2, pm_len q.1 q.2) := by decide +kernel
theorem kD_Mo_way : ∀ q ∈ kC_Mo_way, decode prog_14_method_178_code q.1 = .ok (q.2, pm_len q.1 q.2) := List.forall_mem_append.mpr ⟨kD_Mo_way_0, kD_Mo_way_1⟩
set_option maxRecDepth 100000 in
theorem kW_Mo_way (l : Launch) (D : va_G) (base : Nat) (sa : Nat → Nat) : pm_Met l D kcl base (kZ sa) ⟨"RoutingFieldModel", "way", "(I)I"⟩ (.code ⟨"RoutingFieldModel", "way", "(I)I"⟩ prog_14_method_178_code 6 (some .int) :: pw_T) 6 145 (kP_Mo_way base sa) := by
  refine pm_met (by decide) rfl rfl ?_
  intro mc ms p e s m args below meth c hx hb hml hown hnm hts hbs hZ
  have ht : ∀ w ∈ pw_T, w.before args s = true := fun w h => hts w (List.mem_cons_of_mem _ h)
  exact ⟨hx, hb, hown, hbs, pm_look_all kD_Mo_way, kf_ok (init := false) ht hZ kF_Mo_ok (fun h => by cases h), km_ok ht kM_Mo_ok, kci_ok ht kI_Mo_ok, kli_ok ht kJ_Mo_ok, kar_ok ht hZ kA_Mo_ok,
    pm_look_all (List.forall_mem_cons.mpr ⟨pm_cokV hbs hZ ⟨hx, hb, hml, hown, hts⟩ (kW_Mo_takeAddress l D base sa) (fun mc ms => cwV 0 hts (pw_gV (pw_in 3282 (w := .methodLink "RoutingFieldModel" 1237 ⟨"RoutingFieldModel", "takeAddress", "()Z"⟩) (by decide +kernel) rfl) ki_Mo_takeAddress ks_Mo_takeAddress kn_Mo ko_Mo_takeAddress) rfl rfl rfl (by decide +kernel) ⟨Nat.le_of_ble_eq_true rfl, Nat.le_of_ble_eq_true rfl⟩) (ci := 12) rfl, List.forall_mem_cons.mpr ⟨pm_cokV hbs hZ ⟨hx, hb, hml, hown, hts⟩ (kW_Mo_isRouter l D base sa) (fun mc ms => cwV 1 hts (pw_gV (pw_in 3145 (w := .methodLink "RoutingFieldModel" 1177 ⟨"RoutingFieldModel", "isRouter", "(I)Z"⟩) (by decide +kernel) rfl) ki_Mo_isRouter ks_Mo_isRouter kn_Mo ko_Mo_isRouter) rfl rfl rfl (by decide +kernel) ⟨Nat.le_of_ble_eq_true rfl, Nat.le_of_ble_eq_true rfl⟩) (ci := 12) rfl, List.forall_mem_cons.mpr ⟨pm_cokV hbs hZ ⟨hx, hb, hml, hown, hts⟩ (kW_Mo_isLonger l D base sa) (fun mc ms => cwV 5 hts (pw_gV (pw_in 3290 (w := .methodLink "RoutingFieldModel" 1233 ⟨"RoutingFieldModel", "isLonger", "(IJJII)Z"⟩) (by decide +kernel) rfl) ki_Mo_isLonger ks_Mo_isLonger kn_Mo ko_Mo_isLonger) rfl rfl rfl (by decide +kernel) ⟨Nat.le_of_ble_eq_true rfl, Nat.le_of_ble_eq_true rfl⟩) (ci := 12) rfl, List.forall_mem_cons.mpr ⟨pm_cokV hbs hZ ⟨hx, hb, hml, hown, hts⟩ (kW_Mo_sayRoute l D base sa) (fun mc ms => cwV 1 hts (pw_gV (pw_in 3149 (w := .methodLink "RoutingFieldModel" 1180 ⟨"RoutingFieldModel", "sayRoute", "(I)V"⟩) (by decide +kernel) rfl) ki_Mo_sayRoute ks_Mo_sayRoute kn_Mo ko_Mo_sayRoute) rfl rfl rfl (by decide +kernel) ⟨Nat.le_of_ble_eq_true rfl, Nat.le_of_ble_eq_true rfl⟩) (ci := 12) rfl, List.forall_mem_cons.mpr ⟨pm_cokV hbs hZ ⟨hx, hb, hml, hown, hts⟩ (kW_Mo_shown l D base sa) (fun mc ms => cwV 0 hts (pw_gV (pw_in 3217 (w := .methodLink "RoutingFieldModel" 1189 ⟨"RoutingFieldModel", "shown", "()I"⟩) (by decide +kernel) rfl) ki_Mo_shown ks_Mo_shown kn_Mo ko_Mo_shown) rfl rfl rfl (by decide +kernel) ⟨Nat.le_of_ble_eq_true rfl, Nat.le_of_ble_eq_true rfl⟩) (ci := 12) rfl, fun _ h => absurd h List.not_mem_nil⟩⟩⟩⟩⟩),
    hZ, kst_ok ht hZ (kS_Mo_ok sa), knar_ok ht, ktx_ok (kE_Mo_ok sa)⟩
set_option maxRecDepth 100000 in
theorem ki_Mo_seen : Cond.instanceMethod ⟨"RoutingFieldModel", "seen", "(I)I"⟩ ∈ pw_T := (pw_in 3305 (by decide +kernel) rfl)
set_option maxRecDepth 100000 in
theorem ks_Mo_seen : Cond.selects "RoutingFieldModel" ⟨"RoutingFieldModel", "seen", "(I)I"⟩ ⟨"RoutingFieldModel", "seen", "(I)I"⟩ ∈ pw_T := (pw_in 3306 (by decide +kernel) rfl)
set_option maxRecDepth 100000 in
theorem ko_Mo_seen : Cond.code ⟨"RoutingFieldModel", "seen", "(I)I"⟩ prog_14_method_179_code 3 (some .int) ∈ pw_T := (pw_in 3307 rfl rfl)
set_option maxRecDepth 100000 in
theorem kD_Mo_seen : ∀ q ∈ kC_Mo_seen, decode prog_14_method_179_code q.1 = .ok (q.2, pm_len q.1 q.2) := by decide +kernel
set_option maxRecDepth 100000 in
theorem kW_Mo_seen (l : Launch) (D : va_G) (base : Nat) (sa : Nat → Nat) : pm_Met l D kcl base (kZ sa) ⟨"RoutingFieldModel", "seen", "(I)I"⟩ (.code ⟨"RoutingFieldModel", "seen", "(I)I"⟩ prog_14_method_179_code 3 (some .int) :: pw_T) 1 23 (kP_Mo_seen base sa) := by
  refine pm_met (by decide) rfl rfl ?_
  intro mc ms p e s m args below meth c hx hb hml hown hnm hts hbs hZ
  have ht : ∀ w ∈ pw_T, w.before args s = true := fun w h => hts w (List.mem_cons_of_mem _ h)
  exact ⟨hx, hb, hown, hbs, pm_look_all kD_Mo_seen, kf_ok (init := false) ht hZ kF_Mo_ok (fun h => by cases h), km_ok ht kM_Mo_ok, kci_ok ht kI_Mo_ok, kli_ok ht kJ_Mo_ok, kar_ok ht hZ kA_Mo_ok,
    pm_look_all (List.forall_mem_cons.mpr ⟨pm_cokV hbs hZ ⟨hx, hb, hml, hown, hts⟩ (kW_Mo_say l D base sa) (fun mc ms => cwV 1 hts (pw_gV (pw_in 3161 (w := .methodLink "RoutingFieldModel" 1119 ⟨"RoutingFieldModel", "say", "(I)V"⟩) (by decide +kernel) rfl) ki_Mo_say ks_Mo_say kn_Mo ko_Mo_say) rfl rfl rfl (by decide +kernel) ⟨Nat.le_of_ble_eq_true rfl, Nat.le_of_ble_eq_true rfl⟩) (ci := 12) rfl, List.forall_mem_cons.mpr ⟨pm_cokV hbs hZ ⟨hx, hb, hml, hown, hts⟩ (kW_Mo_shown l D base sa) (fun mc ms => cwV 0 hts (pw_gV (pw_in 3217 (w := .methodLink "RoutingFieldModel" 1189 ⟨"RoutingFieldModel", "shown", "()I"⟩) (by decide +kernel) rfl) ki_Mo_shown ks_Mo_shown kn_Mo ko_Mo_shown) rfl rfl rfl (by decide +kernel) ⟨Nat.le_of_ble_eq_true rfl, Nat.le_of_ble_eq_true rfl⟩) (ci := 12) rfl, fun _ h => absurd h List.not_mem_nil⟩⟩),
    hZ, kst_ok ht hZ (kS_Mo_ok sa), knar_ok ht, ktx_ok (kE_Mo_ok sa)⟩
set_option maxRecDepth 100000 in
theorem ki_Mo_textAt : Cond.instanceMethod ⟨"RoutingFieldModel", "textAt", "(I)I"⟩ ∈ pw_T := (pw_in 3309 (by decide +kernel) rfl)
set_option maxRecDepth 100000 in
theorem ks_Mo_textAt : Cond.selects "RoutingFieldModel" ⟨"RoutingFieldModel", "textAt", "(I)I"⟩ ⟨"RoutingFieldModel", "textAt", "(I)I"⟩ ∈ pw_T := (pw_in 3310 (by decide +kernel) rfl)
set_option maxRecDepth 100000 in
theorem ko_Mo_textAt : Cond.code ⟨"RoutingFieldModel", "textAt", "(I)I"⟩ prog_14_method_180_code 2 (some .int) ∈ pw_T := (pw_in 3311 rfl rfl)
set_option maxRecDepth 100000 in
theorem kD_Mo_textAt : ∀ q ∈ kC_Mo_textAt, decode prog_14_method_180_code q.1 = .ok (q.2, pm_len q.1 q.2) := by decide +kernel
set_option maxRecDepth 100000 in
theorem kW_Mo_textAt (l : Launch) (D : va_G) (base : Nat) (sa : Nat → Nat) : pm_Met l D kcl base (kZ sa) ⟨"RoutingFieldModel", "textAt", "(I)I"⟩ (.code ⟨"RoutingFieldModel", "textAt", "(I)I"⟩ prog_14_method_180_code 2 (some .int) :: pw_T) 0 0 (kP_Mo_textAt base sa) := by
  refine pm_met (by decide) rfl rfl ?_
  intro mc ms p e s m args below meth c hx hb hml hown hnm hts hbs hZ
  have ht : ∀ w ∈ pw_T, w.before args s = true := fun w h => hts w (List.mem_cons_of_mem _ h)
  exact ⟨hx, hb, hown, hbs, pm_look_all kD_Mo_textAt, kf_ok (init := false) ht hZ kF_Mo_ok (fun h => by cases h), km_ok ht kM_Mo_ok, kci_ok ht kI_Mo_ok, kli_ok ht kJ_Mo_ok, kar_ok ht hZ kA_Mo_ok,
    pm_look_all (fun _ h => absurd h List.not_mem_nil),
    hZ, kst_ok ht hZ (kS_Mo_ok sa), knar_ok ht, ktx_ok (kE_Mo_ok sa)⟩
set_option maxRecDepth 100000 in
theorem ki_Mo_count : Cond.instanceMethod ⟨"RoutingFieldModel", "count", "(II)I"⟩ ∈ pw_T := (pw_in 3313 (by decide +kernel) rfl)
set_option maxRecDepth 100000 in
theorem ks_Mo_count : Cond.selects "RoutingFieldModel" ⟨"RoutingFieldModel", "count", "(II)I"⟩ ⟨"RoutingFieldModel", "count", "(II)I"⟩ ∈ pw_T := (pw_in 3314 (by decide +kernel) rfl)
set_option maxRecDepth 100000 in
theorem ko_Mo_count : Cond.code ⟨"RoutingFieldModel", "count", "(II)I"⟩ prog_14_method_181_code 3 (some .int) ∈ pw_T := (pw_in 3315 rfl rfl)
set_option maxRecDepth 100000 in
theorem kD_Mo_count : ∀ q ∈ kC_Mo_count, decode prog_14_method_181_code q.1 = .ok (q.2, pm_len q.1 q.2) := by decide +kernel
set_option maxRecDepth 100000 in
theorem kW_Mo_count (l : Launch) (D : va_G) (base : Nat) (sa : Nat → Nat) : pm_Met l D kcl base (kZ sa) ⟨"RoutingFieldModel", "count", "(II)I"⟩ (.code ⟨"RoutingFieldModel", "count", "(II)I"⟩ prog_14_method_181_code 3 (some .int) :: pw_T) 1 21 (kP_Mo_count base sa) := by
  refine pm_met (by decide) rfl rfl ?_
  intro mc ms p e s m args below meth c hx hb hml hown hnm hts hbs hZ
  have ht : ∀ w ∈ pw_T, w.before args s = true := fun w h => hts w (List.mem_cons_of_mem _ h)
  exact ⟨hx, hb, hown, hbs, pm_look_all kD_Mo_count, kf_ok (init := false) ht hZ kF_Mo_ok (fun h => by cases h), km_ok ht kM_Mo_ok, kci_ok ht kI_Mo_ok, kli_ok ht kJ_Mo_ok, kar_ok ht hZ kA_Mo_ok,
    pm_look_all (List.forall_mem_cons.mpr ⟨pm_cokV hbs hZ ⟨hx, hb, hml, hown, hts⟩ (kW_Mo_isRouter l D base sa) (fun mc ms => cwV 1 hts (pw_gV (pw_in 3145 (w := .methodLink "RoutingFieldModel" 1177 ⟨"RoutingFieldModel", "isRouter", "(I)Z"⟩) (by decide +kernel) rfl) ki_Mo_isRouter ks_Mo_isRouter kn_Mo ko_Mo_isRouter) rfl rfl rfl (by decide +kernel) ⟨Nat.le_of_ble_eq_true rfl, Nat.le_of_ble_eq_true rfl⟩) (ci := 12) rfl, fun _ h => absurd h List.not_mem_nil⟩),
    hZ, kst_ok ht hZ (kS_Mo_ok sa), knar_ok ht, ktx_ok (kE_Mo_ok sa)⟩
set_option maxRecDepth 100000 in
theorem ki_Mo_routes : Cond.instanceMethod ⟨"RoutingFieldModel", "routes", "(I)I"⟩ ∈ pw_T := (pw_in 3317 (by decide +kernel) rfl)
set_option maxRecDepth 100000 in
theorem ks_Mo_routes : Cond.selects "RoutingFieldModel" ⟨"RoutingFieldModel", "routes", "(I)I"⟩ ⟨"RoutingFieldModel", "routes", "(I)I"⟩ ∈ pw_T := (pw_in 3318 (by decide +kernel) rfl)
set_option maxRecDepth 100000 in
theorem ko_Mo_routes : Cond.code ⟨"RoutingFieldModel", "routes", "(I)I"⟩ prog_14_method_182_code 2 (some .int) ∈ pw_T := (pw_in 3319 rfl rfl)
set_option maxRecDepth 100000 in
theorem kD_Mo_routes : ∀ q ∈ kC_Mo_routes, decode prog_14_method_182_code q.1 = .ok (q.2, pm_len q.1 q.2) := by decide +kernel
set_option maxRecDepth 100000 in
theorem kW_Mo_routes (l : Launch) (D : va_G) (base : Nat) (sa : Nat → Nat) : pm_Met l D kcl base (kZ sa) ⟨"RoutingFieldModel", "routes", "(I)I"⟩ (.code ⟨"RoutingFieldModel", "routes", "(I)I"⟩ prog_14_method_182_code 2 (some .int) :: pw_T) 1 21 (kP_Mo_routes base sa) := by
  refine pm_met (by decide) rfl rfl ?_
  intro mc ms p e s m args below meth c hx hb hml hown hnm hts hbs hZ
  have ht : ∀ w ∈ pw_T, w.before args s = true := fun w h => hts w (List.mem_cons_of_mem _ h)
  exact ⟨hx, hb, hown, hbs, pm_look_all kD_Mo_routes, kf_ok (init := false) ht hZ kF_Mo_ok (fun h => by cases h), km_ok ht kM_Mo_ok, kci_ok ht kI_Mo_ok, kli_ok ht kJ_Mo_ok, kar_ok ht hZ kA_Mo_ok,
    pm_look_all (List.forall_mem_cons.mpr ⟨pm_cokV hbs hZ ⟨hx, hb, hml, hown, hts⟩ (kW_Mo_isRouter l D base sa) (fun mc ms => cwV 1 hts (pw_gV (pw_in 3145 (w := .methodLink "RoutingFieldModel" 1177 ⟨"RoutingFieldModel", "isRouter", "(I)Z"⟩) (by decide +kernel) rfl) ki_Mo_isRouter ks_Mo_isRouter kn_Mo ko_Mo_isRouter) rfl rfl rfl (by decide +kernel) ⟨Nat.le_of_ble_eq_true rfl, Nat.le_of_ble_eq_true rfl⟩) (ci := 12) rfl, fun _ h => absurd h List.not_mem_nil⟩),
    hZ, kst_ok ht hZ (kS_Mo_ok sa), knar_ok ht, ktx_ok (kE_Mo_ok sa)⟩
set_option maxRecDepth 100000 in
theorem ki_Mo_flying : Cond.instanceMethod ⟨"RoutingFieldModel", "flying", "()I"⟩ ∈ pw_T := (pw_in 3321 (by decide +kernel) rfl)
set_option maxRecDepth 100000 in
theorem ks_Mo_flying : Cond.selects "RoutingFieldModel" ⟨"RoutingFieldModel", "flying", "()I"⟩ ⟨"RoutingFieldModel", "flying", "()I"⟩ ∈ pw_T := (pw_in 3322 (by decide +kernel) rfl)
set_option maxRecDepth 100000 in
theorem ko_Mo_flying : Cond.code ⟨"RoutingFieldModel", "flying", "()I"⟩ prog_14_method_183_code 1 (some .int) ∈ pw_T := (pw_in 3323 rfl rfl)
set_option maxRecDepth 100000 in
theorem kD_Mo_flying : ∀ q ∈ kC_Mo_flying, decode prog_14_method_183_code q.1 = .ok (q.2, pm_len q.1 q.2) := by decide +kernel
set_option maxRecDepth 100000 in
theorem kW_Mo_flying (l : Launch) (D : va_G) (base : Nat) (sa : Nat → Nat) : pm_Met l D kcl base (kZ sa) ⟨"RoutingFieldModel", "flying", "()I"⟩ (.code ⟨"RoutingFieldModel", "flying", "()I"⟩ prog_14_method_183_code 1 (some .int) :: pw_T) 0 0 (kP_Mo_flying base sa) := by
  refine pm_met (by decide) rfl rfl ?_
  intro mc ms p e s m args below meth c hx hb hml hown hnm hts hbs hZ
  have ht : ∀ w ∈ pw_T, w.before args s = true := fun w h => hts w (List.mem_cons_of_mem _ h)
  exact ⟨hx, hb, hown, hbs, pm_look_all kD_Mo_flying, kf_ok (init := false) ht hZ kF_Mo_ok (fun h => by cases h), km_ok ht kM_Mo_ok, kci_ok ht kI_Mo_ok, kli_ok ht kJ_Mo_ok, kar_ok ht hZ kA_Mo_ok,
    pm_look_all (fun _ h => absurd h List.not_mem_nil),
    hZ, kst_ok ht hZ (kS_Mo_ok sa), knar_ok ht, ktx_ok (kE_Mo_ok sa)⟩
set_option maxRecDepth 100000 in
theorem ki_Mo_now : Cond.instanceMethod ⟨"RoutingFieldModel", "now", "()I"⟩ ∈ pw_T := (pw_in 3325 (by decide +kernel) rfl)
set_option maxRecDepth 100000 in
theorem ks_Mo_now : Cond.selects "RoutingFieldModel" ⟨"RoutingFieldModel", "now", "()I"⟩ ⟨"RoutingFieldModel", "now", "()I"⟩ ∈ pw_T := (pw_in 3326 (by decide +kernel) rfl)
set_option maxRecDepth 100000 in
theorem ko_Mo_now : Cond.code ⟨"RoutingFieldModel", "now", "()I"⟩ prog_14_method_184_code 1 (some .int) ∈ pw_T := (pw_in 3327 rfl rfl)
set_option maxRecDepth 100000 in
theorem kD_Mo_now : ∀ q ∈ kC_Mo_now, decode prog_14_method_184_code q.1 = .ok (q.2, pm_len q.1 q.2) := by decide +kernel
set_option maxRecDepth 100000 in
theorem kW_Mo_now (l : Launch) (D : va_G) (base : Nat) (sa : Nat → Nat) : pm_Met l D kcl base (kZ sa) ⟨"RoutingFieldModel", "now", "()I"⟩ (.code ⟨"RoutingFieldModel", "now", "()I"⟩ prog_14_method_184_code 1 (some .int) :: pw_T) 0 0 (kP_Mo_now base sa) := by
  refine pm_met (by decide) rfl rfl ?_
  intro mc ms p e s m args below meth c hx hb hml hown hnm hts hbs hZ
  have ht : ∀ w ∈ pw_T, w.before args s = true := fun w h => hts w (List.mem_cons_of_mem _ h)
  exact ⟨hx, hb, hown, hbs, pm_look_all kD_Mo_now, kf_ok (init := false) ht hZ kF_Mo_ok (fun h => by cases h), km_ok ht kM_Mo_ok, kci_ok ht kI_Mo_ok, kli_ok ht kJ_Mo_ok, kar_ok ht hZ kA_Mo_ok,
    pm_look_all (fun _ h => absurd h List.not_mem_nil),
    hZ, kst_ok ht hZ (kS_Mo_ok sa), knar_ok ht, ktx_ok (kE_Mo_ok sa)⟩
