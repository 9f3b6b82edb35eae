set_option maxRecDepth 100000 in
theorem kD_Mo_oracle_0 : ∀ q ∈ kC_Mo_oracle_0, decode prog_14_method_176_code q.1 = .ok (q.2, pm_len q.1 q.2) := by decide +kernel
set_option maxRecDepth 100000 in
theorem kD_Mo_oracle_1 : ∀ q ∈ kC_Mo_oracle_1, decode prog_14_method_176_code q.1 = .ok (q.2, pm_len q.1 q.2) := by decide +kernel
set_option maxRecDepth 100000 in
theorem kD_Mo_oracle_2 : ∀ q ∈ kC_Mo_oracle_2, decode prog_14_method_176_code q.1 = .ok (q.2, pm_len q.1 q.2) := by decide +kernel
set_option maxRecDepth 100000 in
theorem kD_Mo_oracle_3 : ∀ q ∈ kC_Mo_oracle_3, decode prog_14_method_176_code q.1 = .ok (q.2, pm_len q.1 q.2) := by decide +kernel
set_option maxRecDepth 100000 in
theorem kD_Mo_oracle_4 : ∀ q ∈ kC_Mo_oracle_4, decode prog_14_method_176_code q.1 = .ok (q.2, pm_len q.1 q.2) := by decide +kernel
theorem kD_Mo_oracle : ∀ q ∈ kC_Mo_oracle, decode prog_14_method_176_code q.1 = .ok (q.2, pm_len q.1 q.2) := List.forall_mem_append.mpr ⟨kD_Mo_oracle_0, List.forall_mem_append.mpr ⟨kD_Mo_oracle_1, List.forall_mem_append.mpr ⟨kD_Mo_oracle_2, List.forall_mem_append.mpr ⟨kD_Mo_oracle_3, kD_Mo_oracle_4⟩⟩⟩⟩
set_option maxRecDepth 100000 in
theorem kW_Mo_oracle (l : Launch) (D : va_G) (base : Nat) (sa : Nat → Nat) : pm_Met l D kcl base (kZ sa) ⟨"RoutingFieldModel", "oracle", "(I)I"⟩ (.code ⟨"RoutingFieldModel", "oracle", "(I)I"⟩ prog_14_method_176_code 16 (some .int) :: pw_T) 5 117 (kP_Mo_oracle base sa) := by
  refine pm_met (by decide) rfl rfl ?_
  intro mc ms p e s m args below meth c hx hb hml hown hnm hts hbs hZ
  have ht : ∀ w ∈ pw_T, w.before args s = true := fun w h => hts w (List.mem_cons_of_mem _ h)
  exact ⟨hx, hb, hown, hbs, pm_look_all kD_Mo_oracle, kf_ok (init := false) ht hZ kF_Mo_ok (fun h => by cases h), km_ok ht kM_Mo_ok, kci_ok ht kI_Mo_ok, kli_ok ht kJ_Mo_ok, kar_ok ht hZ kA_Mo_ok,
    pm_look_all (List.forall_mem_cons.mpr ⟨pm_cokV hbs hZ ⟨hx, hb, hml, hown, hts⟩ (kW_Mo_takeAddress l D base sa) (fun mc ms => cwV 0 hts (pw_gV (pw_in 3282 (w := .methodLink "RoutingFieldModel" 1237 ⟨"RoutingFieldModel", "takeAddress", "()Z"⟩) (by decide +kernel) rfl) (pw_in 3284 (by decide +kernel) rfl) (pw_sel 248 (q := (⟨"RoutingFieldModel", "takeAddress", "()Z"⟩, 166)) (by decide +kernel)) (pw_in 6 (by decide +kernel) rfl) (pw_in 3285 rfl rfl)) rfl rfl rfl (by decide +kernel) ⟨Nat.le_of_ble_eq_true rfl, Nat.le_of_ble_eq_true rfl⟩) (ci := 12) rfl, List.forall_mem_cons.mpr ⟨pm_cokV hbs hZ ⟨hx, hb, hml, hown, hts⟩ (kW_Mo_isRouter l D base sa) (fun mc ms => cwV 1 hts (pw_gV (pw_in 3145 (w := .methodLink "RoutingFieldModel" 1177 ⟨"RoutingFieldModel", "isRouter", "(I)Z"⟩) (by decide +kernel) rfl) (pw_in 3147 (by decide +kernel) rfl) (pw_sel 219 (q := (⟨"RoutingFieldModel", "isRouter", "(I)Z"⟩, 166)) (by decide +kernel)) (pw_in 6 (by decide +kernel) rfl) (pw_in 3148 rfl rfl)) rfl rfl rfl (by decide +kernel) ⟨Nat.le_of_ble_eq_true rfl, Nat.le_of_ble_eq_true rfl⟩) (ci := 12) rfl, List.forall_mem_cons.mpr ⟨pm_cokV hbs hZ ⟨hx, hb, hml, hown, hts⟩ (kW_Mo_longestOfAll l D base sa) (fun mc ms => cwV 0 hts (pw_gV (pw_in 3286 (w := .methodLink "RoutingFieldModel" 1241 ⟨"RoutingFieldModel", "longestOfAll", "()I"⟩) (by decide +kernel) rfl) (pw_in 3288 (by decide +kernel) rfl) (pw_sel 249 (q := (⟨"RoutingFieldModel", "longestOfAll", "()I"⟩, 166)) (by decide +kernel)) (pw_in 6 (by decide +kernel) rfl) (pw_in 3289 rfl rfl)) rfl rfl rfl (by decide +kernel) ⟨Nat.le_of_ble_eq_true rfl, Nat.le_of_ble_eq_true rfl⟩) (ci := 12) rfl, List.forall_mem_cons.mpr ⟨pm_cokS hbs hZ ⟨hx, hb, hml, hown, hts⟩ (kW_Mo_maskHigh l D base sa) (fun mc ms => va_cwS 1 hts (pw_gS (pw_in 2653 (w := .methodLink "RoutingFieldModel" 433 ⟨"RoutingFieldModel", "maskHigh", "(I)J"⟩) (by decide +kernel) rfl) (pw_in 2654 (by decide +kernel) rfl) (pw_in 6 (by decide +kernel) rfl) (pw_in 2655 rfl rfl)) rfl rfl rfl (by decide +kernel) ⟨Nat.le_of_ble_eq_true rfl, Nat.le_of_ble_eq_true rfl⟩), List.forall_mem_cons.mpr ⟨pm_cokS hbs hZ ⟨hx, hb, hml, hown, hts⟩ (kW_Mo_maskLow l D base sa) (fun mc ms => va_cwS 1 hts (pw_gS (pw_in 2657 (w := .methodLink "RoutingFieldModel" 437 ⟨"RoutingFieldModel", "maskLow", "(I)J"⟩) (by decide +kernel) rfl) (pw_in 2658 (by decide +kernel) rfl) (pw_in 6 (by decide +kernel) rfl) (pw_in 2659 rfl rfl)) rfl rfl rfl (by decide +kernel) ⟨Nat.le_of_ble_eq_true rfl, Nat.le_of_ble_eq_true rfl⟩), List.forall_mem_cons.mpr ⟨pm_cokV hbs hZ ⟨hx, hb, hml, hown, hts⟩ (kW_Mo_isDue l D base sa) (fun mc ms => cwV 5 hts (pw_gV (pw_in 2645 (w := .methodLink "RoutingFieldModel" 795 ⟨"RoutingFieldModel", "isDue", "(IIJJI)Z"⟩) (by decide +kernel) rfl) (pw_in 2647 (by decide +kernel) rfl) (pw_sel 137 (q := (⟨"RoutingFieldModel", "isDue", "(IIJJI)Z"⟩, 166)) (by decide +kernel)) (pw_in 6 (by decide +kernel) rfl) (pw_in 2648 rfl rfl)) rfl rfl rfl (by decide +kernel) ⟨Nat.le_of_ble_eq_true rfl, Nat.le_of_ble_eq_true rfl⟩) (ci := 12) rfl, List.forall_mem_cons.mpr ⟨pm_cokV hbs hZ ⟨hx, hb, hml, hown, hts⟩ (kW_Mo_leastAt l D base sa) (fun mc ms => cwV 3 hts (pw_gV (pw_in 3295 (w := .methodLink "RoutingFieldModel" 1246 ⟨"RoutingFieldModel", "leastAt", "(III)J"⟩) (by decide +kernel) rfl) (pw_in 3297 (by decide +kernel) rfl) (pw_sel 251 (q := (⟨"RoutingFieldModel", "leastAt", "(III)J"⟩, 166)) (by decide +kernel)) (pw_in 6 (by decide +kernel) rfl) (pw_in 3298 rfl rfl)) rfl rfl rfl (by decide +kernel) ⟨Nat.le_of_ble_eq_true rfl, Nat.le_of_ble_eq_true rfl⟩) (ci := 12) rfl, fun _ h => absurd h List.not_mem_nil⟩⟩⟩⟩⟩⟩⟩),
    hZ, kst_ok ht hZ (kS_Mo_ok sa), knar_ok ht, ktx_ok (kE_Mo_ok sa)⟩
set_option maxRecDepth 100000 in
theorem kD_Mo_way_0 : ∀ q ∈ kC_Mo_way_0, decode prog_14_method_178_code q.1 = .ok (q.2, pm_len q.1 q.2) := by decide +kernel
set_option maxRecDepth 100000 in
theorem kD_Mo_way_1 : ∀ q ∈ kC_Mo_way_1, decode prog_14_method_178_code q.1 = .ok (q.2, pm_len q.1 q.2) := by decide +kernel
theorem kD_Mo_way : ∀ q ∈ kC_Mo_way, decode prog_14_method_178_code q.1 = .ok (q.2, pm_len q.1 q.2) := List.forall_mem_append.mpr ⟨kD_Mo_way_0, kD_Mo_way_1⟩
set_option maxRecDepth 100000 in
theorem kW_Mo_way (l : Launch) (D : va_G) (base : Nat) (sa : Nat → Nat) : pm_Met l D kcl base (kZ sa) ⟨"RoutingFieldModel", "way", "(I)I"⟩ (.code ⟨"RoutingFieldModel", "way", "(I)I"⟩ prog_14_method_178_code 6 (some .int) :: pw_T) 6 145 (kP_Mo_way base sa) := by
  refine pm_met (by decide) rfl rfl ?_
  intro mc ms p e s m args below meth c hx hb hml hown hnm hts hbs hZ
  have ht : ∀ w ∈ pw_T, w.before args s = true := fun w h => hts w (List.mem_cons_of_mem _ h)
  exact ⟨hx, hb, hown, hbs, pm_look_all kD_Mo_way, kf_ok (init := false) ht hZ kF_Mo_ok (fun h => by cases h), km_ok ht kM_Mo_ok, kci_ok ht kI_Mo_ok, kli_ok ht kJ_Mo_ok, kar_ok ht hZ kA_Mo_ok,
    pm_look_all (List.forall_mem_cons.mpr ⟨pm_cokV hbs hZ ⟨hx, hb, hml, hown, hts⟩ (kW_Mo_takeAddress l D base sa) (fun mc ms => cwV 0 hts (pw_gV (pw_in 3282 (w := .methodLink "RoutingFieldModel" 1237 ⟨"RoutingFieldModel", "takeAddress", "()Z"⟩) (by decide +kernel) rfl) (pw_in 3284 (by decide +kernel) rfl) (pw_sel 248 (q := (⟨"RoutingFieldModel", "takeAddress", "()Z"⟩, 166)) (by decide +kernel)) (pw_in 6 (by decide +kernel) rfl) (pw_in 3285 rfl rfl)) rfl rfl rfl (by decide +kernel) ⟨Nat.le_of_ble_eq_true rfl, Nat.le_of_ble_eq_true rfl⟩) (ci := 12) rfl, List.forall_mem_cons.mpr ⟨pm_cokV hbs hZ ⟨hx, hb, hml, hown, hts⟩ (kW_Mo_isRouter l D base sa) (fun mc ms => cwV 1 hts (pw_gV (pw_in 3145 (w := .methodLink "RoutingFieldModel" 1177 ⟨"RoutingFieldModel", "isRouter", "(I)Z"⟩) (by decide +kernel) rfl) (pw_in 3147 (by decide +kernel) rfl) (pw_sel 219 (q := (⟨"RoutingFieldModel", "isRouter", "(I)Z"⟩, 166)) (by decide +kernel)) (pw_in 6 (by decide +kernel) rfl) (pw_in 3148 rfl rfl)) rfl rfl rfl (by decide +kernel) ⟨Nat.le_of_ble_eq_true rfl, Nat.le_of_ble_eq_true rfl⟩) (ci := 12) rfl, List.forall_mem_cons.mpr ⟨pm_cokV hbs hZ ⟨hx, hb, hml, hown, hts⟩ (kW_Mo_isLonger l D base sa) (fun mc ms => cwV 5 hts (pw_gV (pw_in 3290 (w := .methodLink "RoutingFieldModel" 1233 ⟨"RoutingFieldModel", "isLonger", "(IJJII)Z"⟩) (by decide +kernel) rfl) (pw_in 3292 (by decide +kernel) rfl) (pw_sel 250 (q := (⟨"RoutingFieldModel", "isLonger", "(IJJII)Z"⟩, 166)) (by decide +kernel)) (pw_in 6 (by decide +kernel) rfl) (pw_in 3293 rfl rfl)) rfl rfl rfl (by decide +kernel) ⟨Nat.le_of_ble_eq_true rfl, Nat.le_of_ble_eq_true rfl⟩) (ci := 12) rfl, List.forall_mem_cons.mpr ⟨pm_cokV hbs hZ ⟨hx, hb, hml, hown, hts⟩ (kW_Mo_sayRoute l D base sa) (fun mc ms => cwV 1 hts (pw_gV (pw_in 3149 (w := .methodLink "RoutingFieldModel" 1180 ⟨"RoutingFieldModel", "sayRoute", "(I)V"⟩) (by decide +kernel) rfl) (pw_in 3151 (by decide +kernel) rfl) (pw_sel 220 (q := (⟨"RoutingFieldModel", "sayRoute", "(I)V"⟩, 166)) (by decide +kernel)) (pw_in 6 (by decide +kernel) rfl) (pw_in 3152 rfl rfl)) rfl rfl rfl (by decide +kernel) ⟨Nat.le_of_ble_eq_true rfl, Nat.le_of_ble_eq_true rfl⟩) (ci := 12) rfl, List.forall_mem_cons.mpr ⟨pm_cokV hbs hZ ⟨hx, hb, hml, hown, hts⟩ (kW_Mo_shown l D base sa) (fun mc ms => cwV 0 hts (pw_gV (pw_in 3217 (w := .methodLink "RoutingFieldModel" 1189 ⟨"RoutingFieldModel", "shown", "()I"⟩) (by decide +kernel) rfl) (pw_in 3219 (by decide +kernel) rfl) (pw_sel 234 (q := (⟨"RoutingFieldModel", "shown", "()I"⟩, 166)) (by decide +kernel)) (pw_in 6 (by decide +kernel) rfl) (pw_in 3220 rfl rfl)) rfl rfl rfl (by decide +kernel) ⟨Nat.le_of_ble_eq_true rfl, Nat.le_of_ble_eq_true rfl⟩) (ci := 12) rfl, fun _ h => absurd h List.not_mem_nil⟩⟩⟩⟩⟩),
    hZ, kst_ok ht hZ (kS_Mo_ok sa), knar_ok ht, ktx_ok (kE_Mo_ok sa)⟩
set_option maxRecDepth 100000 in
theorem kD_Mo_seen : ∀ q ∈ kC_Mo_seen, decode prog_14_method_179_code q.1 = .ok (q.2, pm_len q.1 q.2) := by decide +kernel
set_option maxRecDepth 100000 in
theorem kW_Mo_seen (l : Launch) (D : va_G) (base : Nat) (sa : Nat → Nat) : pm_Met l D kcl base (kZ sa) ⟨"RoutingFieldModel", "seen", "(I)I"⟩ (.code ⟨"RoutingFieldModel", "seen", "(I)I"⟩ prog_14_method_179_code 3 (some .int) :: pw_T) 1 23 (kP_Mo_seen base sa) := by
  refine pm_met (by decide) rfl rfl ?_
  intro mc ms p e s m args below meth c hx hb hml hown hnm hts hbs hZ
  have ht : ∀ w ∈ pw_T, w.before args s = true := fun w h => hts w (List.mem_cons_of_mem _ h)
  exact ⟨hx, hb, hown, hbs, pm_look_all kD_Mo_seen, kf_ok (init := false) ht hZ kF_Mo_ok (fun h => by cases h), km_ok ht kM_Mo_ok, kci_ok ht kI_Mo_ok, kli_ok ht kJ_Mo_ok, kar_ok ht hZ kA_Mo_ok,
    pm_look_all (List.forall_mem_cons.mpr ⟨pm_cokV hbs hZ ⟨hx, hb, hml, hown, hts⟩ (kW_Mo_say l D base sa) (fun mc ms => cwV 1 hts (pw_gV (pw_in 3161 (w := .methodLink "RoutingFieldModel" 1119 ⟨"RoutingFieldModel", "say", "(I)V"⟩) (by decide +kernel) rfl) (pw_in 3163 (by decide +kernel) rfl) (pw_sel 223 (q := (⟨"RoutingFieldModel", "say", "(I)V"⟩, 166)) (by decide +kernel)) (pw_in 6 (by decide +kernel) rfl) (pw_in 3164 rfl rfl)) rfl rfl rfl (by decide +kernel) ⟨Nat.le_of_ble_eq_true rfl, Nat.le_of_ble_eq_true rfl⟩) (ci := 12) rfl, List.forall_mem_cons.mpr ⟨pm_cokV hbs hZ ⟨hx, hb, hml, hown, hts⟩ (kW_Mo_shown l D base sa) (fun mc ms => cwV 0 hts (pw_gV (pw_in 3217 (w := .methodLink "RoutingFieldModel" 1189 ⟨"RoutingFieldModel", "shown", "()I"⟩) (by decide +kernel) rfl) (pw_in 3219 (by decide +kernel) rfl) (pw_sel 234 (q := (⟨"RoutingFieldModel", "shown", "()I"⟩, 166)) (by decide +kernel)) (pw_in 6 (by decide +kernel) rfl) (pw_in 3220 rfl rfl)) rfl rfl rfl (by decide +kernel) ⟨Nat.le_of_ble_eq_true rfl, Nat.le_of_ble_eq_true rfl⟩) (ci := 12) rfl, fun _ h => absurd h List.not_mem_nil⟩⟩),
    hZ, kst_ok ht hZ (kS_Mo_ok sa), knar_ok ht, ktx_ok (kE_Mo_ok sa)⟩
set_option maxRecDepth 100000 in
theorem kD_Mo_textAt : ∀ q ∈ kC_Mo_textAt, decode prog_14_method_180_code q.1 = .ok (q.2, pm_len q.1 q.2) := by decide +kernel
set_option maxRecDepth 100000 in
theorem kW_Mo_textAt (l : Launch) (D : va_G) (base : Nat) (sa : Nat → Nat) : pm_Met l D kcl base (kZ sa) ⟨"RoutingFieldModel", "textAt", "(I)I"⟩ (.code ⟨"RoutingFieldModel", "textAt", "(I)I"⟩ prog_14_method_180_code 2 (some .int) :: pw_T) 0 0 (kP_Mo_textAt base sa) := by
  refine pm_met (by decide) rfl rfl ?_
  intro mc ms p e s m args below meth c hx hb hml hown hnm hts hbs hZ
  have ht : ∀ w ∈ pw_T, w.before args s = true := fun w h => hts w (List.mem_cons_of_mem _ h)
  exact ⟨hx, hb, hown, hbs, pm_look_all kD_Mo_textAt, kf_ok (init := false) ht hZ kF_Mo_ok (fun h => by cases h), km_ok ht kM_Mo_ok, kci_ok ht kI_Mo_ok, kli_ok ht kJ_Mo_ok, kar_ok ht hZ kA_Mo_ok,
    pm_look_all (fun _ h => absurd h List.not_mem_nil),
    hZ, kst_ok ht hZ (kS_Mo_ok sa), knar_ok ht, ktx_ok (kE_Mo_ok sa)⟩
set_option maxRecDepth 100000 in
theorem kD_Mo_count : ∀ q ∈ kC_Mo_count, decode prog_14_method_181_code q.1 = .ok (q.2, pm_len q.1 q.2) := by decide +kernel
set_option maxRecDepth 100000 in
theorem kW_Mo_count (l : Launch) (D : va_G) (base : Nat) (sa : Nat → Nat) : pm_Met l D kcl base (kZ sa) ⟨"RoutingFieldModel", "count", "(II)I"⟩ (.code ⟨"RoutingFieldModel", "count", "(II)I"⟩ prog_14_method_181_code 3 (some .int) :: pw_T) 1 21 (kP_Mo_count base sa) := by
  refine pm_met (by decide) rfl rfl ?_
  intro mc ms p e s m args below meth c hx hb hml hown hnm hts hbs hZ
  have ht : ∀ w ∈ pw_T, w.before args s = true := fun w h => hts w (List.mem_cons_of_mem _ h)
  exact ⟨hx, hb, hown, hbs, pm_look_all kD_Mo_count, kf_ok (init := false) ht hZ kF_Mo_ok (fun h => by cases h), km_ok ht kM_Mo_ok, kci_ok ht kI_Mo_ok, kli_ok ht kJ_Mo_ok, kar_ok ht hZ kA_Mo_ok,
    pm_look_all (List.forall_mem_cons.mpr ⟨pm_cokV hbs hZ ⟨hx, hb, hml, hown, hts⟩ (kW_Mo_isRouter l D base sa) (fun mc ms => cwV 1 hts (pw_gV (pw_in 3145 (w := .methodLink "RoutingFieldModel" 1177 ⟨"RoutingFieldModel", "isRouter", "(I)Z"⟩) (by decide +kernel) rfl) (pw_in 3147 (by decide +kernel) rfl) (pw_sel 219 (q := (⟨"RoutingFieldModel", "isRouter", "(I)Z"⟩, 166)) (by decide +kernel)) (pw_in 6 (by decide +kernel) rfl) (pw_in 3148 rfl rfl)) rfl rfl rfl (by decide +kernel) ⟨Nat.le_of_ble_eq_true rfl, Nat.le_of_ble_eq_true rfl⟩) (ci := 12) rfl, fun _ h => absurd h List.not_mem_nil⟩),
    hZ, kst_ok ht hZ (kS_Mo_ok sa), knar_ok ht, ktx_ok (kE_Mo_ok sa)⟩
set_option maxRecDepth 100000 in
theorem kD_Mo_routes : ∀ q ∈ kC_Mo_routes, decode prog_14_method_182_code q.1 = .ok (q.2, pm_len q.1 q.2) := by decide +kernel
set_option maxRecDepth 100000 in
theorem kW_Mo_routes (l : Launch) (D : va_G) (base : Nat) (sa : Nat → Nat) : pm_Met l D kcl base (kZ sa) ⟨"RoutingFieldModel", "routes", "(I)I"⟩ (.code ⟨"RoutingFieldModel", "routes", "(I)I"⟩ prog_14_method_182_code 2 (some .int) :: pw_T) 1 21 (kP_Mo_routes base sa) := by
  refine pm_met (by decide) rfl rfl ?_
  intro mc ms p e s m args below meth c hx hb hml hown hnm hts hbs hZ
  have ht : ∀ w ∈ pw_T, w.before args s = true := fun w h => hts w (List.mem_cons_of_mem _ h)
  exact ⟨hx, hb, hown, hbs, pm_look_all kD_Mo_routes, kf_ok (init := false) ht hZ kF_Mo_ok (fun h => by cases h), km_ok ht kM_Mo_ok, kci_ok ht kI_Mo_ok, kli_ok ht kJ_Mo_ok, kar_ok ht hZ kA_Mo_ok,
    pm_look_all (List.forall_mem_cons.mpr ⟨pm_cokV hbs hZ ⟨hx, hb, hml, hown, hts⟩ (kW_Mo_isRouter l D base sa) (fun mc ms => cwV 1 hts (pw_gV (pw_in 3145 (w := .methodLink "RoutingFieldModel" 1177 ⟨"RoutingFieldModel", "isRouter", "(I)Z"⟩) (by decide +kernel) rfl) (pw_in 3147 (by decide +kernel) rfl) (pw_sel 219 (q := (⟨"RoutingFieldModel", "isRouter", "(I)Z"⟩, 166)) (by decide +kernel)) (pw_in 6 (by decide +kernel) rfl) (pw_in 3148 rfl rfl)) rfl rfl rfl (by decide +kernel) ⟨Nat.le_of_ble_eq_true rfl, Nat.le_of_ble_eq_true rfl⟩) (ci := 12) rfl, fun _ h => absurd h List.not_mem_nil⟩),
    hZ, kst_ok ht hZ (kS_Mo_ok sa), knar_ok ht, ktx_ok (kE_Mo_ok sa)⟩
set_option maxRecDepth 100000 in
theorem kD_Mo_flying : ∀ q ∈ kC_Mo_flying, decode prog_14_method_183_code q.1 = .ok (q.2, pm_len q.1 q.2) := by decide +kernel
set_option maxRecDepth 100000 in
theorem kW_Mo_flying (l : Launch) (D : va_G) (base : Nat) (sa : Nat → Nat) : pm_Met l D kcl base (kZ sa) ⟨"RoutingFieldModel", "flying", "()I"⟩ (.code ⟨"RoutingFieldModel", "flying", "()I"⟩ prog_14_method_183_code 1 (some .int) :: pw_T) 0 0 (kP_Mo_flying base sa) := by
  refine pm_met (by decide) rfl rfl ?_
  intro mc ms p e s m args below meth c hx hb hml hown hnm hts hbs hZ
  have ht : ∀ w ∈ pw_T, w.before args s = true := fun w h => hts w (List.mem_cons_of_mem _ h)
  exact ⟨hx, hb, hown, hbs, pm_look_all kD_Mo_flying, kf_ok (init := false) ht hZ kF_Mo_ok (fun h => by cases h), km_ok ht kM_Mo_ok, kci_ok ht kI_Mo_ok, kli_ok ht kJ_Mo_ok, kar_ok ht hZ kA_Mo_ok,
    pm_look_all (fun _ h => absurd h List.not_mem_nil),
    hZ, kst_ok ht hZ (kS_Mo_ok sa), knar_ok ht, ktx_ok (kE_Mo_ok sa)⟩
set_option maxRecDepth 100000 in
theorem kD_Mo_now : ∀ q ∈ kC_Mo_now, decode prog_14_method_184_code q.1 = .ok (q.2, pm_len q.1 q.2) := by decide +kernel
set_option maxRecDepth 100000 in
theorem kW_Mo_now (l : Launch) (D : va_G) (base : Nat) (sa : Nat → Nat) : pm_Met l D kcl base (kZ sa) ⟨"RoutingFieldModel", "now", "()I"⟩ (.code ⟨"RoutingFieldModel", "now", "()I"⟩ prog_14_method_184_code 1 (some .int) :: pw_T) 0 0 (kP_Mo_now base sa) := by
  refine pm_met (by decide) rfl rfl ?_
  intro mc ms p e s m args below meth c hx hb hml hown hnm hts hbs hZ
  have ht : ∀ w ∈ pw_T, w.before args s = true := fun w h => hts w (List.mem_cons_of_mem _ h)
  exact ⟨hx, hb, hown, hbs, pm_look_all kD_Mo_now, kf_ok (init := false) ht hZ kF_Mo_ok (fun h => by cases h), km_ok ht kM_Mo_ok, kci_ok ht kI_Mo_ok, kli_ok ht kJ_Mo_ok, kar_ok ht hZ kA_Mo_ok,
    pm_look_all (fun _ h => absurd h List.not_mem_nil),
    hZ, kst_ok ht hZ (kS_Mo_ok sa), knar_ok ht, ktx_ok (kE_Mo_ok sa)⟩
