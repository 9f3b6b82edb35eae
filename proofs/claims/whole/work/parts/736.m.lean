set_option maxRecDepth 100000 in
theorem ki_Mo_saySummaries : Cond.instanceMethod ⟨"RoutingFieldModel", "saySummaries", "(I)V"⟩ ∈ pw_T := (pw_in 3271 (by decide +kernel) rfl)
set_option maxRecDepth 100000 in
theorem ks_Mo_saySummaries : Cond.selects "RoutingFieldModel" ⟨"RoutingFieldModel", "saySummaries", "(I)V"⟩ ⟨"RoutingFieldModel", "saySummaries", "(I)V"⟩ ∈ pw_T := (pw_sel 246 (q := (⟨"RoutingFieldModel", "saySummaries", "(I)V"⟩, 166)) (by decide +kernel))
set_option maxRecDepth 100000 in
theorem ko_Mo_saySummaries : Cond.code ⟨"RoutingFieldModel", "saySummaries", "(I)V"⟩ prog_14_method_169_code 3 none ∈ pw_T := (pw_in 3272 rfl rfl)
set_option maxRecDepth 100000 in
theorem kD_Mo_saySummaries_0 : ∀ q ∈ kC_Mo_saySummaries_0, decode prog_14_method_169_code q.1 = .ok (q.2, pm_len q.1 q.2) := by decide +kernel
set_option maxRecDepth 100000 in
theorem kD_Mo_saySummaries_1 : ∀ q ∈ kC_Mo_saySummaries_1, decode prog_14_method_169_code q.1 = .ok (q.2, pm_len q.1 q.2) := by decide +kernel
set_option maxRecDepth 100000 in
theorem kD_Mo_saySummaries_2 : ∀ q ∈ kC_Mo_saySummaries_2, decode prog_14_method_169_code q.1 = .ok (q.2, pm_len q.1 q.2) := by decide +kernel
theorem kD_Mo_saySummaries : ∀ q ∈ kC_Mo_saySummaries, decode prog_14_method_169_code q.1 = .ok (q.2, pm_len q.1 q.2) := List.forall_mem_append.mpr ⟨kD_Mo_saySummaries_0, List.forall_mem_append.mpr ⟨kD_Mo_saySummaries_1, kD_Mo_saySummaries_2⟩⟩
set_option maxRecDepth 100000 in
theorem kW_Mo_saySummaries (l : Launch) (D : va_G) (base : Nat) (sa : Nat → Nat) : pm_Met l D kcl base (kZ sa) ⟨"RoutingFieldModel", "saySummaries", "(I)V"⟩ (.code ⟨"RoutingFieldModel", "saySummaries", "(I)V"⟩ prog_14_method_169_code 3 none :: pw_T) 6 150 (kP_Mo_saySummaries base sa) := by
  refine pm_met (by decide) rfl rfl ?_
  intro mc ms p e s m args below meth c hx hb hml hown hnm hts hbs hZ
  have ht : ∀ w ∈ pw_T, w.before args s = true := fun w h => hts w (List.mem_cons_of_mem _ h)
  exact ⟨hx, hb, hown, hbs, pm_look_all kD_Mo_saySummaries, kf_ok (init := false) ht hZ kF_Mo_ok (fun h => by cases h), km_ok ht kM_Mo_ok, kci_ok ht kI_Mo_ok, kli_ok ht kJ_Mo_ok, kar_ok ht hZ kA_Mo_ok,
    pm_look_all (List.forall_mem_cons.mpr ⟨pm_cokV hbs hZ ⟨hx, hb, hml, hown, hts⟩ (kW_Mo_beginAt l D base sa) (fun mc ms => cwV 2 hts (pw_gV (pw_in 3245 (w := .methodLink "RoutingFieldModel" 1196 ⟨"RoutingFieldModel", "beginAt", "(JI)V"⟩) (by decide +kernel) rfl) ki_Mo_beginAt ks_Mo_beginAt kn_Mo ko_Mo_beginAt) rfl rfl rfl (by decide +kernel) ⟨Nat.le_of_ble_eq_true rfl, Nat.le_of_ble_eq_true rfl⟩) (ci := 12) rfl, List.forall_mem_cons.mpr ⟨pm_cokV hbs hZ ⟨hx, hb, hml, hown, hts⟩ (kW_Mo_wordPrefix l D base sa) (fun mc ms => cwV 4 hts (pw_gV (pw_in 3213 (w := .methodLink "RoutingFieldModel" 1163 ⟨"RoutingFieldModel", "wordPrefix", "(IJJI)V"⟩) (by decide +kernel) rfl) ki_Mo_wordPrefix ks_Mo_wordPrefix kn_Mo ko_Mo_wordPrefix) rfl rfl rfl (by decide +kernel) ⟨Nat.le_of_ble_eq_true rfl, Nat.le_of_ble_eq_true rfl⟩) (ci := 12) rfl, List.forall_mem_cons.mpr ⟨pm_cokV hbs hZ ⟨hx, hb, hml, hown, hts⟩ (kW_Mo_say l D base sa) (fun mc ms => cwV 1 hts (pw_gV (pw_in 3161 (w := .methodLink "RoutingFieldModel" 1119 ⟨"RoutingFieldModel", "say", "(I)V"⟩) (by decide +kernel) rfl) ki_Mo_say ks_Mo_say kn_Mo ko_Mo_say) rfl rfl rfl (by decide +kernel) ⟨Nat.le_of_ble_eq_true rfl, Nat.le_of_ble_eq_true rfl⟩) (ci := 12) rfl, List.forall_mem_cons.mpr ⟨pm_cokV hbs hZ ⟨hx, hb, hml, hown, hts⟩ (kW_Mo_space l D base sa) (fun mc ms => cwV 0 hts (pw_gV (pw_in 3181 (w := .methodLink "RoutingFieldModel" 1137 ⟨"RoutingFieldModel", "space", "()V"⟩) (by decide +kernel) rfl) ki_Mo_space ks_Mo_space kn_Mo ko_Mo_space) rfl rfl rfl (by decide +kernel) ⟨Nat.le_of_ble_eq_true rfl, Nat.le_of_ble_eq_true rfl⟩) (ci := 12) rfl, List.forall_mem_cons.mpr ⟨pm_cokV hbs hZ ⟨hx, hb, hml, hown, hts⟩ (kW_Mo_sayAddress l D base sa) (fun mc ms => cwV 3 hts (pw_gV (pw_in 3157 (w := .methodLink "RoutingFieldModel" 1133 ⟨"RoutingFieldModel", "sayAddress", "(IJJ)V"⟩) (by decide +kernel) rfl) ki_Mo_sayAddress ks_Mo_sayAddress kn_Mo ko_Mo_sayAddress) rfl rfl rfl (by decide +kernel) ⟨Nat.le_of_ble_eq_true rfl, Nat.le_of_ble_eq_true rfl⟩) (ci := 12) rfl, List.forall_mem_cons.mpr ⟨pm_cokV hbs hZ ⟨hx, hb, hml, hown, hts⟩ (kW_Mo_wordNumber l D base sa) (fun mc ms => cwV 1 hts (pw_gV (pw_in 3177 (w := .methodLink "RoutingFieldModel" 1151 ⟨"RoutingFieldModel", "wordNumber", "(I)V"⟩) (by decide +kernel) rfl) ki_Mo_wordNumber ks_Mo_wordNumber kn_Mo ko_Mo_wordNumber) rfl rfl rfl (by decide +kernel) ⟨Nat.le_of_ble_eq_true rfl, Nat.le_of_ble_eq_true rfl⟩) (ci := 12) rfl, List.forall_mem_cons.mpr ⟨pm_cokV hbs hZ ⟨hx, hb, hml, hown, hts⟩ (kW_Mo_word l D base sa) (fun mc ms => cwV 1 hts (pw_gV (pw_in 3185 (w := .methodLink "RoutingFieldModel" 1154 ⟨"RoutingFieldModel", "word", "(J)V"⟩) (by decide +kernel) rfl) ki_Mo_word ks_Mo_word kn_Mo ko_Mo_word) rfl rfl rfl (by decide +kernel) ⟨Nat.le_of_ble_eq_true rfl, Nat.le_of_ble_eq_true rfl⟩) (ci := 12) rfl, fun _ h => absurd h List.not_mem_nil⟩⟩⟩⟩⟩⟩⟩),
    hZ, kst_ok ht hZ (kS_Mo_ok sa), knar_ok ht, ktx_ok (kE_Mo_ok sa)⟩
set_option maxRecDepth 100000 in
theorem ki_Mo_sayRedistributed : Cond.instanceMethod ⟨"RoutingFieldModel", "sayRedistributed", "(II)V"⟩ ∈ pw_T := (pw_in 3275 (by decide +kernel) rfl)
set_option maxRecDepth 100000 in
theorem ks_Mo_sayRedistributed : Cond.selects "RoutingFieldModel" ⟨"RoutingFieldModel", "sayRedistributed", "(II)V"⟩ ⟨"RoutingFieldModel", "sayRedistributed", "(II)V"⟩ ∈ pw_T := (pw_sel 247 (q := (⟨"RoutingFieldModel", "sayRedistributed", "(II)V"⟩, 166)) (by decide +kernel))
set_option maxRecDepth 100000 in
theorem ko_Mo_sayRedistributed : Cond.code ⟨"RoutingFieldModel", "sayRedistributed", "(II)V"⟩ prog_14_method_170_code 3 none ∈ pw_T := (pw_in 3276 rfl rfl)
set_option maxRecDepth 100000 in
theorem kD_Mo_sayRedistributed_0 : ∀ q ∈ kC_Mo_sayRedistributed_0, decode prog_14_method_170_code q.1 = .ok (q.2, pm_len q.1 q.2) := by decide +kernel
set_option maxRecDepth 100000 in
theorem kD_Mo_sayRedistributed_1 : ∀ q ∈ kC_Mo_sayRedistributed_1, decode prog_14_method_170_code q.1 = .ok (q.2, pm_len q.1 q.2) := by decide +kernel
theorem kD_Mo_sayRedistributed : ∀ q ∈ kC_Mo_sayRedistributed, decode prog_14_method_170_code q.1 = .ok (q.2, pm_len q.1 q.2) := List.forall_mem_append.mpr ⟨kD_Mo_sayRedistributed_0, kD_Mo_sayRedistributed_1⟩
set_option maxRecDepth 100000 in
theorem kW_Mo_sayRedistributed (l : Launch) (D : va_G) (base : Nat) (sa : Nat → Nat) : pm_Met l D kcl base (kZ sa) ⟨"RoutingFieldModel", "sayRedistributed", "(II)V"⟩ (.code ⟨"RoutingFieldModel", "sayRedistributed", "(II)V"⟩ prog_14_method_170_code 3 none :: pw_T) 4 94 (kP_Mo_sayRedistributed base sa) := by
  refine pm_met (by decide) rfl rfl ?_
  intro mc ms p e s m args below meth c hx hb hml hown hnm hts hbs hZ
  have ht : ∀ w ∈ pw_T, w.before args s = true := fun w h => hts w (List.mem_cons_of_mem _ h)
  exact ⟨hx, hb, hown, hbs, pm_look_all kD_Mo_sayRedistributed, kf_ok (init := false) ht hZ kF_Mo_ok (fun h => by cases h), km_ok ht kM_Mo_ok, kci_ok ht kI_Mo_ok, kli_ok ht kJ_Mo_ok, kar_ok ht hZ kA_Mo_ok,
    pm_look_all (List.forall_mem_cons.mpr ⟨pm_cokV hbs hZ ⟨hx, hb, hml, hown, hts⟩ (kW_Mo_begin l D base sa) (fun mc ms => cwV 2 hts (pw_gV (pw_in 3237 (w := .methodLink "RoutingFieldModel" 1192 ⟨"RoutingFieldModel", "begin", "(JI)V"⟩) (by decide +kernel) rfl) ki_Mo_begin ks_Mo_begin kn_Mo ko_Mo_begin) rfl rfl rfl (by decide +kernel) ⟨Nat.le_of_ble_eq_true rfl, Nat.le_of_ble_eq_true rfl⟩) (ci := 12) rfl, List.forall_mem_cons.mpr ⟨pm_cokV hbs hZ ⟨hx, hb, hml, hown, hts⟩ (kW_Mo_word l D base sa) (fun mc ms => cwV 1 hts (pw_gV (pw_in 3185 (w := .methodLink "RoutingFieldModel" 1154 ⟨"RoutingFieldModel", "word", "(J)V"⟩) (by decide +kernel) rfl) ki_Mo_word ks_Mo_word kn_Mo ko_Mo_word) rfl rfl rfl (by decide +kernel) ⟨Nat.le_of_ble_eq_true rfl, Nat.le_of_ble_eq_true rfl⟩) (ci := 12) rfl, List.forall_mem_cons.mpr ⟨pm_cokV hbs hZ ⟨hx, hb, hml, hown, hts⟩ (kW_Mo_wordNumber l D base sa) (fun mc ms => cwV 1 hts (pw_gV (pw_in 3177 (w := .methodLink "RoutingFieldModel" 1151 ⟨"RoutingFieldModel", "wordNumber", "(I)V"⟩) (by decide +kernel) rfl) ki_Mo_wordNumber ks_Mo_wordNumber kn_Mo ko_Mo_wordNumber) rfl rfl rfl (by decide +kernel) ⟨Nat.le_of_ble_eq_true rfl, Nat.le_of_ble_eq_true rfl⟩) (ci := 12) rfl, List.forall_mem_cons.mpr ⟨pm_cokV hbs hZ ⟨hx, hb, hml, hown, hts⟩ (kW_Mo_say l D base sa) (fun mc ms => cwV 1 hts (pw_gV (pw_in 3161 (w := .methodLink "RoutingFieldModel" 1119 ⟨"RoutingFieldModel", "say", "(I)V"⟩) (by decide +kernel) rfl) ki_Mo_say ks_Mo_say kn_Mo ko_Mo_say) rfl rfl rfl (by decide +kernel) ⟨Nat.le_of_ble_eq_true rfl, Nat.le_of_ble_eq_true rfl⟩) (ci := 12) rfl, fun _ h => absurd h List.not_mem_nil⟩⟩⟩⟩),
    hZ, kst_ok ht hZ (kS_Mo_ok sa), knar_ok ht, ktx_ok (kE_Mo_ok sa)⟩
set_option maxRecDepth 100000 in
theorem ki_Mo_sayRouter : Cond.instanceMethod ⟨"RoutingFieldModel", "sayRouter", "(I)V"⟩ ∈ pw_T := (pw_in 3235 (by decide +kernel) rfl)
set_option maxRecDepth 100000 in
theorem ks_Mo_sayRouter : Cond.selects "RoutingFieldModel" ⟨"RoutingFieldModel", "sayRouter", "(I)V"⟩ ⟨"RoutingFieldModel", "sayRouter", "(I)V"⟩ ∈ pw_T := (pw_sel 237 (q := (⟨"RoutingFieldModel", "sayRouter", "(I)V"⟩, 166)) (by decide +kernel))
set_option maxRecDepth 100000 in
theorem ko_Mo_sayRouter : Cond.code ⟨"RoutingFieldModel", "sayRouter", "(I)V"⟩ prog_14_method_171_code 3 none ∈ pw_T := (pw_in 3236 rfl rfl)
set_option maxRecDepth 100000 in
theorem kD_Mo_sayRouter_0 : ∀ q ∈ kC_Mo_sayRouter_0, decode prog_14_method_171_code q.1 = .ok (q.2, pm_len q.1 q.2) := by decide +kernel
set_option maxRecDepth 100000 in
theorem kD_Mo_sayRouter_1 : ∀ q ∈ kC_Mo_sayRouter_1, decode prog_14_method_171_code q.1 = .ok (q.2, pm_len q.1 q.2) := by decide +kernel
theorem kD_Mo_sayRouter : ∀ q ∈ kC_Mo_sayRouter, decode prog_14_method_171_code q.1 = .ok (q.2, pm_len q.1 q.2) := List.forall_mem_append.mpr ⟨kD_Mo_sayRouter_0, kD_Mo_sayRouter_1⟩
set_option maxRecDepth 100000 in
theorem kW_Mo_sayRouter (l : Launch) (D : va_G) (base : Nat) (sa : Nat → Nat) : pm_Met l D kcl base (kZ sa) ⟨"RoutingFieldModel", "sayRouter", "(I)V"⟩ (.code ⟨"RoutingFieldModel", "sayRouter", "(I)V"⟩ prog_14_method_171_code 3 none :: pw_T) 8 195 (kP_Mo_sayRouter base sa) := by
  refine pm_met (by decide) rfl rfl ?_
  intro mc ms p e s m args below meth c hx hb hml hown hnm hts hbs hZ
  have ht : ∀ w ∈ pw_T, w.before args s = true := fun w h => hts w (List.mem_cons_of_mem _ h)
  exact ⟨hx, hb, hown, hbs, pm_look_all kD_Mo_sayRouter, kf_ok (init := false) ht hZ kF_Mo_ok (fun h => by cases h), km_ok ht kM_Mo_ok, kci_ok ht kI_Mo_ok, kli_ok ht kJ_Mo_ok, kar_ok ht hZ kA_Mo_ok,
    pm_look_all (List.forall_mem_cons.mpr ⟨pm_cokV hbs hZ ⟨hx, hb, hml, hown, hts⟩ (kW_Mo_begin l D base sa) (fun mc ms => cwV 2 hts (pw_gV (pw_in 3237 (w := .methodLink "RoutingFieldModel" 1192 ⟨"RoutingFieldModel", "begin", "(JI)V"⟩) (by decide +kernel) rfl) ki_Mo_begin ks_Mo_begin kn_Mo ko_Mo_begin) rfl rfl rfl (by decide +kernel) ⟨Nat.le_of_ble_eq_true rfl, Nat.le_of_ble_eq_true rfl⟩) (ci := 12) rfl, List.forall_mem_cons.mpr ⟨pm_cokV hbs hZ ⟨hx, hb, hml, hown, hts⟩ (kW_Mo_say l D base sa) (fun mc ms => cwV 1 hts (pw_gV (pw_in 3161 (w := .methodLink "RoutingFieldModel" 1119 ⟨"RoutingFieldModel", "say", "(I)V"⟩) (by decide +kernel) rfl) ki_Mo_say ks_Mo_say kn_Mo ko_Mo_say) rfl rfl rfl (by decide +kernel) ⟨Nat.le_of_ble_eq_true rfl, Nat.le_of_ble_eq_true rfl⟩) (ci := 12) rfl, List.forall_mem_cons.mpr ⟨pm_cokV hbs hZ ⟨hx, hb, hml, hown, hts⟩ (kW_Mo_wordNumber l D base sa) (fun mc ms => cwV 1 hts (pw_gV (pw_in 3177 (w := .methodLink "RoutingFieldModel" 1151 ⟨"RoutingFieldModel", "wordNumber", "(I)V"⟩) (by decide +kernel) rfl) ki_Mo_wordNumber ks_Mo_wordNumber kn_Mo ko_Mo_wordNumber) rfl rfl rfl (by decide +kernel) ⟨Nat.le_of_ble_eq_true rfl, Nat.le_of_ble_eq_true rfl⟩) (ci := 12) rfl, List.forall_mem_cons.mpr ⟨pm_cokV hbs hZ ⟨hx, hb, hml, hown, hts⟩ (kW_Mo_sayJoins l D base sa) (fun mc ms => cwV 1 hts (pw_gV (pw_in 3241 (w := .methodLink "RoutingFieldModel" 1205 ⟨"RoutingFieldModel", "sayJoins", "(I)V"⟩) (by decide +kernel) rfl) ki_Mo_sayJoins ks_Mo_sayJoins kn_Mo ko_Mo_sayJoins) rfl rfl rfl (by decide +kernel) ⟨Nat.le_of_ble_eq_true rfl, Nat.le_of_ble_eq_true rfl⟩) (ci := 12) rfl, List.forall_mem_cons.mpr ⟨pm_cokV hbs hZ ⟨hx, hb, hml, hown, hts⟩ (kW_Mo_sayStatics l D base sa) (fun mc ms => cwV 1 hts (pw_gV (pw_in 3253 (w := .methodLink "RoutingFieldModel" 1208 ⟨"RoutingFieldModel", "sayStatics", "(I)V"⟩) (by decide +kernel) rfl) ki_Mo_sayStatics ks_Mo_sayStatics kn_Mo ko_Mo_sayStatics) rfl rfl rfl (by decide +kernel) ⟨Nat.le_of_ble_eq_true rfl, Nat.le_of_ble_eq_true rfl⟩) (ci := 12) rfl, List.forall_mem_cons.mpr ⟨pm_cokV hbs hZ ⟨hx, hb, hml, hown, hts⟩ (kW_Mo_sayFilters l D base sa) (fun mc ms => cwV 1 hts (pw_gV (pw_in 3261 (w := .methodLink "RoutingFieldModel" 1211 ⟨"RoutingFieldModel", "sayFilters", "(I)V"⟩) (by decide +kernel) rfl) ki_Mo_sayFilters ks_Mo_sayFilters kn_Mo ko_Mo_sayFilters) rfl rfl rfl (by decide +kernel) ⟨Nat.le_of_ble_eq_true rfl, Nat.le_of_ble_eq_true rfl⟩) (ci := 12) rfl, List.forall_mem_cons.mpr ⟨pm_cokV hbs hZ ⟨hx, hb, hml, hown, hts⟩ (kW_Mo_sayLists l D base sa) (fun mc ms => cwV 1 hts (pw_gV (pw_in 3265 (w := .methodLink "RoutingFieldModel" 1214 ⟨"RoutingFieldModel", "sayLists", "(I)V"⟩) (by decide +kernel) rfl) ki_Mo_sayLists ks_Mo_sayLists kn_Mo ko_Mo_sayLists) rfl rfl rfl (by decide +kernel) ⟨Nat.le_of_ble_eq_true rfl, Nat.le_of_ble_eq_true rfl⟩) (ci := 12) rfl, List.forall_mem_cons.mpr ⟨pm_cokV hbs hZ ⟨hx, hb, hml, hown, hts⟩ (kW_Mo_saySummaries l D base sa) (fun mc ms => cwV 1 hts (pw_gV (pw_in 3269 (w := .methodLink "RoutingFieldModel" 1217 ⟨"RoutingFieldModel", "saySummaries", "(I)V"⟩) (by decide +kernel) rfl) ki_Mo_saySummaries ks_Mo_saySummaries kn_Mo ko_Mo_saySummaries) rfl rfl rfl (by decide +kernel) ⟨Nat.le_of_ble_eq_true rfl, Nat.le_of_ble_eq_true rfl⟩) (ci := 12) rfl, List.forall_mem_cons.mpr ⟨pm_cokV hbs hZ ⟨hx, hb, hml, hown, hts⟩ (kW_Mo_sayRedistributed l D base sa) (fun mc ms => cwV 2 hts (pw_gV (pw_in 3273 (w := .methodLink "RoutingFieldModel" 1220 ⟨"RoutingFieldModel", "sayRedistributed", "(II)V"⟩) (by decide +kernel) rfl) ki_Mo_sayRedistributed ks_Mo_sayRedistributed kn_Mo ko_Mo_sayRedistributed) rfl rfl rfl (by decide +kernel) ⟨Nat.le_of_ble_eq_true rfl, Nat.le_of_ble_eq_true rfl⟩) (ci := 12) rfl, fun _ h => absurd h List.not_mem_nil⟩⟩⟩⟩⟩⟩⟩⟩⟩),
    hZ, kst_ok ht hZ (kS_Mo_ok sa), knar_ok ht, ktx_ok (kE_Mo_ok sa)⟩
set_option maxRecDepth 100000 in
theorem ki_Mo_config : Cond.instanceMethod ⟨"RoutingFieldModel", "config", "()I"⟩ ∈ pw_T := (pw_in 3222 (by decide +kernel) rfl)
set_option maxRecDepth 100000 in
theorem ks_Mo_config : Cond.selects "RoutingFieldModel" ⟨"RoutingFieldModel", "config", "()I"⟩ ⟨"RoutingFieldModel", "config", "()I"⟩ ∈ pw_T := (pw_in 3223 (by decide +kernel) rfl)
set_option maxRecDepth 100000 in
theorem ko_Mo_config : Cond.code ⟨"RoutingFieldModel", "config", "()I"⟩ prog_14_method_172_code 3 (some .int) ∈ pw_T := (pw_in 3224 rfl rfl)
set_option maxRecDepth 100000 in
theorem kD_Mo_config_0 : ∀ q ∈ kC_Mo_config_0, decode prog_14_method_172_code q.1 = .ok (q.2, pm_len q.1 q.2) := by decide +kernel
set_option maxRecDepth 100000 in
theorem kD_Mo_config_1 : ∀ q ∈ kC_Mo_config_1, decode prog_14_method_172_code q.1 = .ok (q.2, pm_len q.1 q.2) := by decide +kernel
theorem kD_Mo_config : ∀ q ∈ kC_Mo_config, decode prog_14_method_172_code q.1 = .ok (q.2, pm_len q.1 q.2) := List.forall_mem_append.mpr ⟨kD_Mo_config_0, kD_Mo_config_1⟩
set_option maxRecDepth 100000 in
theorem kW_Mo_config (l : Launch) (D : va_G) (base : Nat) (sa : Nat → Nat) : pm_Met l D kcl base (kZ sa) ⟨"RoutingFieldModel", "config", "()I"⟩ (.code ⟨"RoutingFieldModel", "config", "()I"⟩ prog_14_method_172_code 3 (some .int) :: pw_T) 9 217 (kP_Mo_config base sa) := by
  refine pm_met (by decide) rfl rfl ?_
  intro mc ms p e s m args below meth c hx hb hml hown hnm hts hbs hZ
  have ht : ∀ w ∈ pw_T, w.before args s = true := fun w h => hts w (List.mem_cons_of_mem _ h)
  exact ⟨hx, hb, hown, hbs, pm_look_all kD_Mo_config, kf_ok (init := false) ht hZ kF_Mo_ok (fun h => by cases h), km_ok ht kM_Mo_ok, kci_ok ht kI_Mo_ok, kli_ok ht kJ_Mo_ok, kar_ok ht hZ kA_Mo_ok,
    pm_look_all (List.forall_mem_cons.mpr ⟨pm_cokV hbs hZ ⟨hx, hb, hml, hown, hts⟩ (kW_Mo_sayLink l D base sa) (fun mc ms => cwV 1 hts (pw_gV (pw_in 3225 (w := .methodLink "RoutingFieldModel" 1223 ⟨"RoutingFieldModel", "sayLink", "(I)V"⟩) (by decide +kernel) rfl) ki_Mo_sayLink ks_Mo_sayLink kn_Mo ko_Mo_sayLink) rfl rfl rfl (by decide +kernel) ⟨Nat.le_of_ble_eq_true rfl, Nat.le_of_ble_eq_true rfl⟩) (ci := 12) rfl, List.forall_mem_cons.mpr ⟨pm_cokV hbs hZ ⟨hx, hb, hml, hown, hts⟩ (kW_Mo_sayListEntry l D base sa) (fun mc ms => cwV 2 hts (pw_gV (pw_in 3229 (w := .methodLink "RoutingFieldModel" 1226 ⟨"RoutingFieldModel", "sayListEntry", "(II)V"⟩) (by decide +kernel) rfl) ki_Mo_sayListEntry ks_Mo_sayListEntry kn_Mo ko_Mo_sayListEntry) rfl rfl rfl (by decide +kernel) ⟨Nat.le_of_ble_eq_true rfl, Nat.le_of_ble_eq_true rfl⟩) (ci := 12) rfl, List.forall_mem_cons.mpr ⟨pm_cokV hbs hZ ⟨hx, hb, hml, hown, hts⟩ (kW_Mo_sayRouter l D base sa) (fun mc ms => cwV 1 hts (pw_gV (pw_in 3233 (w := .methodLink "RoutingFieldModel" 1229 ⟨"RoutingFieldModel", "sayRouter", "(I)V"⟩) (by decide +kernel) rfl) ki_Mo_sayRouter ks_Mo_sayRouter kn_Mo ko_Mo_sayRouter) rfl rfl rfl (by decide +kernel) ⟨Nat.le_of_ble_eq_true rfl, Nat.le_of_ble_eq_true rfl⟩) (ci := 12) rfl, List.forall_mem_cons.mpr ⟨pm_cokV hbs hZ ⟨hx, hb, hml, hown, hts⟩ (kW_Mo_shown l D base sa) (fun mc ms => cwV 0 hts (pw_gV (pw_in 3217 (w := .methodLink "RoutingFieldModel" 1189 ⟨"RoutingFieldModel", "shown", "()I"⟩) (by decide +kernel) rfl) ki_Mo_shown ks_Mo_shown kn_Mo ko_Mo_shown) rfl rfl rfl (by decide +kernel) ⟨Nat.le_of_ble_eq_true rfl, Nat.le_of_ble_eq_true rfl⟩) (ci := 12) rfl, fun _ h => absurd h List.not_mem_nil⟩⟩⟩⟩),
    hZ, kst_ok ht hZ (kS_Mo_ok sa), knar_ok ht, ktx_ok (kE_Mo_ok sa)⟩
set_option maxRecDepth 100000 in
theorem ki_Mo_takeAddress : Cond.instanceMethod ⟨"RoutingFieldModel", "takeAddress", "()Z"⟩ ∈ pw_T := (pw_in 3284 (by decide +kernel) rfl)
set_option maxRecDepth 100000 in
theorem ks_Mo_takeAddress : Cond.selects "RoutingFieldModel" ⟨"RoutingFieldModel", "takeAddress", "()Z"⟩ ⟨"RoutingFieldModel", "takeAddress", "()Z"⟩ ∈ pw_T := (pw_sel 248 (q := (⟨"RoutingFieldModel", "takeAddress", "()Z"⟩, 166)) (by decide +kernel))
set_option maxRecDepth 100000 in
theorem ko_Mo_takeAddress : Cond.code ⟨"RoutingFieldModel", "takeAddress", "()Z"⟩ prog_14_method_173_code 2 (some .boolean) ∈ pw_T := (pw_in 3285 rfl rfl)
set_option maxRecDepth 100000 in
theorem kD_Mo_takeAddress : ∀ q ∈ kC_Mo_takeAddress, decode prog_14_method_173_code q.1 = .ok (q.2, pm_len q.1 q.2) := by decide +kernel
set_option maxRecDepth 100000 in
theorem kW_Mo_takeAddress (l : Launch) (D : va_G) (base : Nat) (sa : Nat → Nat) : pm_Met l D kcl base (kZ sa) ⟨"RoutingFieldModel", "takeAddress", "()Z"⟩ (.code ⟨"RoutingFieldModel", "takeAddress", "()Z"⟩ prog_14_method_173_code 2 (some .boolean) :: pw_T) 4 102 (kP_Mo_takeAddress base sa) := by
  refine pm_met (by decide) rfl rfl ?_
  intro mc ms p e s m args below meth c hx hb hml hown hnm hts hbs hZ
  have ht : ∀ w ∈ pw_T, w.before args s = true := fun w h => hts w (List.mem_cons_of_mem _ h)
  exact ⟨hx, hb, hown, hbs, pm_look_all kD_Mo_takeAddress, kf_ok (init := false) ht hZ kF_Mo_ok (fun h => by cases h), km_ok ht kM_Mo_ok, kci_ok ht kI_Mo_ok, kli_ok ht kJ_Mo_ok, kar_ok ht hZ kA_Mo_ok,
    pm_look_all (List.forall_mem_cons.mpr ⟨pm_cokV hbs hZ ⟨hx, hb, hml, hown, hts⟩ (kW_Mo_readAddress l D base sa) (fun mc ms => cwV 2 hts (pw_gV (pw_in 2586 (w := .methodLink "RoutingFieldModel" 507 ⟨"RoutingFieldModel", "readAddress", "(II)Z"⟩) (by decide +kernel) rfl) ki_Mo_readAddress ks_Mo_readAddress kn_Mo ko_Mo_readAddress) rfl rfl rfl (by decide +kernel) ⟨Nat.le_of_ble_eq_true rfl, Nat.le_of_ble_eq_true rfl⟩) (ci := 12) rfl, fun _ h => absurd h List.not_mem_nil⟩),
    hZ, kst_ok ht hZ (kS_Mo_ok sa), knar_ok ht, ktx_ok (kE_Mo_ok sa)⟩
set_option maxRecDepth 100000 in
theorem ki_Mo_isLonger : Cond.instanceMethod ⟨"RoutingFieldModel", "isLonger", "(IJJII)Z"⟩ ∈ pw_T := (pw_in 3292 (by decide +kernel) rfl)
set_option maxRecDepth 100000 in
theorem ks_Mo_isLonger : Cond.selects "RoutingFieldModel" ⟨"RoutingFieldModel", "isLonger", "(IJJII)Z"⟩ ⟨"RoutingFieldModel", "isLonger", "(IJJII)Z"⟩ ∈ pw_T := (pw_sel 250 (q := (⟨"RoutingFieldModel", "isLonger", "(IJJII)Z"⟩, 166)) (by decide +kernel))
set_option maxRecDepth 100000 in
theorem ko_Mo_isLonger : Cond.code ⟨"RoutingFieldModel", "isLonger", "(IJJII)Z"⟩ prog_14_method_174_code 8 (some .boolean) ∈ pw_T := (pw_in 3293 rfl rfl)
set_option maxRecDepth 100000 in
theorem kD_Mo_isLonger : ∀ q ∈ kC_Mo_isLonger, decode prog_14_method_174_code q.1 = .ok (q.2, pm_len q.1 q.2) := by decide +kernel
set_option maxRecDepth 100000 in
theorem kW_Mo_isLonger (l : Launch) (D : va_G) (base : Nat) (sa : Nat → Nat) : pm_Met l D kcl base (kZ sa) ⟨"RoutingFieldModel", "isLonger", "(IJJII)Z"⟩ (.code ⟨"RoutingFieldModel", "isLonger", "(IJJII)Z"⟩ prog_14_method_174_code 8 (some .boolean) :: pw_T) 2 56 (kP_Mo_isLonger base sa) := by
  refine pm_met (by decide) rfl rfl ?_
  intro mc ms p e s m args below meth c hx hb hml hown hnm hts hbs hZ
  have ht : ∀ w ∈ pw_T, w.before args s = true := fun w h => hts w (List.mem_cons_of_mem _ h)
  exact ⟨hx, hb, hown, hbs, pm_look_all kD_Mo_isLonger, kf_ok (init := false) ht hZ kF_Mo_ok (fun h => by cases h), km_ok ht kM_Mo_ok, kci_ok ht kI_Mo_ok, kli_ok ht kJ_Mo_ok, kar_ok ht hZ kA_Mo_ok,
    pm_look_all (List.forall_mem_cons.mpr ⟨pm_cokS hbs hZ ⟨hx, hb, hml, hown, hts⟩ (kW_Mo_covers l D base sa) (fun mc ms => va_cwS 5 hts (pw_gS (pw_in 2978 (w := .methodLink "RoutingFieldModel" 440 ⟨"RoutingFieldModel", "covers", "(JJIJJ)Z"⟩) (by decide +kernel) rfl) kv_Mo_covers kn_Mo ko_Mo_covers) rfl rfl rfl (by decide +kernel) ⟨Nat.le_of_ble_eq_true rfl, Nat.le_of_ble_eq_true rfl⟩) (Nat.le_of_ble_eq_true rfl), fun _ h => absurd h List.not_mem_nil⟩),
    hZ, kst_ok ht hZ (kS_Mo_ok sa), knar_ok ht, ktx_ok (kE_Mo_ok sa)⟩
set_option maxRecDepth 100000 in
theorem ki_Mo_longestOfAll : Cond.instanceMethod ⟨"RoutingFieldModel", "longestOfAll", "()I"⟩ ∈ pw_T := (pw_in 3288 (by decide +kernel) rfl)
set_option maxRecDepth 100000 in
theorem ks_Mo_longestOfAll : Cond.selects "RoutingFieldModel" ⟨"RoutingFieldModel", "longestOfAll", "()I"⟩ ⟨"RoutingFieldModel", "longestOfAll", "()I"⟩ ∈ pw_T := (pw_sel 249 (q := (⟨"RoutingFieldModel", "longestOfAll", "()I"⟩, 166)) (by decide +kernel))
set_option maxRecDepth 100000 in
theorem ko_Mo_longestOfAll : Cond.code ⟨"RoutingFieldModel", "longestOfAll", "()I"⟩ prog_14_method_175_code 4 (some .int) ∈ pw_T := (pw_in 3289 rfl rfl)
set_option maxRecDepth 100000 in
theorem kD_Mo_longestOfAll_0 : ∀ q ∈ kC_Mo_longestOfAll_0, decode prog_14_method_175_code q.1 = .ok (q.2, pm_len q.1 q.2) := by decide +kernel
set_option maxRecDepth 100000 in
theorem kD_Mo_longestOfAll_1 : ∀ q ∈ kC_Mo_longestOfAll_1, decode prog_14_method_175_code q.1 = .ok (q.2, pm_len q.1 q.2) := by decide +kernel
set_option maxRecDepth 100000 in
theorem kD_Mo_longestOfAll_2 : ∀ q ∈ kC_Mo_longestOfAll_2, decode prog_14_method_175_code q.1 = .ok (q.2, pm_len q.1 q.2) := by decide +kernel
theorem kD_Mo_longestOfAll : ∀ q ∈ kC_Mo_longestOfAll, decode prog_14_method_175_code q.1 = .ok (q.2, pm_len q.1 q.2) := List.forall_mem_append.mpr ⟨kD_Mo_longestOfAll_0, List.forall_mem_append.mpr ⟨kD_Mo_longestOfAll_1, kD_Mo_longestOfAll_2⟩⟩
set_option maxRecDepth 100000 in
theorem kW_Mo_longestOfAll (l : Launch) (D : va_G) (base : Nat) (sa : Nat → Nat) : pm_Met l D kcl base (kZ sa) ⟨"RoutingFieldModel", "longestOfAll", "()I"⟩ (.code ⟨"RoutingFieldModel", "longestOfAll", "()I"⟩ prog_14_method_175_code 4 (some .int) :: pw_T) 3 83 (kP_Mo_longestOfAll base sa) := by
  refine pm_met (by decide) rfl rfl ?_
  intro mc ms p e s m args below meth c hx hb hml hown hnm hts hbs hZ
  have ht : ∀ w ∈ pw_T, w.before args s = true := fun w h => hts w (List.mem_cons_of_mem _ h)
  exact ⟨hx, hb, hown, hbs, pm_look_all kD_Mo_longestOfAll, kf_ok (init := false) ht hZ kF_Mo_ok (fun h => by cases h), km_ok ht kM_Mo_ok, kci_ok ht kI_Mo_ok, kli_ok ht kJ_Mo_ok, kar_ok ht hZ kA_Mo_ok,
    pm_look_all (List.forall_mem_cons.mpr ⟨pm_cokV hbs hZ ⟨hx, hb, hml, hown, hts⟩ (kW_Mo_isLonger l D base sa) (fun mc ms => cwV 5 hts (pw_gV (pw_in 3290 (w := .methodLink "RoutingFieldModel" 1233 ⟨"RoutingFieldModel", "isLonger", "(IJJII)Z"⟩) (by decide +kernel) rfl) ki_Mo_isLonger ks_Mo_isLonger kn_Mo ko_Mo_isLonger) rfl rfl rfl (by decide +kernel) ⟨Nat.le_of_ble_eq_true rfl, Nat.le_of_ble_eq_true rfl⟩) (ci := 12) rfl, fun _ h => absurd h List.not_mem_nil⟩),
    hZ, kst_ok ht hZ (kS_Mo_ok sa), knar_ok ht, ktx_ok (kE_Mo_ok sa)⟩
set_option maxRecDepth 100000 in
theorem ki_Mo_leastAt : Cond.instanceMethod ⟨"RoutingFieldModel", "leastAt", "(III)J"⟩ ∈ pw_T := (pw_in 3297 (by decide +kernel) rfl)
set_option maxRecDepth 100000 in
theorem ks_Mo_leastAt : Cond.selects "RoutingFieldModel" ⟨"RoutingFieldModel", "leastAt", "(III)J"⟩ ⟨"RoutingFieldModel", "leastAt", "(III)J"⟩ ∈ pw_T := (pw_sel 251 (q := (⟨"RoutingFieldModel", "leastAt", "(III)J"⟩, 166)) (by decide +kernel))
set_option maxRecDepth 100000 in
theorem ko_Mo_leastAt : Cond.code ⟨"RoutingFieldModel", "leastAt", "(III)J"⟩ prog_14_method_177_code 8 (some .long) ∈ pw_T := (pw_in 3298 rfl rfl)
set_option maxRecDepth 100000 in
theorem kD_Mo_leastAt : ∀ q ∈ kC_Mo_leastAt, decode prog_14_method_177_code q.1 = .ok (q.2, pm_len q.1 q.2) := by decide +kernel
set_option maxRecDepth 100000 in
theorem kW_Mo_leastAt (l : Launch) (D : va_G) (base : Nat) (sa : Nat → Nat) : pm_Met l D kcl base (kZ sa) ⟨"RoutingFieldModel", "leastAt", "(III)J"⟩ (.code ⟨"RoutingFieldModel", "leastAt", "(III)J"⟩ prog_14_method_177_code 8 (some .long) :: pw_T) 1 23 (kP_Mo_leastAt base sa) := by
  refine pm_met (by decide) rfl rfl ?_
  intro mc ms p e s m args below meth c hx hb hml hown hnm hts hbs hZ
  have ht : ∀ w ∈ pw_T, w.before args s = true := fun w h => hts w (List.mem_cons_of_mem _ h)
  exact ⟨hx, hb, hown, hbs, pm_look_all kD_Mo_leastAt, kf_ok (init := false) ht hZ kF_Mo_ok (fun h => by cases h), km_ok ht kM_Mo_ok, kci_ok ht kI_Mo_ok, kli_ok ht kJ_Mo_ok, kar_ok ht hZ kA_Mo_ok,
    pm_look_all (List.forall_mem_cons.mpr ⟨pm_cokV hbs hZ ⟨hx, hb, hml, hown, hts⟩ (kW_Mo_interfaceTo l D base sa) (fun mc ms => cwV 2 hts (pw_gV (pw_in 2608 (w := .methodLink "RoutingFieldModel" 672 ⟨"RoutingFieldModel", "interfaceTo", "(II)I"⟩) (by decide +kernel) rfl) ki_Mo_interfaceTo ks_Mo_interfaceTo kn_Mo ko_Mo_interfaceTo) rfl rfl rfl (by decide +kernel) ⟨Nat.le_of_ble_eq_true rfl, Nat.le_of_ble_eq_true rfl⟩) (ci := 12) rfl, fun _ h => absurd h List.not_mem_nil⟩),
    hZ, kst_ok ht hZ (kS_Mo_ok sa), knar_ok ht, ktx_ok (kE_Mo_ok sa)⟩
