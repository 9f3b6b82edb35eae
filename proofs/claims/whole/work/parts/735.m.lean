set_option maxRecDepth 100000 in
theorem ki_Mo_sayListEntry : Cond.instanceMethod ⟨"RoutingFieldModel", "sayListEntry", "(II)V"⟩ ∈ pw_T := (pw_in 3231 (by decide +kernel) rfl)
set_option maxRecDepth 100000 in
theorem ks_Mo_sayListEntry : Cond.selects "RoutingFieldModel" ⟨"RoutingFieldModel", "sayListEntry", "(II)V"⟩ ⟨"RoutingFieldModel", "sayListEntry", "(II)V"⟩ ∈ pw_T := (pw_sel 236 (q := (⟨"RoutingFieldModel", "sayListEntry", "(II)V"⟩, 166)) (by decide +kernel))
set_option maxRecDepth 100000 in
theorem ko_Mo_sayListEntry : Cond.code ⟨"RoutingFieldModel", "sayListEntry", "(II)V"⟩ prog_14_method_160_code 3 none ∈ pw_T := (pw_in 3232 rfl rfl)
set_option maxRecDepth 100000 in
theorem kD_Mo_sayListEntry_0 : ∀ q ∈ kC_Mo_sayListEntry_0, decode prog_14_method_160_code q.1 = .ok (q.2, pm_len q.1 q.2) := by decide +kernel
set_option maxRecDepth 100000 in
theorem kD_Mo_sayListEntry_1 : ∀ q ∈ kC_Mo_sayListEntry_1, decode prog_14_method_160_code q.1 = .ok (q.2, pm_len q.1 q.2) := by decide +kernel
theorem kD_Mo_sayListEntry : ∀ q ∈ kC_Mo_sayListEntry, decode prog_14_method_160_code q.1 = .ok (q.2, pm_len q.1 q.2) := List.forall_mem_append.mpr ⟨kD_Mo_sayListEntry_0, kD_Mo_sayListEntry_1⟩
set_option maxRecDepth 100000 in
theorem kW_Mo_sayListEntry (l : Launch) (D : va_G) (base : Nat) (sa : Nat → Nat) : pm_Met l D kcl base (kZ sa) ⟨"RoutingFieldModel", "sayListEntry", "(II)V"⟩ (.code ⟨"RoutingFieldModel", "sayListEntry", "(II)V"⟩ prog_14_method_160_code 3 none :: pw_T) 6 150 (kP_Mo_sayListEntry base sa) := by
  refine pm_met (by decide) rfl rfl ?_
  intro mc ms p e s m args below meth c hx hb hml hown hnm hts hbs hZ
  have ht : ∀ w ∈ pw_T, w.before args s = true := fun w h => hts w (List.mem_cons_of_mem _ h)
  exact ⟨hx, hb, hown, hbs, pm_look_all kD_Mo_sayListEntry, kf_ok (init := false) ht hZ kF_Mo_ok (fun h => by cases h), km_ok ht kM_Mo_ok, kci_ok ht kI_Mo_ok, kli_ok ht kJ_Mo_ok, kar_ok ht hZ kA_Mo_ok,
    pm_look_all (List.forall_mem_cons.mpr ⟨pm_cokV hbs hZ ⟨hx, hb, hml, hown, hts⟩ (kW_Mo_sayName l D base sa) (fun mc ms => cwV 1 hts (pw_gV (pw_in 3189 (w := .methodLink "RoutingFieldModel" 1140 ⟨"RoutingFieldModel", "sayName", "(J)V"⟩) (by decide +kernel) rfl) ki_Mo_sayName ks_Mo_sayName kn_Mo ko_Mo_sayName) rfl rfl rfl (by decide +kernel) ⟨Nat.le_of_ble_eq_true rfl, Nat.le_of_ble_eq_true rfl⟩) (ci := 12) rfl, List.forall_mem_cons.mpr ⟨pm_cokV hbs hZ ⟨hx, hb, hml, hown, hts⟩ (kW_Mo_word l D base sa) (fun mc ms => cwV 1 hts (pw_gV (pw_in 3185 (w := .methodLink "RoutingFieldModel" 1154 ⟨"RoutingFieldModel", "word", "(J)V"⟩) (by decide +kernel) rfl) ki_Mo_word ks_Mo_word kn_Mo ko_Mo_word) rfl rfl rfl (by decide +kernel) ⟨Nat.le_of_ble_eq_true rfl, Nat.le_of_ble_eq_true rfl⟩) (ci := 12) rfl, List.forall_mem_cons.mpr ⟨pm_cokV hbs hZ ⟨hx, hb, hml, hown, hts⟩ (kW_Mo_wordPrefix l D base sa) (fun mc ms => cwV 4 hts (pw_gV (pw_in 3213 (w := .methodLink "RoutingFieldModel" 1163 ⟨"RoutingFieldModel", "wordPrefix", "(IJJI)V"⟩) (by decide +kernel) rfl) ki_Mo_wordPrefix ks_Mo_wordPrefix kn_Mo ko_Mo_wordPrefix) rfl rfl rfl (by decide +kernel) ⟨Nat.le_of_ble_eq_true rfl, Nat.le_of_ble_eq_true rfl⟩) (ci := 12) rfl, List.forall_mem_cons.mpr ⟨pm_cokV hbs hZ ⟨hx, hb, hml, hown, hts⟩ (kW_Mo_wordNumber l D base sa) (fun mc ms => cwV 1 hts (pw_gV (pw_in 3177 (w := .methodLink "RoutingFieldModel" 1151 ⟨"RoutingFieldModel", "wordNumber", "(I)V"⟩) (by decide +kernel) rfl) ki_Mo_wordNumber ks_Mo_wordNumber kn_Mo ko_Mo_wordNumber) rfl rfl rfl (by decide +kernel) ⟨Nat.le_of_ble_eq_true rfl, Nat.le_of_ble_eq_true rfl⟩) (ci := 12) rfl, List.forall_mem_cons.mpr ⟨pm_cokV hbs hZ ⟨hx, hb, hml, hown, hts⟩ (kW_Mo_say l D base sa) (fun mc ms => cwV 1 hts (pw_gV (pw_in 3161 (w := .methodLink "RoutingFieldModel" 1119 ⟨"RoutingFieldModel", "say", "(I)V"⟩) (by decide +kernel) rfl) ki_Mo_say ks_Mo_say kn_Mo ko_Mo_say) rfl rfl rfl (by decide +kernel) ⟨Nat.le_of_ble_eq_true rfl, Nat.le_of_ble_eq_true rfl⟩) (ci := 12) rfl, fun _ h => absurd h List.not_mem_nil⟩⟩⟩⟩⟩),
    hZ, kst_ok ht hZ (kS_Mo_ok sa), knar_ok ht, ktx_ok (kE_Mo_ok sa)⟩
set_option maxRecDepth 100000 in
theorem ki_Mo_begin : Cond.instanceMethod ⟨"RoutingFieldModel", "begin", "(JI)V"⟩ ∈ pw_T := (pw_in 3239 (by decide +kernel) rfl)
set_option maxRecDepth 100000 in
theorem ks_Mo_begin : Cond.selects "RoutingFieldModel" ⟨"RoutingFieldModel", "begin", "(JI)V"⟩ ⟨"RoutingFieldModel", "begin", "(JI)V"⟩ ∈ pw_T := (pw_sel 238 (q := (⟨"RoutingFieldModel", "begin", "(JI)V"⟩, 166)) (by decide +kernel))
set_option maxRecDepth 100000 in
theorem ko_Mo_begin : Cond.code ⟨"RoutingFieldModel", "begin", "(JI)V"⟩ prog_14_method_161_code 4 none ∈ pw_T := (pw_in 3240 rfl rfl)
set_option maxRecDepth 100000 in
theorem kD_Mo_begin : ∀ q ∈ kC_Mo_begin, decode prog_14_method_161_code q.1 = .ok (q.2, pm_len q.1 q.2) := by decide +kernel
set_option maxRecDepth 100000 in
theorem kW_Mo_begin (l : Launch) (D : va_G) (base : Nat) (sa : Nat → Nat) : pm_Met l D kcl base (kZ sa) ⟨"RoutingFieldModel", "begin", "(JI)V"⟩ (.code ⟨"RoutingFieldModel", "begin", "(JI)V"⟩ prog_14_method_161_code 4 none :: pw_T) 3 71 (kP_Mo_begin base sa) := by
  refine pm_met (by decide) rfl rfl ?_
  intro mc ms p e s m args below meth c hx hb hml hown hnm hts hbs hZ
  have ht : ∀ w ∈ pw_T, w.before args s = true := fun w h => hts w (List.mem_cons_of_mem _ h)
  exact ⟨hx, hb, hown, hbs, pm_look_all kD_Mo_begin, kf_ok (init := false) ht hZ kF_Mo_ok (fun h => by cases h), km_ok ht kM_Mo_ok, kci_ok ht kI_Mo_ok, kli_ok ht kJ_Mo_ok, kar_ok ht hZ kA_Mo_ok,
    pm_look_all (List.forall_mem_cons.mpr ⟨pm_cokV hbs hZ ⟨hx, hb, hml, hown, hts⟩ (kW_Mo_sayName l D base sa) (fun mc ms => cwV 1 hts (pw_gV (pw_in 3189 (w := .methodLink "RoutingFieldModel" 1140 ⟨"RoutingFieldModel", "sayName", "(J)V"⟩) (by decide +kernel) rfl) ki_Mo_sayName ks_Mo_sayName kn_Mo ko_Mo_sayName) rfl rfl rfl (by decide +kernel) ⟨Nat.le_of_ble_eq_true rfl, Nat.le_of_ble_eq_true rfl⟩) (ci := 12) rfl, List.forall_mem_cons.mpr ⟨pm_cokV hbs hZ ⟨hx, hb, hml, hown, hts⟩ (kW_Mo_word l D base sa) (fun mc ms => cwV 1 hts (pw_gV (pw_in 3185 (w := .methodLink "RoutingFieldModel" 1154 ⟨"RoutingFieldModel", "word", "(J)V"⟩) (by decide +kernel) rfl) ki_Mo_word ks_Mo_word kn_Mo ko_Mo_word) rfl rfl rfl (by decide +kernel) ⟨Nat.le_of_ble_eq_true rfl, Nat.le_of_ble_eq_true rfl⟩) (ci := 12) rfl, fun _ h => absurd h List.not_mem_nil⟩⟩),
    hZ, kst_ok ht hZ (kS_Mo_ok sa), knar_ok ht, ktx_ok (kE_Mo_ok sa)⟩
set_option maxRecDepth 100000 in
theorem ki_Mo_beginAt : Cond.instanceMethod ⟨"RoutingFieldModel", "beginAt", "(JI)V"⟩ ∈ pw_T := (pw_in 3247 (by decide +kernel) rfl)
set_option maxRecDepth 100000 in
theorem ks_Mo_beginAt : Cond.selects "RoutingFieldModel" ⟨"RoutingFieldModel", "beginAt", "(JI)V"⟩ ⟨"RoutingFieldModel", "beginAt", "(JI)V"⟩ ∈ pw_T := (pw_sel 240 (q := (⟨"RoutingFieldModel", "beginAt", "(JI)V"⟩, 166)) (by decide +kernel))
set_option maxRecDepth 100000 in
theorem ko_Mo_beginAt : Cond.code ⟨"RoutingFieldModel", "beginAt", "(JI)V"⟩ prog_14_method_162_code 4 none ∈ pw_T := (pw_in 3248 rfl rfl)
set_option maxRecDepth 100000 in
theorem kD_Mo_beginAt : ∀ q ∈ kC_Mo_beginAt, decode prog_14_method_162_code q.1 = .ok (q.2, pm_len q.1 q.2) := by decide +kernel
set_option maxRecDepth 100000 in
theorem kW_Mo_beginAt (l : Launch) (D : va_G) (base : Nat) (sa : Nat → Nat) : pm_Met l D kcl base (kZ sa) ⟨"RoutingFieldModel", "beginAt", "(JI)V"⟩ (.code ⟨"RoutingFieldModel", "beginAt", "(JI)V"⟩ prog_14_method_162_code 4 none :: pw_T) 4 94 (kP_Mo_beginAt base sa) := by
  refine pm_met (by decide) rfl rfl ?_
  intro mc ms p e s m args below meth c hx hb hml hown hnm hts hbs hZ
  have ht : ∀ w ∈ pw_T, w.before args s = true := fun w h => hts w (List.mem_cons_of_mem _ h)
  exact ⟨hx, hb, hown, hbs, pm_look_all kD_Mo_beginAt, kf_ok (init := false) ht hZ kF_Mo_ok (fun h => by cases h), km_ok ht kM_Mo_ok, kci_ok ht kI_Mo_ok, kli_ok ht kJ_Mo_ok, kar_ok ht hZ kA_Mo_ok,
    pm_look_all (List.forall_mem_cons.mpr ⟨pm_cokV hbs hZ ⟨hx, hb, hml, hown, hts⟩ (kW_Mo_begin l D base sa) (fun mc ms => cwV 2 hts (pw_gV (pw_in 3237 (w := .methodLink "RoutingFieldModel" 1192 ⟨"RoutingFieldModel", "begin", "(JI)V"⟩) (by decide +kernel) rfl) ki_Mo_begin ks_Mo_begin kn_Mo ko_Mo_begin) rfl rfl rfl (by decide +kernel) ⟨Nat.le_of_ble_eq_true rfl, Nat.le_of_ble_eq_true rfl⟩) (ci := 12) rfl, List.forall_mem_cons.mpr ⟨pm_cokV hbs hZ ⟨hx, hb, hml, hown, hts⟩ (kW_Mo_word l D base sa) (fun mc ms => cwV 1 hts (pw_gV (pw_in 3185 (w := .methodLink "RoutingFieldModel" 1154 ⟨"RoutingFieldModel", "word", "(J)V"⟩) (by decide +kernel) rfl) ki_Mo_word ks_Mo_word kn_Mo ko_Mo_word) rfl rfl rfl (by decide +kernel) ⟨Nat.le_of_ble_eq_true rfl, Nat.le_of_ble_eq_true rfl⟩) (ci := 12) rfl, fun _ h => absurd h List.not_mem_nil⟩⟩),
    hZ, kst_ok ht hZ (kS_Mo_ok sa), knar_ok ht, ktx_ok (kE_Mo_ok sa)⟩
set_option maxRecDepth 100000 in
theorem ki_Mo_sayOptions : Cond.instanceMethod ⟨"RoutingFieldModel", "sayOptions", "(I)V"⟩ ∈ pw_T := (pw_in 3251 (by decide +kernel) rfl)
set_option maxRecDepth 100000 in
theorem ks_Mo_sayOptions : Cond.selects "RoutingFieldModel" ⟨"RoutingFieldModel", "sayOptions", "(I)V"⟩ ⟨"RoutingFieldModel", "sayOptions", "(I)V"⟩ ∈ pw_T := (pw_sel 241 (q := (⟨"RoutingFieldModel", "sayOptions", "(I)V"⟩, 166)) (by decide +kernel))
set_option maxRecDepth 100000 in
theorem ko_Mo_sayOptions : Cond.code ⟨"RoutingFieldModel", "sayOptions", "(I)V"⟩ prog_14_method_164_code 3 none ∈ pw_T := (pw_in 3252 rfl rfl)
set_option maxRecDepth 100000 in
theorem kD_Mo_sayOptions : ∀ q ∈ kC_Mo_sayOptions, decode prog_14_method_164_code q.1 = .ok (q.2, pm_len q.1 q.2) := by decide +kernel
set_option maxRecDepth 100000 in
theorem kW_Mo_sayOptions (l : Launch) (D : va_G) (base : Nat) (sa : Nat → Nat) : pm_Met l D kcl base (kZ sa) ⟨"RoutingFieldModel", "sayOptions", "(I)V"⟩ (.code ⟨"RoutingFieldModel", "sayOptions", "(I)V"⟩ prog_14_method_164_code 3 none :: pw_T) 4 87 (kP_Mo_sayOptions base sa) := by
  refine pm_met (by decide) rfl rfl ?_
  intro mc ms p e s m args below meth c hx hb hml hown hnm hts hbs hZ
  have ht : ∀ w ∈ pw_T, w.before args s = true := fun w h => hts w (List.mem_cons_of_mem _ h)
  exact ⟨hx, hb, hown, hbs, pm_look_all kD_Mo_sayOptions, kf_ok (init := false) ht hZ kF_Mo_ok (fun h => by cases h), km_ok ht kM_Mo_ok, kci_ok ht kI_Mo_ok, kli_ok ht kJ_Mo_ok, kar_ok ht hZ kA_Mo_ok,
    pm_look_all (List.forall_mem_cons.mpr ⟨pm_cokV hbs hZ ⟨hx, hb, hml, hown, hts⟩ (kW_Mo_word l D base sa) (fun mc ms => cwV 1 hts (pw_gV (pw_in 3185 (w := .methodLink "RoutingFieldModel" 1154 ⟨"RoutingFieldModel", "word", "(J)V"⟩) (by decide +kernel) rfl) ki_Mo_word ks_Mo_word kn_Mo ko_Mo_word) rfl rfl rfl (by decide +kernel) ⟨Nat.le_of_ble_eq_true rfl, Nat.le_of_ble_eq_true rfl⟩) (ci := 12) rfl, List.forall_mem_cons.mpr ⟨pm_cokV hbs hZ ⟨hx, hb, hml, hown, hts⟩ (kW_Mo_wordNumber l D base sa) (fun mc ms => cwV 1 hts (pw_gV (pw_in 3177 (w := .methodLink "RoutingFieldModel" 1151 ⟨"RoutingFieldModel", "wordNumber", "(I)V"⟩) (by decide +kernel) rfl) ki_Mo_wordNumber ks_Mo_wordNumber kn_Mo ko_Mo_wordNumber) rfl rfl rfl (by decide +kernel) ⟨Nat.le_of_ble_eq_true rfl, Nat.le_of_ble_eq_true rfl⟩) (ci := 12) rfl, List.forall_mem_cons.mpr ⟨pm_cokV hbs hZ ⟨hx, hb, hml, hown, hts⟩ (kW_Mo_space l D base sa) (fun mc ms => cwV 0 hts (pw_gV (pw_in 3181 (w := .methodLink "RoutingFieldModel" 1137 ⟨"RoutingFieldModel", "space", "()V"⟩) (by decide +kernel) rfl) ki_Mo_space ks_Mo_space kn_Mo ko_Mo_space) rfl rfl rfl (by decide +kernel) ⟨Nat.le_of_ble_eq_true rfl, Nat.le_of_ble_eq_true rfl⟩) (ci := 12) rfl, List.forall_mem_cons.mpr ⟨pm_cokV hbs hZ ⟨hx, hb, hml, hown, hts⟩ (kW_Mo_say l D base sa) (fun mc ms => cwV 1 hts (pw_gV (pw_in 3161 (w := .methodLink "RoutingFieldModel" 1119 ⟨"RoutingFieldModel", "say", "(I)V"⟩) (by decide +kernel) rfl) ki_Mo_say ks_Mo_say kn_Mo ko_Mo_say) rfl rfl rfl (by decide +kernel) ⟨Nat.le_of_ble_eq_true rfl, Nat.le_of_ble_eq_true rfl⟩) (ci := 12) rfl, fun _ h => absurd h List.not_mem_nil⟩⟩⟩⟩),
    hZ, kst_ok ht hZ (kS_Mo_ok sa), knar_ok ht, ktx_ok (kE_Mo_ok sa)⟩
set_option maxRecDepth 100000 in
theorem ki_Mo_sayJoins : Cond.instanceMethod ⟨"RoutingFieldModel", "sayJoins", "(I)V"⟩ ∈ pw_T := (pw_in 3243 (by decide +kernel) rfl)
set_option maxRecDepth 100000 in
theorem ks_Mo_sayJoins : Cond.selects "RoutingFieldModel" ⟨"RoutingFieldModel", "sayJoins", "(I)V"⟩ ⟨"RoutingFieldModel", "sayJoins", "(I)V"⟩ ∈ pw_T := (pw_sel 239 (q := (⟨"RoutingFieldModel", "sayJoins", "(I)V"⟩, 166)) (by decide +kernel))
set_option maxRecDepth 100000 in
theorem ko_Mo_sayJoins : Cond.code ⟨"RoutingFieldModel", "sayJoins", "(I)V"⟩ prog_14_method_163_code 5 none ∈ pw_T := (pw_in 3244 rfl rfl)
set_option maxRecDepth 100000 in
theorem kD_Mo_sayJoins_0 : ∀ q ∈ kC_Mo_sayJoins_0, decode prog_14_method_163_code q.1 = .ok (q.2, pm_len q.1 q.2) := by decide +kernel
set_option maxRecDepth 100000 in
theorem kD_Mo_sayJoins_1 : ∀ q ∈ kC_Mo_sayJoins_1, decode prog_14_method_163_code q.1 = .ok (q.2, pm_len q.1 q.2) := by decide +kernel
set_option maxRecDepth 100000 in
theorem kD_Mo_sayJoins_2 : ∀ q ∈ kC_Mo_sayJoins_2, decode prog_14_method_163_code q.1 = .ok (q.2, pm_len q.1 q.2) := by decide +kernel
theorem kD_Mo_sayJoins : ∀ q ∈ kC_Mo_sayJoins, decode prog_14_method_163_code q.1 = .ok (q.2, pm_len q.1 q.2) := List.forall_mem_append.mpr ⟨kD_Mo_sayJoins_0, List.forall_mem_append.mpr ⟨kD_Mo_sayJoins_1, kD_Mo_sayJoins_2⟩⟩
set_option maxRecDepth 100000 in
theorem kW_Mo_sayJoins (l : Launch) (D : va_G) (base : Nat) (sa : Nat → Nat) : pm_Met l D kcl base (kZ sa) ⟨"RoutingFieldModel", "sayJoins", "(I)V"⟩ (.code ⟨"RoutingFieldModel", "sayJoins", "(I)V"⟩ prog_14_method_163_code 5 none :: pw_T) 7 171 (kP_Mo_sayJoins base sa) := by
  refine pm_met (by decide) rfl rfl ?_
  intro mc ms p e s m args below meth c hx hb hml hown hnm hts hbs hZ
  have ht : ∀ w ∈ pw_T, w.before args s = true := fun w h => hts w (List.mem_cons_of_mem _ h)
  exact ⟨hx, hb, hown, hbs, pm_look_all kD_Mo_sayJoins, kf_ok (init := false) ht hZ kF_Mo_ok (fun h => by cases h), km_ok ht kM_Mo_ok, kci_ok ht kI_Mo_ok, kli_ok ht kJ_Mo_ok, kar_ok ht hZ kA_Mo_ok,
    pm_look_all (List.forall_mem_cons.mpr ⟨pm_cokV hbs hZ ⟨hx, hb, hml, hown, hts⟩ (kW_Mo_beginAt l D base sa) (fun mc ms => cwV 2 hts (pw_gV (pw_in 3245 (w := .methodLink "RoutingFieldModel" 1196 ⟨"RoutingFieldModel", "beginAt", "(JI)V"⟩) (by decide +kernel) rfl) ki_Mo_beginAt ks_Mo_beginAt kn_Mo ko_Mo_beginAt) rfl rfl rfl (by decide +kernel) ⟨Nat.le_of_ble_eq_true rfl, Nat.le_of_ble_eq_true rfl⟩) (ci := 12) rfl, List.forall_mem_cons.mpr ⟨pm_cokV hbs hZ ⟨hx, hb, hml, hown, hts⟩ (kW_Mo_sayOwn l D base sa) (fun mc ms => cwV 1 hts (pw_gV (pw_in 3209 (w := .methodLink "RoutingFieldModel" 1174 ⟨"RoutingFieldModel", "sayOwn", "(I)V"⟩) (by decide +kernel) rfl) ki_Mo_sayOwn ks_Mo_sayOwn kn_Mo ko_Mo_sayOwn) rfl rfl rfl (by decide +kernel) ⟨Nat.le_of_ble_eq_true rfl, Nat.le_of_ble_eq_true rfl⟩) (ci := 12) rfl, List.forall_mem_cons.mpr ⟨pm_cokV hbs hZ ⟨hx, hb, hml, hown, hts⟩ (kW_Mo_sayOptions l D base sa) (fun mc ms => cwV 1 hts (pw_gV (pw_in 3249 (w := .methodLink "RoutingFieldModel" 1199 ⟨"RoutingFieldModel", "sayOptions", "(I)V"⟩) (by decide +kernel) rfl) ki_Mo_sayOptions ks_Mo_sayOptions kn_Mo ko_Mo_sayOptions) rfl rfl rfl (by decide +kernel) ⟨Nat.le_of_ble_eq_true rfl, Nat.le_of_ble_eq_true rfl⟩) (ci := 12) rfl, List.forall_mem_cons.mpr ⟨pm_cokV hbs hZ ⟨hx, hb, hml, hown, hts⟩ (kW_Mo_say l D base sa) (fun mc ms => cwV 1 hts (pw_gV (pw_in 3161 (w := .methodLink "RoutingFieldModel" 1119 ⟨"RoutingFieldModel", "say", "(I)V"⟩) (by decide +kernel) rfl) ki_Mo_say ks_Mo_say kn_Mo ko_Mo_say) rfl rfl rfl (by decide +kernel) ⟨Nat.le_of_ble_eq_true rfl, Nat.le_of_ble_eq_true rfl⟩) (ci := 12) rfl, List.forall_mem_cons.mpr ⟨pm_cokV hbs hZ ⟨hx, hb, hml, hown, hts⟩ (kW_Mo_wordNumber l D base sa) (fun mc ms => cwV 1 hts (pw_gV (pw_in 3177 (w := .methodLink "RoutingFieldModel" 1151 ⟨"RoutingFieldModel", "wordNumber", "(I)V"⟩) (by decide +kernel) rfl) ki_Mo_wordNumber ks_Mo_wordNumber kn_Mo ko_Mo_wordNumber) rfl rfl rfl (by decide +kernel) ⟨Nat.le_of_ble_eq_true rfl, Nat.le_of_ble_eq_true rfl⟩) (ci := 12) rfl, List.forall_mem_cons.mpr ⟨pm_cokV hbs hZ ⟨hx, hb, hml, hown, hts⟩ (kW_Mo_word l D base sa) (fun mc ms => cwV 1 hts (pw_gV (pw_in 3185 (w := .methodLink "RoutingFieldModel" 1154 ⟨"RoutingFieldModel", "word", "(J)V"⟩) (by decide +kernel) rfl) ki_Mo_word ks_Mo_word kn_Mo ko_Mo_word) rfl rfl rfl (by decide +kernel) ⟨Nat.le_of_ble_eq_true rfl, Nat.le_of_ble_eq_true rfl⟩) (ci := 12) rfl, List.forall_mem_cons.mpr ⟨pm_cokV hbs hZ ⟨hx, hb, hml, hown, hts⟩ (kW_Mo_space l D base sa) (fun mc ms => cwV 0 hts (pw_gV (pw_in 3181 (w := .methodLink "RoutingFieldModel" 1137 ⟨"RoutingFieldModel", "space", "()V"⟩) (by decide +kernel) rfl) ki_Mo_space ks_Mo_space kn_Mo ko_Mo_space) rfl rfl rfl (by decide +kernel) ⟨Nat.le_of_ble_eq_true rfl, Nat.le_of_ble_eq_true rfl⟩) (ci := 12) rfl, fun _ h => absurd h List.not_mem_nil⟩⟩⟩⟩⟩⟩⟩),
    hZ, kst_ok ht hZ (kS_Mo_ok sa), knar_ok ht, ktx_ok (kE_Mo_ok sa)⟩
set_option maxRecDepth 100000 in
theorem ki_Mo_aheadOf : Cond.instanceMethod ⟨"RoutingFieldModel", "aheadOf", "(II)I"⟩ ∈ pw_T := (pw_in 3259 (by decide +kernel) rfl)
set_option maxRecDepth 100000 in
theorem ks_Mo_aheadOf : Cond.selects "RoutingFieldModel" ⟨"RoutingFieldModel", "aheadOf", "(II)I"⟩ ⟨"RoutingFieldModel", "aheadOf", "(II)I"⟩ ∈ pw_T := (pw_sel 243 (q := (⟨"RoutingFieldModel", "aheadOf", "(II)I"⟩, 166)) (by decide +kernel))
set_option maxRecDepth 100000 in
theorem ko_Mo_aheadOf : Cond.code ⟨"RoutingFieldModel", "aheadOf", "(II)I"⟩ prog_14_method_165_code 6 (some .int) ∈ pw_T := (pw_in 3260 rfl rfl)
set_option maxRecDepth 100000 in
theorem kD_Mo_aheadOf_0 : ∀ q ∈ kC_Mo_aheadOf_0, decode prog_14_method_165_code q.1 = .ok (q.2, pm_len q.1 q.2) := by decide +kernel
set_option maxRecDepth 100000 in
theorem kD_Mo_aheadOf_1 : ∀ q ∈ kC_Mo_aheadOf_1, decode prog_14_method_165_code q.1 = .ok (q.2, pm_len q.1 q.2) := by decide +kernel
theorem kD_Mo_aheadOf : ∀ q ∈ kC_Mo_aheadOf, decode prog_14_method_165_code q.1 = .ok (q.2, pm_len q.1 q.2) := List.forall_mem_append.mpr ⟨kD_Mo_aheadOf_0, kD_Mo_aheadOf_1⟩
set_option maxRecDepth 100000 in
theorem kW_Mo_aheadOf (l : Launch) (D : va_G) (base : Nat) (sa : Nat → Nat) : pm_Met l D kcl base (kZ sa) ⟨"RoutingFieldModel", "aheadOf", "(II)I"⟩ (.code ⟨"RoutingFieldModel", "aheadOf", "(II)I"⟩ prog_14_method_165_code 6 (some .int) :: pw_T) 2 60 (kP_Mo_aheadOf base sa) := by
  refine pm_met (by decide) rfl rfl ?_
  intro mc ms p e s m args below meth c hx hb hml hown hnm hts hbs hZ
  have ht : ∀ w ∈ pw_T, w.before args s = true := fun w h => hts w (List.mem_cons_of_mem _ h)
  exact ⟨hx, hb, hown, hbs, pm_look_all kD_Mo_aheadOf, kf_ok (init := false) ht hZ kF_Mo_ok (fun h => by cases h), km_ok ht kM_Mo_ok, kci_ok ht kI_Mo_ok, kli_ok ht kJ_Mo_ok, kar_ok ht hZ kA_Mo_ok,
    pm_look_all (List.forall_mem_cons.mpr ⟨pm_cokS hbs hZ ⟨hx, hb, hml, hown, hts⟩ (kW_Mo_isAhead l D base sa) (fun mc ms => va_cwS 6 hts (pw_gS (pw_in 2696 (w := .methodLink "RoutingFieldModel" 767 ⟨"RoutingFieldModel", "isAhead", "(JJIJJI)Z"⟩) (by decide +kernel) rfl) kv_Mo_isAhead kn_Mo ko_Mo_isAhead) rfl rfl rfl (by decide +kernel) ⟨Nat.le_of_ble_eq_true rfl, Nat.le_of_ble_eq_true rfl⟩) (Nat.le_of_ble_eq_true rfl), fun _ h => absurd h List.not_mem_nil⟩),
    hZ, kst_ok ht hZ (kS_Mo_ok sa), knar_ok ht, ktx_ok (kE_Mo_ok sa)⟩
set_option maxRecDepth 100000 in
theorem ki_Mo_sayStatics : Cond.instanceMethod ⟨"RoutingFieldModel", "sayStatics", "(I)V"⟩ ∈ pw_T := (pw_in 3255 (by decide +kernel) rfl)
set_option maxRecDepth 100000 in
theorem ks_Mo_sayStatics : Cond.selects "RoutingFieldModel" ⟨"RoutingFieldModel", "sayStatics", "(I)V"⟩ ⟨"RoutingFieldModel", "sayStatics", "(I)V"⟩ ∈ pw_T := (pw_sel 242 (q := (⟨"RoutingFieldModel", "sayStatics", "(I)V"⟩, 166)) (by decide +kernel))
set_option maxRecDepth 100000 in
theorem ko_Mo_sayStatics : Cond.code ⟨"RoutingFieldModel", "sayStatics", "(I)V"⟩ prog_14_method_166_code 4 none ∈ pw_T := (pw_in 3256 rfl rfl)
set_option maxRecDepth 100000 in
theorem kD_Mo_sayStatics_0 : ∀ q ∈ kC_Mo_sayStatics_0, decode prog_14_method_166_code q.1 = .ok (q.2, pm_len q.1 q.2) := by decide +kernel
set_option maxRecDepth 100000 in
theorem kD_Mo_sayStatics_1 : ∀ q ∈ kC_Mo_sayStatics_1, decode prog_14_method_166_code q.1 = .ok (q.2, pm_len q.1 q.2) := by decide +kernel
theorem kD_Mo_sayStatics : ∀ q ∈ kC_Mo_sayStatics, decode prog_14_method_166_code q.1 = .ok (q.2, pm_len q.1 q.2) := List.forall_mem_append.mpr ⟨kD_Mo_sayStatics_0, kD_Mo_sayStatics_1⟩
set_option maxRecDepth 100000 in
theorem kW_Mo_sayStatics (l : Launch) (D : va_G) (base : Nat) (sa : Nat → Nat) : pm_Met l D kcl base (kZ sa) ⟨"RoutingFieldModel", "sayStatics", "(I)V"⟩ (.code ⟨"RoutingFieldModel", "sayStatics", "(I)V"⟩ prog_14_method_166_code 4 none :: pw_T) 6 150 (kP_Mo_sayStatics base sa) := by
  refine pm_met (by decide) rfl rfl ?_
  intro mc ms p e s m args below meth c hx hb hml hown hnm hts hbs hZ
  have ht : ∀ w ∈ pw_T, w.before args s = true := fun w h => hts w (List.mem_cons_of_mem _ h)
  exact ⟨hx, hb, hown, hbs, pm_look_all kD_Mo_sayStatics, kf_ok (init := false) ht hZ kF_Mo_ok (fun h => by cases h), km_ok ht kM_Mo_ok, kci_ok ht kI_Mo_ok, kli_ok ht kJ_Mo_ok, kar_ok ht hZ kA_Mo_ok,
    pm_look_all (List.forall_mem_cons.mpr ⟨pm_cokV hbs hZ ⟨hx, hb, hml, hown, hts⟩ (kW_Mo_aheadOf l D base sa) (fun mc ms => cwV 2 hts (pw_gV (pw_in 3257 (w := .methodLink "RoutingFieldModel" 1202 ⟨"RoutingFieldModel", "aheadOf", "(II)I"⟩) (by decide +kernel) rfl) ki_Mo_aheadOf ks_Mo_aheadOf kn_Mo ko_Mo_aheadOf) rfl rfl rfl (by decide +kernel) ⟨Nat.le_of_ble_eq_true rfl, Nat.le_of_ble_eq_true rfl⟩) (ci := 12) rfl, List.forall_mem_cons.mpr ⟨pm_cokV hbs hZ ⟨hx, hb, hml, hown, hts⟩ (kW_Mo_begin l D base sa) (fun mc ms => cwV 2 hts (pw_gV (pw_in 3237 (w := .methodLink "RoutingFieldModel" 1192 ⟨"RoutingFieldModel", "begin", "(JI)V"⟩) (by decide +kernel) rfl) ki_Mo_begin ks_Mo_begin kn_Mo ko_Mo_begin) rfl rfl rfl (by decide +kernel) ⟨Nat.le_of_ble_eq_true rfl, Nat.le_of_ble_eq_true rfl⟩) (ci := 12) rfl, List.forall_mem_cons.mpr ⟨pm_cokV hbs hZ ⟨hx, hb, hml, hown, hts⟩ (kW_Mo_wordPrefix l D base sa) (fun mc ms => cwV 4 hts (pw_gV (pw_in 3213 (w := .methodLink "RoutingFieldModel" 1163 ⟨"RoutingFieldModel", "wordPrefix", "(IJJI)V"⟩) (by decide +kernel) rfl) ki_Mo_wordPrefix ks_Mo_wordPrefix kn_Mo ko_Mo_wordPrefix) rfl rfl rfl (by decide +kernel) ⟨Nat.le_of_ble_eq_true rfl, Nat.le_of_ble_eq_true rfl⟩) (ci := 12) rfl, List.forall_mem_cons.mpr ⟨pm_cokV hbs hZ ⟨hx, hb, hml, hown, hts⟩ (kW_Mo_wordNumber l D base sa) (fun mc ms => cwV 1 hts (pw_gV (pw_in 3177 (w := .methodLink "RoutingFieldModel" 1151 ⟨"RoutingFieldModel", "wordNumber", "(I)V"⟩) (by decide +kernel) rfl) ki_Mo_wordNumber ks_Mo_wordNumber kn_Mo ko_Mo_wordNumber) rfl rfl rfl (by decide +kernel) ⟨Nat.le_of_ble_eq_true rfl, Nat.le_of_ble_eq_true rfl⟩) (ci := 12) rfl, List.forall_mem_cons.mpr ⟨pm_cokV hbs hZ ⟨hx, hb, hml, hown, hts⟩ (kW_Mo_word l D base sa) (fun mc ms => cwV 1 hts (pw_gV (pw_in 3185 (w := .methodLink "RoutingFieldModel" 1154 ⟨"RoutingFieldModel", "word", "(J)V"⟩) (by decide +kernel) rfl) ki_Mo_word ks_Mo_word kn_Mo ko_Mo_word) rfl rfl rfl (by decide +kernel) ⟨Nat.le_of_ble_eq_true rfl, Nat.le_of_ble_eq_true rfl⟩) (ci := 12) rfl, List.forall_mem_cons.mpr ⟨pm_cokV hbs hZ ⟨hx, hb, hml, hown, hts⟩ (kW_Mo_say l D base sa) (fun mc ms => cwV 1 hts (pw_gV (pw_in 3161 (w := .methodLink "RoutingFieldModel" 1119 ⟨"RoutingFieldModel", "say", "(I)V"⟩) (by decide +kernel) rfl) ki_Mo_say ks_Mo_say kn_Mo ko_Mo_say) rfl rfl rfl (by decide +kernel) ⟨Nat.le_of_ble_eq_true rfl, Nat.le_of_ble_eq_true rfl⟩) (ci := 12) rfl, fun _ h => absurd h List.not_mem_nil⟩⟩⟩⟩⟩⟩),
    hZ, kst_ok ht hZ (kS_Mo_ok sa), knar_ok ht, ktx_ok (kE_Mo_ok sa)⟩
set_option maxRecDepth 100000 in
theorem ki_Mo_sayFilters : Cond.instanceMethod ⟨"RoutingFieldModel", "sayFilters", "(I)V"⟩ ∈ pw_T := (pw_in 3263 (by decide +kernel) rfl)
set_option maxRecDepth 100000 in
theorem ks_Mo_sayFilters : Cond.selects "RoutingFieldModel" ⟨"RoutingFieldModel", "sayFilters", "(I)V"⟩ ⟨"RoutingFieldModel", "sayFilters", "(I)V"⟩ ∈ pw_T := (pw_sel 244 (q := (⟨"RoutingFieldModel", "sayFilters", "(I)V"⟩, 166)) (by decide +kernel))
set_option maxRecDepth 100000 in
theorem ko_Mo_sayFilters : Cond.code ⟨"RoutingFieldModel", "sayFilters", "(I)V"⟩ prog_14_method_167_code 4 none ∈ pw_T := (pw_in 3264 rfl rfl)
set_option maxRecDepth 100000 in
theorem kD_Mo_sayFilters_0 : ∀ q ∈ kC_Mo_sayFilters_0, decode prog_14_method_167_code q.1 = .ok (q.2, pm_len q.1 q.2) := by decide +kernel
set_option maxRecDepth 100000 in
theorem kD_Mo_sayFilters_1 : ∀ q ∈ kC_Mo_sayFilters_1, decode prog_14_method_167_code q.1 = .ok (q.2, pm_len q.1 q.2) := by decide +kernel
theorem kD_Mo_sayFilters : ∀ q ∈ kC_Mo_sayFilters, decode prog_14_method_167_code q.1 = .ok (q.2, pm_len q.1 q.2) := List.forall_mem_append.mpr ⟨kD_Mo_sayFilters_0, kD_Mo_sayFilters_1⟩
set_option maxRecDepth 100000 in
theorem kW_Mo_sayFilters (l : Launch) (D : va_G) (base : Nat) (sa : Nat → Nat) : pm_Met l D kcl base (kZ sa) ⟨"RoutingFieldModel", "sayFilters", "(I)V"⟩ (.code ⟨"RoutingFieldModel", "sayFilters", "(I)V"⟩ prog_14_method_167_code 4 none :: pw_T) 6 150 (kP_Mo_sayFilters base sa) := by
  refine pm_met (by decide) rfl rfl ?_
  intro mc ms p e s m args below meth c hx hb hml hown hnm hts hbs hZ
  have ht : ∀ w ∈ pw_T, w.before args s = true := fun w h => hts w (List.mem_cons_of_mem _ h)
  exact ⟨hx, hb, hown, hbs, pm_look_all kD_Mo_sayFilters, kf_ok (init := false) ht hZ kF_Mo_ok (fun h => by cases h), km_ok ht kM_Mo_ok, kci_ok ht kI_Mo_ok, kli_ok ht kJ_Mo_ok, kar_ok ht hZ kA_Mo_ok,
    pm_look_all (List.forall_mem_cons.mpr ⟨pm_cokV hbs hZ ⟨hx, hb, hml, hown, hts⟩ (kW_Mo_begin l D base sa) (fun mc ms => cwV 2 hts (pw_gV (pw_in 3237 (w := .methodLink "RoutingFieldModel" 1192 ⟨"RoutingFieldModel", "begin", "(JI)V"⟩) (by decide +kernel) rfl) ki_Mo_begin ks_Mo_begin kn_Mo ko_Mo_begin) rfl rfl rfl (by decide +kernel) ⟨Nat.le_of_ble_eq_true rfl, Nat.le_of_ble_eq_true rfl⟩) (ci := 12) rfl, List.forall_mem_cons.mpr ⟨pm_cokV hbs hZ ⟨hx, hb, hml, hown, hts⟩ (kW_Mo_word l D base sa) (fun mc ms => cwV 1 hts (pw_gV (pw_in 3185 (w := .methodLink "RoutingFieldModel" 1154 ⟨"RoutingFieldModel", "word", "(J)V"⟩) (by decide +kernel) rfl) ki_Mo_word ks_Mo_word kn_Mo ko_Mo_word) rfl rfl rfl (by decide +kernel) ⟨Nat.le_of_ble_eq_true rfl, Nat.le_of_ble_eq_true rfl⟩) (ci := 12) rfl, List.forall_mem_cons.mpr ⟨pm_cokV hbs hZ ⟨hx, hb, hml, hown, hts⟩ (kW_Mo_wordPrefix l D base sa) (fun mc ms => cwV 4 hts (pw_gV (pw_in 3213 (w := .methodLink "RoutingFieldModel" 1163 ⟨"RoutingFieldModel", "wordPrefix", "(IJJI)V"⟩) (by decide +kernel) rfl) ki_Mo_wordPrefix ks_Mo_wordPrefix kn_Mo ko_Mo_wordPrefix) rfl rfl rfl (by decide +kernel) ⟨Nat.le_of_ble_eq_true rfl, Nat.le_of_ble_eq_true rfl⟩) (ci := 12) rfl, List.forall_mem_cons.mpr ⟨pm_cokV hbs hZ ⟨hx, hb, hml, hown, hts⟩ (kW_Mo_say l D base sa) (fun mc ms => cwV 1 hts (pw_gV (pw_in 3161 (w := .methodLink "RoutingFieldModel" 1119 ⟨"RoutingFieldModel", "say", "(I)V"⟩) (by decide +kernel) rfl) ki_Mo_say ks_Mo_say kn_Mo ko_Mo_say) rfl rfl rfl (by decide +kernel) ⟨Nat.le_of_ble_eq_true rfl, Nat.le_of_ble_eq_true rfl⟩) (ci := 12) rfl, fun _ h => absurd h List.not_mem_nil⟩⟩⟩⟩),
    hZ, kst_ok ht hZ (kS_Mo_ok sa), knar_ok ht, ktx_ok (kE_Mo_ok sa)⟩
set_option maxRecDepth 100000 in
theorem ki_Mo_sayLists : Cond.instanceMethod ⟨"RoutingFieldModel", "sayLists", "(I)V"⟩ ∈ pw_T := (pw_in 3267 (by decide +kernel) rfl)
set_option maxRecDepth 100000 in
theorem ks_Mo_sayLists : Cond.selects "RoutingFieldModel" ⟨"RoutingFieldModel", "sayLists", "(I)V"⟩ ⟨"RoutingFieldModel", "sayLists", "(I)V"⟩ ∈ pw_T := (pw_sel 245 (q := (⟨"RoutingFieldModel", "sayLists", "(I)V"⟩, 166)) (by decide +kernel))
set_option maxRecDepth 100000 in
theorem ko_Mo_sayLists : Cond.code ⟨"RoutingFieldModel", "sayLists", "(I)V"⟩ prog_14_method_168_code 3 none ∈ pw_T := (pw_in 3268 rfl rfl)
set_option maxRecDepth 100000 in
theorem kD_Mo_sayLists_0 : ∀ q ∈ kC_Mo_sayLists_0, decode prog_14_method_168_code q.1 = .ok (q.2, pm_len q.1 q.2) := by decide +kernel
set_option maxRecDepth 100000 in
theorem kD_Mo_sayLists_1 : ∀ q ∈ kC_Mo_sayLists_1, decode prog_14_method_168_code q.1 = .ok (q.2, pm_len q.1 q.2) := by decide +kernel
set_option maxRecDepth 100000 in
theorem kD_Mo_sayLists_2 : ∀ q ∈ kC_Mo_sayLists_2, decode prog_14_method_168_code q.1 = .ok (q.2, pm_len q.1 q.2) := by decide +kernel
theorem kD_Mo_sayLists : ∀ q ∈ kC_Mo_sayLists, decode prog_14_method_168_code q.1 = .ok (q.2, pm_len q.1 q.2) := List.forall_mem_append.mpr ⟨kD_Mo_sayLists_0, List.forall_mem_append.mpr ⟨kD_Mo_sayLists_1, kD_Mo_sayLists_2⟩⟩
set_option maxRecDepth 100000 in
theorem kW_Mo_sayLists (l : Launch) (D : va_G) (base : Nat) (sa : Nat → Nat) : pm_Met l D kcl base (kZ sa) ⟨"RoutingFieldModel", "sayLists", "(I)V"⟩ (.code ⟨"RoutingFieldModel", "sayLists", "(I)V"⟩ prog_14_method_168_code 3 none :: pw_T) 4 94 (kP_Mo_sayLists base sa) := by
  refine pm_met (by decide) rfl rfl ?_
  intro mc ms p e s m args below meth c hx hb hml hown hnm hts hbs hZ
  have ht : ∀ w ∈ pw_T, w.before args s = true := fun w h => hts w (List.mem_cons_of_mem _ h)
  exact ⟨hx, hb, hown, hbs, pm_look_all kD_Mo_sayLists, kf_ok (init := false) ht hZ kF_Mo_ok (fun h => by cases h), km_ok ht kM_Mo_ok, kci_ok ht kI_Mo_ok, kli_ok ht kJ_Mo_ok, kar_ok ht hZ kA_Mo_ok,
    pm_look_all (List.forall_mem_cons.mpr ⟨pm_cokV hbs hZ ⟨hx, hb, hml, hown, hts⟩ (kW_Mo_begin l D base sa) (fun mc ms => cwV 2 hts (pw_gV (pw_in 3237 (w := .methodLink "RoutingFieldModel" 1192 ⟨"RoutingFieldModel", "begin", "(JI)V"⟩) (by decide +kernel) rfl) ki_Mo_begin ks_Mo_begin kn_Mo ko_Mo_begin) rfl rfl rfl (by decide +kernel) ⟨Nat.le_of_ble_eq_true rfl, Nat.le_of_ble_eq_true rfl⟩) (ci := 12) rfl, List.forall_mem_cons.mpr ⟨pm_cokV hbs hZ ⟨hx, hb, hml, hown, hts⟩ (kW_Mo_word l D base sa) (fun mc ms => cwV 1 hts (pw_gV (pw_in 3185 (w := .methodLink "RoutingFieldModel" 1154 ⟨"RoutingFieldModel", "word", "(J)V"⟩) (by decide +kernel) rfl) ki_Mo_word ks_Mo_word kn_Mo ko_Mo_word) rfl rfl rfl (by decide +kernel) ⟨Nat.le_of_ble_eq_true rfl, Nat.le_of_ble_eq_true rfl⟩) (ci := 12) rfl, List.forall_mem_cons.mpr ⟨pm_cokV hbs hZ ⟨hx, hb, hml, hown, hts⟩ (kW_Mo_say l D base sa) (fun mc ms => cwV 1 hts (pw_gV (pw_in 3161 (w := .methodLink "RoutingFieldModel" 1119 ⟨"RoutingFieldModel", "say", "(I)V"⟩) (by decide +kernel) rfl) ki_Mo_say ks_Mo_say kn_Mo ko_Mo_say) rfl rfl rfl (by decide +kernel) ⟨Nat.le_of_ble_eq_true rfl, Nat.le_of_ble_eq_true rfl⟩) (ci := 12) rfl, List.forall_mem_cons.mpr ⟨pm_cokV hbs hZ ⟨hx, hb, hml, hown, hts⟩ (kW_Mo_wordNumber l D base sa) (fun mc ms => cwV 1 hts (pw_gV (pw_in 3177 (w := .methodLink "RoutingFieldModel" 1151 ⟨"RoutingFieldModel", "wordNumber", "(I)V"⟩) (by decide +kernel) rfl) ki_Mo_wordNumber ks_Mo_wordNumber kn_Mo ko_Mo_wordNumber) rfl rfl rfl (by decide +kernel) ⟨Nat.le_of_ble_eq_true rfl, Nat.le_of_ble_eq_true rfl⟩) (ci := 12) rfl, fun _ h => absurd h List.not_mem_nil⟩⟩⟩⟩),
    hZ, kst_ok ht hZ (kS_Mo_ok sa), knar_ok ht, ktx_ok (kE_Mo_ok sa)⟩
