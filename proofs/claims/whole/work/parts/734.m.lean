set_option maxRecDepth 100000 in
theorem ki_Mo_sayAddress : Cond.instanceMethod ⟨"RoutingFieldModel", "sayAddress", "(IJJ)V"⟩ ∈ pw_T := (pw_in 3159 (by decide +kernel) rfl)
set_option maxRecDepth 100000 in
theorem ks_Mo_sayAddress : Cond.selects "RoutingFieldModel" ⟨"RoutingFieldModel", "sayAddress", "(IJJ)V"⟩ ⟨"RoutingFieldModel", "sayAddress", "(IJJ)V"⟩ ∈ pw_T := (pw_sel 222 (q := (⟨"RoutingFieldModel", "sayAddress", "(IJJ)V"⟩, 166)) (by decide +kernel))
set_option maxRecDepth 100000 in
theorem ko_Mo_sayAddress : Cond.code ⟨"RoutingFieldModel", "sayAddress", "(IJJ)V"⟩ prog_14_method_146_code 13 none ∈ pw_T := (pw_in 3160 rfl rfl)
set_option maxRecDepth 100000 in
theorem kD_Mo_sayAddress_0 : ∀ q ∈ kC_Mo_sayAddress_0, decode prog_14_method_146_code q.1 = .ok (q.2, pm_len q.1 q.2) := by decide +kernel
set_option maxRecDepth 100000 in
theorem kD_Mo_sayAddress_1 : ∀ q ∈ kC_Mo_sayAddress_1, decode prog_14_method_146_code q.1 = .ok (q.2, pm_len q.1 q.2) := by decide +kernel
set_option maxRecDepth 100000 in
theorem kD_Mo_sayAddress_2 : ∀ q ∈ kC_Mo_sayAddress_2, decode prog_14_method_146_code q.1 = .ok (q.2, pm_len q.1 q.2) := by decide +kernel
set_option maxRecDepth 100000 in
theorem kD_Mo_sayAddress_3 : ∀ q ∈ kC_Mo_sayAddress_3, decode prog_14_method_146_code q.1 = .ok (q.2, pm_len q.1 q.2) := by decide +kernel
theorem kD_Mo_sayAddress : ∀ q ∈ kC_Mo_sayAddress, decode prog_14_method_146_code q.1 = .ok (q.2, pm_len q.1 q.2) := List.forall_mem_append.mpr ⟨kD_Mo_sayAddress_0, List.forall_mem_append.mpr ⟨kD_Mo_sayAddress_1, List.forall_mem_append.mpr ⟨kD_Mo_sayAddress_2, kD_Mo_sayAddress_3⟩⟩⟩
set_option maxRecDepth 100000 in
theorem kW_Mo_sayAddress (l : Launch) (D : va_G) (base : Nat) (sa : Nat → Nat) : pm_Met l D kcl base (kZ sa) ⟨"RoutingFieldModel", "sayAddress", "(IJJ)V"⟩ (.code ⟨"RoutingFieldModel", "sayAddress", "(IJJ)V"⟩ prog_14_method_146_code 13 none :: pw_T) 3 66 (kP_Mo_sayAddress base sa) := by
  refine pm_met (by decide) rfl rfl ?_
  intro mc ms p e s m args below meth c hx hb hml hown hnm hts hbs hZ
  have ht : ∀ w ∈ pw_T, w.before args s = true := fun w h => hts w (List.mem_cons_of_mem _ h)
  exact ⟨hx, hb, hown, hbs, pm_look_all kD_Mo_sayAddress, kf_ok (init := false) ht hZ kF_Mo_ok (fun h => by cases h), km_ok ht kM_Mo_ok, kci_ok ht kI_Mo_ok, kli_ok ht kJ_Mo_ok, kar_ok ht hZ kA_Mo_ok,
    pm_look_all (List.forall_mem_cons.mpr ⟨pm_cokV hbs hZ ⟨hx, hb, hml, hown, hts⟩ (kW_Mo_say l D base sa) (fun mc ms => cwV 1 hts (pw_gV (pw_in 3161 (w := .methodLink "RoutingFieldModel" 1119 ⟨"RoutingFieldModel", "say", "(I)V"⟩) (by decide +kernel) rfl) ki_Mo_say ks_Mo_say kn_Mo ko_Mo_say) rfl rfl rfl (by decide +kernel) ⟨Nat.le_of_ble_eq_true rfl, Nat.le_of_ble_eq_true rfl⟩) (ci := 12) rfl, List.forall_mem_cons.mpr ⟨pm_cokV hbs hZ ⟨hx, hb, hml, hown, hts⟩ (kW_Mo_sayNumber l D base sa) (fun mc ms => cwV 1 hts (pw_gV (pw_in 3165 (w := .methodLink "RoutingFieldModel" 1125 ⟨"RoutingFieldModel", "sayNumber", "(I)V"⟩) (by decide +kernel) rfl) ki_Mo_sayNumber ks_Mo_sayNumber kn_Mo ko_Mo_sayNumber) rfl rfl rfl (by decide +kernel) ⟨Nat.le_of_ble_eq_true rfl, Nat.le_of_ble_eq_true rfl⟩) (ci := 12) rfl, List.forall_mem_cons.mpr ⟨pm_cokS hbs hZ ⟨hx, hb, hml, hown, hts⟩ (kW_Mo_hexadecimalDigit l D base sa) (fun mc ms => va_cwS 1 hts (pw_gS (pw_in 3174 (w := .methodLink "RoutingFieldModel" 1130 ⟨"RoutingFieldModel", "hexadecimalDigit", "(I)I"⟩) (by decide +kernel) rfl) kv_Mo_hexadecimalDigit kn_Mo ko_Mo_hexadecimalDigit) rfl rfl rfl (by decide +kernel) ⟨Nat.le_of_ble_eq_true rfl, Nat.le_of_ble_eq_true rfl⟩) (Nat.le_of_ble_eq_true rfl), fun _ h => absurd h List.not_mem_nil⟩⟩⟩),
    hZ, kst_ok ht hZ (kS_Mo_ok sa), knar_ok ht, ktx_ok (kE_Mo_ok sa)⟩
set_option maxRecDepth 100000 in
theorem ki_Mo_sayPrefix : Cond.instanceMethod ⟨"RoutingFieldModel", "sayPrefix", "(IJJI)V"⟩ ∈ pw_T := (pw_in 3155 (by decide +kernel) rfl)
set_option maxRecDepth 100000 in
theorem ks_Mo_sayPrefix : Cond.selects "RoutingFieldModel" ⟨"RoutingFieldModel", "sayPrefix", "(IJJI)V"⟩ ⟨"RoutingFieldModel", "sayPrefix", "(IJJI)V"⟩ ∈ pw_T := (pw_sel 221 (q := (⟨"RoutingFieldModel", "sayPrefix", "(IJJI)V"⟩, 166)) (by decide +kernel))
set_option maxRecDepth 100000 in
theorem ko_Mo_sayPrefix : Cond.code ⟨"RoutingFieldModel", "sayPrefix", "(IJJI)V"⟩ prog_14_method_147_code 7 none ∈ pw_T := (pw_in 3156 rfl rfl)
set_option maxRecDepth 100000 in
theorem kD_Mo_sayPrefix : ∀ q ∈ kC_Mo_sayPrefix, decode prog_14_method_147_code q.1 = .ok (q.2, pm_len q.1 q.2) := by decide +kernel
set_option maxRecDepth 100000 in
theorem kW_Mo_sayPrefix (l : Launch) (D : va_G) (base : Nat) (sa : Nat → Nat) : pm_Met l D kcl base (kZ sa) ⟨"RoutingFieldModel", "sayPrefix", "(IJJI)V"⟩ (.code ⟨"RoutingFieldModel", "sayPrefix", "(IJJI)V"⟩ prog_14_method_147_code 7 none :: pw_T) 4 98 (kP_Mo_sayPrefix base sa) := by
  refine pm_met (by decide) rfl rfl ?_
  intro mc ms p e s m args below meth c hx hb hml hown hnm hts hbs hZ
  have ht : ∀ w ∈ pw_T, w.before args s = true := fun w h => hts w (List.mem_cons_of_mem _ h)
  exact ⟨hx, hb, hown, hbs, pm_look_all kD_Mo_sayPrefix, kf_ok (init := false) ht hZ kF_Mo_ok (fun h => by cases h), km_ok ht kM_Mo_ok, kci_ok ht kI_Mo_ok, kli_ok ht kJ_Mo_ok, kar_ok ht hZ kA_Mo_ok,
    pm_look_all (List.forall_mem_cons.mpr ⟨pm_cokV hbs hZ ⟨hx, hb, hml, hown, hts⟩ (kW_Mo_sayAddress l D base sa) (fun mc ms => cwV 3 hts (pw_gV (pw_in 3157 (w := .methodLink "RoutingFieldModel" 1133 ⟨"RoutingFieldModel", "sayAddress", "(IJJ)V"⟩) (by decide +kernel) rfl) ki_Mo_sayAddress ks_Mo_sayAddress kn_Mo ko_Mo_sayAddress) rfl rfl rfl (by decide +kernel) ⟨Nat.le_of_ble_eq_true rfl, Nat.le_of_ble_eq_true rfl⟩) (ci := 12) rfl, List.forall_mem_cons.mpr ⟨pm_cokV hbs hZ ⟨hx, hb, hml, hown, hts⟩ (kW_Mo_say l D base sa) (fun mc ms => cwV 1 hts (pw_gV (pw_in 3161 (w := .methodLink "RoutingFieldModel" 1119 ⟨"RoutingFieldModel", "say", "(I)V"⟩) (by decide +kernel) rfl) ki_Mo_say ks_Mo_say kn_Mo ko_Mo_say) rfl rfl rfl (by decide +kernel) ⟨Nat.le_of_ble_eq_true rfl, Nat.le_of_ble_eq_true rfl⟩) (ci := 12) rfl, List.forall_mem_cons.mpr ⟨pm_cokV hbs hZ ⟨hx, hb, hml, hown, hts⟩ (kW_Mo_sayNumber l D base sa) (fun mc ms => cwV 1 hts (pw_gV (pw_in 3165 (w := .methodLink "RoutingFieldModel" 1125 ⟨"RoutingFieldModel", "sayNumber", "(I)V"⟩) (by decide +kernel) rfl) ki_Mo_sayNumber ks_Mo_sayNumber kn_Mo ko_Mo_sayNumber) rfl rfl rfl (by decide +kernel) ⟨Nat.le_of_ble_eq_true rfl, Nat.le_of_ble_eq_true rfl⟩) (ci := 12) rfl, fun _ h => absurd h List.not_mem_nil⟩⟩⟩),
    hZ, kst_ok ht hZ (kS_Mo_ok sa), knar_ok ht, ktx_ok (kE_Mo_ok sa)⟩
set_option maxRecDepth 100000 in
theorem ki_Mo_space : Cond.instanceMethod ⟨"RoutingFieldModel", "space", "()V"⟩ ∈ pw_T := (pw_in 3183 (by decide +kernel) rfl)
set_option maxRecDepth 100000 in
theorem ks_Mo_space : Cond.selects "RoutingFieldModel" ⟨"RoutingFieldModel", "space", "()V"⟩ ⟨"RoutingFieldModel", "space", "()V"⟩ ∈ pw_T := (pw_sel 227 (q := (⟨"RoutingFieldModel", "space", "()V"⟩, 166)) (by decide +kernel))
set_option maxRecDepth 100000 in
theorem ko_Mo_space : Cond.code ⟨"RoutingFieldModel", "space", "()V"⟩ prog_14_method_148_code 1 none ∈ pw_T := (pw_in 3184 rfl rfl)
set_option maxRecDepth 100000 in
theorem kD_Mo_space : ∀ q ∈ kC_Mo_space, decode prog_14_method_148_code q.1 = .ok (q.2, pm_len q.1 q.2) := by decide +kernel
set_option maxRecDepth 100000 in
theorem kW_Mo_space (l : Launch) (D : va_G) (base : Nat) (sa : Nat → Nat) : pm_Met l D kcl base (kZ sa) ⟨"RoutingFieldModel", "space", "()V"⟩ (.code ⟨"RoutingFieldModel", "space", "()V"⟩ prog_14_method_148_code 1 none :: pw_T) 1 23 (kP_Mo_space base sa) := by
  refine pm_met (by decide) rfl rfl ?_
  intro mc ms p e s m args below meth c hx hb hml hown hnm hts hbs hZ
  have ht : ∀ w ∈ pw_T, w.before args s = true := fun w h => hts w (List.mem_cons_of_mem _ h)
  exact ⟨hx, hb, hown, hbs, pm_look_all kD_Mo_space, kf_ok (init := false) ht hZ kF_Mo_ok (fun h => by cases h), km_ok ht kM_Mo_ok, kci_ok ht kI_Mo_ok, kli_ok ht kJ_Mo_ok, kar_ok ht hZ kA_Mo_ok,
    pm_look_all (List.forall_mem_cons.mpr ⟨pm_cokV hbs hZ ⟨hx, hb, hml, hown, hts⟩ (kW_Mo_say l D base sa) (fun mc ms => cwV 1 hts (pw_gV (pw_in 3161 (w := .methodLink "RoutingFieldModel" 1119 ⟨"RoutingFieldModel", "say", "(I)V"⟩) (by decide +kernel) rfl) ki_Mo_say ks_Mo_say kn_Mo ko_Mo_say) rfl rfl rfl (by decide +kernel) ⟨Nat.le_of_ble_eq_true rfl, Nat.le_of_ble_eq_true rfl⟩) (ci := 12) rfl, fun _ h => absurd h List.not_mem_nil⟩),
    hZ, kst_ok ht hZ (kS_Mo_ok sa), knar_ok ht, ktx_ok (kE_Mo_ok sa)⟩
set_option maxRecDepth 100000 in
theorem ki_Mo_word : Cond.instanceMethod ⟨"RoutingFieldModel", "word", "(J)V"⟩ ∈ pw_T := (pw_in 3187 (by decide +kernel) rfl)
set_option maxRecDepth 100000 in
theorem ks_Mo_word : Cond.selects "RoutingFieldModel" ⟨"RoutingFieldModel", "word", "(J)V"⟩ ⟨"RoutingFieldModel", "word", "(J)V"⟩ ∈ pw_T := (pw_sel 228 (q := (⟨"RoutingFieldModel", "word", "(J)V"⟩, 166)) (by decide +kernel))
set_option maxRecDepth 100000 in
theorem ko_Mo_word : Cond.code ⟨"RoutingFieldModel", "word", "(J)V"⟩ prog_14_method_149_code 3 none ∈ pw_T := (pw_in 3188 rfl rfl)
set_option maxRecDepth 100000 in
theorem kD_Mo_word : ∀ q ∈ kC_Mo_word, decode prog_14_method_149_code q.1 = .ok (q.2, pm_len q.1 q.2) := by decide +kernel
set_option maxRecDepth 100000 in
theorem kW_Mo_word (l : Launch) (D : va_G) (base : Nat) (sa : Nat → Nat) : pm_Met l D kcl base (kZ sa) ⟨"RoutingFieldModel", "word", "(J)V"⟩ (.code ⟨"RoutingFieldModel", "word", "(J)V"⟩ prog_14_method_149_code 3 none :: pw_T) 2 49 (kP_Mo_word base sa) := by
  refine pm_met (by decide) rfl rfl ?_
  intro mc ms p e s m args below meth c hx hb hml hown hnm hts hbs hZ
  have ht : ∀ w ∈ pw_T, w.before args s = true := fun w h => hts w (List.mem_cons_of_mem _ h)
  exact ⟨hx, hb, hown, hbs, pm_look_all kD_Mo_word, kf_ok (init := false) ht hZ kF_Mo_ok (fun h => by cases h), km_ok ht kM_Mo_ok, kci_ok ht kI_Mo_ok, kli_ok ht kJ_Mo_ok, kar_ok ht hZ kA_Mo_ok,
    pm_look_all (List.forall_mem_cons.mpr ⟨pm_cokV hbs hZ ⟨hx, hb, hml, hown, hts⟩ (kW_Mo_space l D base sa) (fun mc ms => cwV 0 hts (pw_gV (pw_in 3181 (w := .methodLink "RoutingFieldModel" 1137 ⟨"RoutingFieldModel", "space", "()V"⟩) (by decide +kernel) rfl) ki_Mo_space ks_Mo_space kn_Mo ko_Mo_space) rfl rfl rfl (by decide +kernel) ⟨Nat.le_of_ble_eq_true rfl, Nat.le_of_ble_eq_true rfl⟩) (ci := 12) rfl, List.forall_mem_cons.mpr ⟨pm_cokV hbs hZ ⟨hx, hb, hml, hown, hts⟩ (kW_Mo_sayName l D base sa) (fun mc ms => cwV 1 hts (pw_gV (pw_in 3189 (w := .methodLink "RoutingFieldModel" 1140 ⟨"RoutingFieldModel", "sayName", "(J)V"⟩) (by decide +kernel) rfl) ki_Mo_sayName ks_Mo_sayName kn_Mo ko_Mo_sayName) rfl rfl rfl (by decide +kernel) ⟨Nat.le_of_ble_eq_true rfl, Nat.le_of_ble_eq_true rfl⟩) (ci := 12) rfl, fun _ h => absurd h List.not_mem_nil⟩⟩),
    hZ, kst_ok ht hZ (kS_Mo_ok sa), knar_ok ht, ktx_ok (kE_Mo_ok sa)⟩
set_option maxRecDepth 100000 in
theorem ki_Mo_wordNumber : Cond.instanceMethod ⟨"RoutingFieldModel", "wordNumber", "(I)V"⟩ ∈ pw_T := (pw_in 3179 (by decide +kernel) rfl)
set_option maxRecDepth 100000 in
theorem ks_Mo_wordNumber : Cond.selects "RoutingFieldModel" ⟨"RoutingFieldModel", "wordNumber", "(I)V"⟩ ⟨"RoutingFieldModel", "wordNumber", "(I)V"⟩ ∈ pw_T := (pw_sel 226 (q := (⟨"RoutingFieldModel", "wordNumber", "(I)V"⟩, 166)) (by decide +kernel))
set_option maxRecDepth 100000 in
theorem ko_Mo_wordNumber : Cond.code ⟨"RoutingFieldModel", "wordNumber", "(I)V"⟩ prog_14_method_150_code 2 none ∈ pw_T := (pw_in 3180 rfl rfl)
set_option maxRecDepth 100000 in
theorem kD_Mo_wordNumber : ∀ q ∈ kC_Mo_wordNumber, decode prog_14_method_150_code q.1 = .ok (q.2, pm_len q.1 q.2) := by decide +kernel
set_option maxRecDepth 100000 in
theorem kW_Mo_wordNumber (l : Launch) (D : va_G) (base : Nat) (sa : Nat → Nat) : pm_Met l D kcl base (kZ sa) ⟨"RoutingFieldModel", "wordNumber", "(I)V"⟩ (.code ⟨"RoutingFieldModel", "wordNumber", "(I)V"⟩ prog_14_method_150_code 2 none :: pw_T) 3 66 (kP_Mo_wordNumber base sa) := by
  refine pm_met (by decide) rfl rfl ?_
  intro mc ms p e s m args below meth c hx hb hml hown hnm hts hbs hZ
  have ht : ∀ w ∈ pw_T, w.before args s = true := fun w h => hts w (List.mem_cons_of_mem _ h)
  exact ⟨hx, hb, hown, hbs, pm_look_all kD_Mo_wordNumber, kf_ok (init := false) ht hZ kF_Mo_ok (fun h => by cases h), km_ok ht kM_Mo_ok, kci_ok ht kI_Mo_ok, kli_ok ht kJ_Mo_ok, kar_ok ht hZ kA_Mo_ok,
    pm_look_all (List.forall_mem_cons.mpr ⟨pm_cokV hbs hZ ⟨hx, hb, hml, hown, hts⟩ (kW_Mo_space l D base sa) (fun mc ms => cwV 0 hts (pw_gV (pw_in 3181 (w := .methodLink "RoutingFieldModel" 1137 ⟨"RoutingFieldModel", "space", "()V"⟩) (by decide +kernel) rfl) ki_Mo_space ks_Mo_space kn_Mo ko_Mo_space) rfl rfl rfl (by decide +kernel) ⟨Nat.le_of_ble_eq_true rfl, Nat.le_of_ble_eq_true rfl⟩) (ci := 12) rfl, List.forall_mem_cons.mpr ⟨pm_cokV hbs hZ ⟨hx, hb, hml, hown, hts⟩ (kW_Mo_sayNumber l D base sa) (fun mc ms => cwV 1 hts (pw_gV (pw_in 3165 (w := .methodLink "RoutingFieldModel" 1125 ⟨"RoutingFieldModel", "sayNumber", "(I)V"⟩) (by decide +kernel) rfl) ki_Mo_sayNumber ks_Mo_sayNumber kn_Mo ko_Mo_sayNumber) rfl rfl rfl (by decide +kernel) ⟨Nat.le_of_ble_eq_true rfl, Nat.le_of_ble_eq_true rfl⟩) (ci := 12) rfl, fun _ h => absurd h List.not_mem_nil⟩⟩),
    hZ, kst_ok ht hZ (kS_Mo_ok sa), knar_ok ht, ktx_ok (kE_Mo_ok sa)⟩
set_option maxRecDepth 100000 in
theorem ki_Mo_wordPrefix : Cond.instanceMethod ⟨"RoutingFieldModel", "wordPrefix", "(IJJI)V"⟩ ∈ pw_T := (pw_in 3215 (by decide +kernel) rfl)
set_option maxRecDepth 100000 in
theorem ks_Mo_wordPrefix : Cond.selects "RoutingFieldModel" ⟨"RoutingFieldModel", "wordPrefix", "(IJJI)V"⟩ ⟨"RoutingFieldModel", "wordPrefix", "(IJJI)V"⟩ ∈ pw_T := (pw_sel 233 (q := (⟨"RoutingFieldModel", "wordPrefix", "(IJJI)V"⟩, 166)) (by decide +kernel))
set_option maxRecDepth 100000 in
theorem ko_Mo_wordPrefix : Cond.code ⟨"RoutingFieldModel", "wordPrefix", "(IJJI)V"⟩ prog_14_method_151_code 7 none ∈ pw_T := (pw_in 3216 rfl rfl)
set_option maxRecDepth 100000 in
theorem kD_Mo_wordPrefix : ∀ q ∈ kC_Mo_wordPrefix, decode prog_14_method_151_code q.1 = .ok (q.2, pm_len q.1 q.2) := by decide +kernel
set_option maxRecDepth 100000 in
theorem kW_Mo_wordPrefix (l : Launch) (D : va_G) (base : Nat) (sa : Nat → Nat) : pm_Met l D kcl base (kZ sa) ⟨"RoutingFieldModel", "wordPrefix", "(IJJI)V"⟩ (.code ⟨"RoutingFieldModel", "wordPrefix", "(IJJI)V"⟩ prog_14_method_151_code 7 none :: pw_T) 5 124 (kP_Mo_wordPrefix base sa) := by
  refine pm_met (by decide) rfl rfl ?_
  intro mc ms p e s m args below meth c hx hb hml hown hnm hts hbs hZ
  have ht : ∀ w ∈ pw_T, w.before args s = true := fun w h => hts w (List.mem_cons_of_mem _ h)
  exact ⟨hx, hb, hown, hbs, pm_look_all kD_Mo_wordPrefix, kf_ok (init := false) ht hZ kF_Mo_ok (fun h => by cases h), km_ok ht kM_Mo_ok, kci_ok ht kI_Mo_ok, kli_ok ht kJ_Mo_ok, kar_ok ht hZ kA_Mo_ok,
    pm_look_all (List.forall_mem_cons.mpr ⟨pm_cokV hbs hZ ⟨hx, hb, hml, hown, hts⟩ (kW_Mo_space l D base sa) (fun mc ms => cwV 0 hts (pw_gV (pw_in 3181 (w := .methodLink "RoutingFieldModel" 1137 ⟨"RoutingFieldModel", "space", "()V"⟩) (by decide +kernel) rfl) ki_Mo_space ks_Mo_space kn_Mo ko_Mo_space) rfl rfl rfl (by decide +kernel) ⟨Nat.le_of_ble_eq_true rfl, Nat.le_of_ble_eq_true rfl⟩) (ci := 12) rfl, List.forall_mem_cons.mpr ⟨pm_cokV hbs hZ ⟨hx, hb, hml, hown, hts⟩ (kW_Mo_sayPrefix l D base sa) (fun mc ms => cwV 4 hts (pw_gV (pw_in 3153 (w := .methodLink "RoutingFieldModel" 1144 ⟨"RoutingFieldModel", "sayPrefix", "(IJJI)V"⟩) (by decide +kernel) rfl) ki_Mo_sayPrefix ks_Mo_sayPrefix kn_Mo ko_Mo_sayPrefix) rfl rfl rfl (by decide +kernel) ⟨Nat.le_of_ble_eq_true rfl, Nat.le_of_ble_eq_true rfl⟩) (ci := 12) rfl, fun _ h => absurd h List.not_mem_nil⟩⟩),
    hZ, kst_ok ht hZ (kS_Mo_ok sa), knar_ok ht, ktx_ok (kE_Mo_ok sa)⟩
set_option maxRecDepth 100000 in
theorem ki_Mo_shown : Cond.instanceMethod ⟨"RoutingFieldModel", "shown", "()I"⟩ ∈ pw_T := (pw_in 3219 (by decide +kernel) rfl)
set_option maxRecDepth 100000 in
theorem ks_Mo_shown : Cond.selects "RoutingFieldModel" ⟨"RoutingFieldModel", "shown", "()I"⟩ ⟨"RoutingFieldModel", "shown", "()I"⟩ ∈ pw_T := (pw_sel 234 (q := (⟨"RoutingFieldModel", "shown", "()I"⟩, 166)) (by decide +kernel))
set_option maxRecDepth 100000 in
theorem ko_Mo_shown : Cond.code ⟨"RoutingFieldModel", "shown", "()I"⟩ prog_14_method_152_code 2 (some .int) ∈ pw_T := (pw_in 3220 rfl rfl)
set_option maxRecDepth 100000 in
theorem kD_Mo_shown : ∀ q ∈ kC_Mo_shown, decode prog_14_method_152_code q.1 = .ok (q.2, pm_len q.1 q.2) := by decide +kernel
set_option maxRecDepth 100000 in
theorem kW_Mo_shown (l : Launch) (D : va_G) (base : Nat) (sa : Nat → Nat) : pm_Met l D kcl base (kZ sa) ⟨"RoutingFieldModel", "shown", "()I"⟩ (.code ⟨"RoutingFieldModel", "shown", "()I"⟩ prog_14_method_152_code 2 (some .int) :: pw_T) 0 0 (kP_Mo_shown base sa) := by
  refine pm_met (by decide) rfl rfl ?_
  intro mc ms p e s m args below meth c hx hb hml hown hnm hts hbs hZ
  have ht : ∀ w ∈ pw_T, w.before args s = true := fun w h => hts w (List.mem_cons_of_mem _ h)
  exact ⟨hx, hb, hown, hbs, pm_look_all kD_Mo_shown, kf_ok (init := false) ht hZ kF_Mo_ok (fun h => by cases h), km_ok ht kM_Mo_ok, kci_ok ht kI_Mo_ok, kli_ok ht kJ_Mo_ok, kar_ok ht hZ kA_Mo_ok,
    pm_look_all (fun _ h => absurd h List.not_mem_nil),
    hZ, kst_ok ht hZ (kS_Mo_ok sa), knar_ok ht, ktx_ok (kE_Mo_ok sa)⟩
set_option maxRecDepth 100000 in
theorem ki_Mo_isRouter : Cond.instanceMethod ⟨"RoutingFieldModel", "isRouter", "(I)Z"⟩ ∈ pw_T := (pw_in 3147 (by decide +kernel) rfl)
set_option maxRecDepth 100000 in
theorem ks_Mo_isRouter : Cond.selects "RoutingFieldModel" ⟨"RoutingFieldModel", "isRouter", "(I)Z"⟩ ⟨"RoutingFieldModel", "isRouter", "(I)Z"⟩ ∈ pw_T := (pw_sel 219 (q := (⟨"RoutingFieldModel", "isRouter", "(I)Z"⟩, 166)) (by decide +kernel))
set_option maxRecDepth 100000 in
theorem ko_Mo_isRouter : Cond.code ⟨"RoutingFieldModel", "isRouter", "(I)Z"⟩ prog_14_method_153_code 2 (some .boolean) ∈ pw_T := (pw_in 3148 rfl rfl)
set_option maxRecDepth 100000 in
theorem kD_Mo_isRouter : ∀ q ∈ kC_Mo_isRouter, decode prog_14_method_153_code q.1 = .ok (q.2, pm_len q.1 q.2) := by decide +kernel
set_option maxRecDepth 100000 in
theorem kW_Mo_isRouter (l : Launch) (D : va_G) (base : Nat) (sa : Nat → Nat) : pm_Met l D kcl base (kZ sa) ⟨"RoutingFieldModel", "isRouter", "(I)Z"⟩ (.code ⟨"RoutingFieldModel", "isRouter", "(I)Z"⟩ prog_14_method_153_code 2 (some .boolean) :: pw_T) 0 0 (kP_Mo_isRouter base sa) := by
  refine pm_met (by decide) rfl rfl ?_
  intro mc ms p e s m args below meth c hx hb hml hown hnm hts hbs hZ
  have ht : ∀ w ∈ pw_T, w.before args s = true := fun w h => hts w (List.mem_cons_of_mem _ h)
  exact ⟨hx, hb, hown, hbs, pm_look_all kD_Mo_isRouter, kf_ok (init := false) ht hZ kF_Mo_ok (fun h => by cases h), km_ok ht kM_Mo_ok, kci_ok ht kI_Mo_ok, kli_ok ht kJ_Mo_ok, kar_ok ht hZ kA_Mo_ok,
    pm_look_all (fun _ h => absurd h List.not_mem_nil),
    hZ, kst_ok ht hZ (kS_Mo_ok sa), knar_ok ht, ktx_ok (kE_Mo_ok sa)⟩
set_option maxRecDepth 100000 in
theorem ki_Mo_sayRoute : Cond.instanceMethod ⟨"RoutingFieldModel", "sayRoute", "(I)V"⟩ ∈ pw_T := (pw_in 3151 (by decide +kernel) rfl)
set_option maxRecDepth 100000 in
theorem ks_Mo_sayRoute : Cond.selects "RoutingFieldModel" ⟨"RoutingFieldModel", "sayRoute", "(I)V"⟩ ⟨"RoutingFieldModel", "sayRoute", "(I)V"⟩ ∈ pw_T := (pw_sel 220 (q := (⟨"RoutingFieldModel", "sayRoute", "(I)V"⟩, 166)) (by decide +kernel))
set_option maxRecDepth 100000 in
theorem ko_Mo_sayRoute : Cond.code ⟨"RoutingFieldModel", "sayRoute", "(I)V"⟩ prog_14_method_154_code 2 none ∈ pw_T := (pw_in 3152 rfl rfl)
set_option maxRecDepth 100000 in
theorem kD_Mo_sayRoute_0 : ∀ q ∈ kC_Mo_sayRoute_0, decode prog_14_method_154_code q.1 = .ok (q.2, pm_len q.1 q.2) := by decide +kernel
set_option maxRecDepth 100000 in
theorem kD_Mo_sayRoute_1 : ∀ q ∈ kC_Mo_sayRoute_1, decode prog_14_method_154_code q.1 = .ok (q.2, pm_len q.1 q.2) := by decide +kernel
theorem kD_Mo_sayRoute : ∀ q ∈ kC_Mo_sayRoute, decode prog_14_method_154_code q.1 = .ok (q.2, pm_len q.1 q.2) := List.forall_mem_append.mpr ⟨kD_Mo_sayRoute_0, kD_Mo_sayRoute_1⟩
set_option maxRecDepth 100000 in
theorem kW_Mo_sayRoute (l : Launch) (D : va_G) (base : Nat) (sa : Nat → Nat) : pm_Met l D kcl base (kZ sa) ⟨"RoutingFieldModel", "sayRoute", "(I)V"⟩ (.code ⟨"RoutingFieldModel", "sayRoute", "(I)V"⟩ prog_14_method_154_code 2 none :: pw_T) 5 124 (kP_Mo_sayRoute base sa) := by
  refine pm_met (by decide) rfl rfl ?_
  intro mc ms p e s m args below meth c hx hb hml hown hnm hts hbs hZ
  have ht : ∀ w ∈ pw_T, w.before args s = true := fun w h => hts w (List.mem_cons_of_mem _ h)
  exact ⟨hx, hb, hown, hbs, pm_look_all kD_Mo_sayRoute, kf_ok (init := false) ht hZ kF_Mo_ok (fun h => by cases h), km_ok ht kM_Mo_ok, kci_ok ht kI_Mo_ok, kli_ok ht kJ_Mo_ok, kar_ok ht hZ kA_Mo_ok,
    pm_look_all (List.forall_mem_cons.mpr ⟨pm_cokV hbs hZ ⟨hx, hb, hml, hown, hts⟩ (kW_Mo_sayPrefix l D base sa) (fun mc ms => cwV 4 hts (pw_gV (pw_in 3153 (w := .methodLink "RoutingFieldModel" 1144 ⟨"RoutingFieldModel", "sayPrefix", "(IJJI)V"⟩) (by decide +kernel) rfl) ki_Mo_sayPrefix ks_Mo_sayPrefix kn_Mo ko_Mo_sayPrefix) rfl rfl rfl (by decide +kernel) ⟨Nat.le_of_ble_eq_true rfl, Nat.le_of_ble_eq_true rfl⟩) (ci := 12) rfl, List.forall_mem_cons.mpr ⟨pm_cokV hbs hZ ⟨hx, hb, hml, hown, hts⟩ (kW_Mo_wordNumber l D base sa) (fun mc ms => cwV 1 hts (pw_gV (pw_in 3177 (w := .methodLink "RoutingFieldModel" 1151 ⟨"RoutingFieldModel", "wordNumber", "(I)V"⟩) (by decide +kernel) rfl) ki_Mo_wordNumber ks_Mo_wordNumber kn_Mo ko_Mo_wordNumber) rfl rfl rfl (by decide +kernel) ⟨Nat.le_of_ble_eq_true rfl, Nat.le_of_ble_eq_true rfl⟩) (ci := 12) rfl, List.forall_mem_cons.mpr ⟨pm_cokV hbs hZ ⟨hx, hb, hml, hown, hts⟩ (kW_Mo_word l D base sa) (fun mc ms => cwV 1 hts (pw_gV (pw_in 3185 (w := .methodLink "RoutingFieldModel" 1154 ⟨"RoutingFieldModel", "word", "(J)V"⟩) (by decide +kernel) rfl) ki_Mo_word ks_Mo_word kn_Mo ko_Mo_word) rfl rfl rfl (by decide +kernel) ⟨Nat.le_of_ble_eq_true rfl, Nat.le_of_ble_eq_true rfl⟩) (ci := 12) rfl, List.forall_mem_cons.mpr ⟨pm_cokV hbs hZ ⟨hx, hb, hml, hown, hts⟩ (kW_Mo_space l D base sa) (fun mc ms => cwV 0 hts (pw_gV (pw_in 3181 (w := .methodLink "RoutingFieldModel" 1137 ⟨"RoutingFieldModel", "space", "()V"⟩) (by decide +kernel) rfl) ki_Mo_space ks_Mo_space kn_Mo ko_Mo_space) rfl rfl rfl (by decide +kernel) ⟨Nat.le_of_ble_eq_true rfl, Nat.le_of_ble_eq_true rfl⟩) (ci := 12) rfl, List.forall_mem_cons.mpr ⟨pm_cokV hbs hZ ⟨hx, hb, hml, hown, hts⟩ (kW_Mo_sayAddress l D base sa) (fun mc ms => cwV 3 hts (pw_gV (pw_in 3157 (w := .methodLink "RoutingFieldModel" 1133 ⟨"RoutingFieldModel", "sayAddress", "(IJJ)V"⟩) (by decide +kernel) rfl) ki_Mo_sayAddress ks_Mo_sayAddress kn_Mo ko_Mo_sayAddress) rfl rfl rfl (by decide +kernel) ⟨Nat.le_of_ble_eq_true rfl, Nat.le_of_ble_eq_true rfl⟩) (ci := 12) rfl, List.forall_mem_cons.mpr ⟨pm_cokV hbs hZ ⟨hx, hb, hml, hown, hts⟩ (kW_Mo_say l D base sa) (fun mc ms => cwV 1 hts (pw_gV (pw_in 3161 (w := .methodLink "RoutingFieldModel" 1119 ⟨"RoutingFieldModel", "say", "(I)V"⟩) (by decide +kernel) rfl) ki_Mo_say ks_Mo_say kn_Mo ko_Mo_say) rfl rfl rfl (by decide +kernel) ⟨Nat.le_of_ble_eq_true rfl, Nat.le_of_ble_eq_true rfl⟩) (ci := 12) rfl, fun _ h => absurd h List.not_mem_nil⟩⟩⟩⟩⟩⟩),
    hZ, kst_ok ht hZ (kS_Mo_ok sa), knar_ok ht, ktx_ok (kE_Mo_ok sa)⟩
set_option maxRecDepth 100000 in
theorem ki_Mo_sayTimes : Cond.instanceMethod ⟨"RoutingFieldModel", "sayTimes", "(I)V"⟩ ∈ pw_T := (pw_in 3198 (by decide +kernel) rfl)
set_option maxRecDepth 100000 in
theorem ks_Mo_sayTimes : Cond.selects "RoutingFieldModel" ⟨"RoutingFieldModel", "sayTimes", "(I)V"⟩ ⟨"RoutingFieldModel", "sayTimes", "(I)V"⟩ ∈ pw_T := (pw_sel 230 (q := (⟨"RoutingFieldModel", "sayTimes", "(I)V"⟩, 166)) (by decide +kernel))
set_option maxRecDepth 100000 in
theorem ko_Mo_sayTimes : Cond.code ⟨"RoutingFieldModel", "sayTimes", "(I)V"⟩ prog_14_method_155_code 2 none ∈ pw_T := (pw_in 3199 rfl rfl)
set_option maxRecDepth 100000 in
theorem kD_Mo_sayTimes_0 : ∀ q ∈ kC_Mo_sayTimes_0, decode prog_14_method_155_code q.1 = .ok (q.2, pm_len q.1 q.2) := by decide +kernel
set_option maxRecDepth 100000 in
theorem kD_Mo_sayTimes_1 : ∀ q ∈ kC_Mo_sayTimes_1, decode prog_14_method_155_code q.1 = .ok (q.2, pm_len q.1 q.2) := by decide +kernel
theorem kD_Mo_sayTimes : ∀ q ∈ kC_Mo_sayTimes, decode prog_14_method_155_code q.1 = .ok (q.2, pm_len q.1 q.2) := List.forall_mem_append.mpr ⟨kD_Mo_sayTimes_0, kD_Mo_sayTimes_1⟩
set_option maxRecDepth 100000 in
theorem kW_Mo_sayTimes (l : Launch) (D : va_G) (base : Nat) (sa : Nat → Nat) : pm_Met l D kcl base (kZ sa) ⟨"RoutingFieldModel", "sayTimes", "(I)V"⟩ (.code ⟨"RoutingFieldModel", "sayTimes", "(I)V"⟩ prog_14_method_155_code 2 none :: pw_T) 5 124 (kP_Mo_sayTimes base sa) := by
  refine pm_met (by decide) rfl rfl ?_
  intro mc ms p e s m args below meth c hx hb hml hown hnm hts hbs hZ
  have ht : ∀ w ∈ pw_T, w.before args s = true := fun w h => hts w (List.mem_cons_of_mem _ h)
  exact ⟨hx, hb, hown, hbs, pm_look_all kD_Mo_sayTimes, kf_ok (init := false) ht hZ kF_Mo_ok (fun h => by cases h), km_ok ht kM_Mo_ok, kci_ok ht kI_Mo_ok, kli_ok ht kJ_Mo_ok, kar_ok ht hZ kA_Mo_ok,
    pm_look_all (List.forall_mem_cons.mpr ⟨pm_cokV hbs hZ ⟨hx, hb, hml, hown, hts⟩ (kW_Mo_sayPrefix l D base sa) (fun mc ms => cwV 4 hts (pw_gV (pw_in 3153 (w := .methodLink "RoutingFieldModel" 1144 ⟨"RoutingFieldModel", "sayPrefix", "(IJJI)V"⟩) (by decide +kernel) rfl) ki_Mo_sayPrefix ks_Mo_sayPrefix kn_Mo ko_Mo_sayPrefix) rfl rfl rfl (by decide +kernel) ⟨Nat.le_of_ble_eq_true rfl, Nat.le_of_ble_eq_true rfl⟩) (ci := 12) rfl, List.forall_mem_cons.mpr ⟨pm_cokV hbs hZ ⟨hx, hb, hml, hown, hts⟩ (kW_Mo_wordNumber l D base sa) (fun mc ms => cwV 1 hts (pw_gV (pw_in 3177 (w := .methodLink "RoutingFieldModel" 1151 ⟨"RoutingFieldModel", "wordNumber", "(I)V"⟩) (by decide +kernel) rfl) ki_Mo_wordNumber ks_Mo_wordNumber kn_Mo ko_Mo_wordNumber) rfl rfl rfl (by decide +kernel) ⟨Nat.le_of_ble_eq_true rfl, Nat.le_of_ble_eq_true rfl⟩) (ci := 12) rfl, List.forall_mem_cons.mpr ⟨pm_cokV hbs hZ ⟨hx, hb, hml, hown, hts⟩ (kW_Mo_space l D base sa) (fun mc ms => cwV 0 hts (pw_gV (pw_in 3181 (w := .methodLink "RoutingFieldModel" 1137 ⟨"RoutingFieldModel", "space", "()V"⟩) (by decide +kernel) rfl) ki_Mo_space ks_Mo_space kn_Mo ko_Mo_space) rfl rfl rfl (by decide +kernel) ⟨Nat.le_of_ble_eq_true rfl, Nat.le_of_ble_eq_true rfl⟩) (ci := 12) rfl, List.forall_mem_cons.mpr ⟨pm_cokV hbs hZ ⟨hx, hb, hml, hown, hts⟩ (kW_Mo_say l D base sa) (fun mc ms => cwV 1 hts (pw_gV (pw_in 3161 (w := .methodLink "RoutingFieldModel" 1119 ⟨"RoutingFieldModel", "say", "(I)V"⟩) (by decide +kernel) rfl) ki_Mo_say ks_Mo_say kn_Mo ko_Mo_say) rfl rfl rfl (by decide +kernel) ⟨Nat.le_of_ble_eq_true rfl, Nat.le_of_ble_eq_true rfl⟩) (ci := 12) rfl, List.forall_mem_cons.mpr ⟨pm_cokV hbs hZ ⟨hx, hb, hml, hown, hts⟩ (kW_Mo_word l D base sa) (fun mc ms => cwV 1 hts (pw_gV (pw_in 3185 (w := .methodLink "RoutingFieldModel" 1154 ⟨"RoutingFieldModel", "word", "(J)V"⟩) (by decide +kernel) rfl) ki_Mo_word ks_Mo_word kn_Mo ko_Mo_word) rfl rfl rfl (by decide +kernel) ⟨Nat.le_of_ble_eq_true rfl, Nat.le_of_ble_eq_true rfl⟩) (ci := 12) rfl, fun _ h => absurd h List.not_mem_nil⟩⟩⟩⟩⟩),
    hZ, kst_ok ht hZ (kS_Mo_ok sa), knar_ok ht, ktx_ok (kE_Mo_ok sa)⟩
set_option maxRecDepth 100000 in
theorem ki_Mo_sayOwn : Cond.instanceMethod ⟨"RoutingFieldModel", "sayOwn", "(I)V"⟩ ∈ pw_T := (pw_in 3211 (by decide +kernel) rfl)
set_option maxRecDepth 100000 in
theorem ks_Mo_sayOwn : Cond.selects "RoutingFieldModel" ⟨"RoutingFieldModel", "sayOwn", "(I)V"⟩ ⟨"RoutingFieldModel", "sayOwn", "(I)V"⟩ ∈ pw_T := (pw_sel 232 (q := (⟨"RoutingFieldModel", "sayOwn", "(I)V"⟩, 166)) (by decide +kernel))
set_option maxRecDepth 100000 in
theorem ko_Mo_sayOwn : Cond.code ⟨"RoutingFieldModel", "sayOwn", "(I)V"⟩ prog_14_method_156_code 2 none ∈ pw_T := (pw_in 3212 rfl rfl)
set_option maxRecDepth 100000 in
theorem kD_Mo_sayOwn : ∀ q ∈ kC_Mo_sayOwn, decode prog_14_method_156_code q.1 = .ok (q.2, pm_len q.1 q.2) := by decide +kernel
set_option maxRecDepth 100000 in
theorem kW_Mo_sayOwn (l : Launch) (D : va_G) (base : Nat) (sa : Nat → Nat) : pm_Met l D kcl base (kZ sa) ⟨"RoutingFieldModel", "sayOwn", "(I)V"⟩ (.code ⟨"RoutingFieldModel", "sayOwn", "(I)V"⟩ prog_14_method_156_code 2 none :: pw_T) 6 150 (kP_Mo_sayOwn base sa) := by
  refine pm_met (by decide) rfl rfl ?_
  intro mc ms p e s m args below meth c hx hb hml hown hnm hts hbs hZ
  have ht : ∀ w ∈ pw_T, w.before args s = true := fun w h => hts w (List.mem_cons_of_mem _ h)
  exact ⟨hx, hb, hown, hbs, pm_look_all kD_Mo_sayOwn, kf_ok (init := false) ht hZ kF_Mo_ok (fun h => by cases h), km_ok ht kM_Mo_ok, kci_ok ht kI_Mo_ok, kli_ok ht kJ_Mo_ok, kar_ok ht hZ kA_Mo_ok,
    pm_look_all (List.forall_mem_cons.mpr ⟨pm_cokV hbs hZ ⟨hx, hb, hml, hown, hts⟩ (kW_Mo_wordPrefix l D base sa) (fun mc ms => cwV 4 hts (pw_gV (pw_in 3213 (w := .methodLink "RoutingFieldModel" 1163 ⟨"RoutingFieldModel", "wordPrefix", "(IJJI)V"⟩) (by decide +kernel) rfl) ki_Mo_wordPrefix ks_Mo_wordPrefix kn_Mo ko_Mo_wordPrefix) rfl rfl rfl (by decide +kernel) ⟨Nat.le_of_ble_eq_true rfl, Nat.le_of_ble_eq_true rfl⟩) (ci := 12) rfl, fun _ h => absurd h List.not_mem_nil⟩),
    hZ, kst_ok ht hZ (kS_Mo_ok sa), knar_ok ht, ktx_ok (kE_Mo_ok sa)⟩
set_option maxRecDepth 100000 in
theorem ki_Mo_sayInterface : Cond.instanceMethod ⟨"RoutingFieldModel", "sayInterface", "(I)V"⟩ ∈ pw_T := (pw_in 3203 (by decide +kernel) rfl)
set_option maxRecDepth 100000 in
theorem ks_Mo_sayInterface : Cond.selects "RoutingFieldModel" ⟨"RoutingFieldModel", "sayInterface", "(I)V"⟩ ⟨"RoutingFieldModel", "sayInterface", "(I)V"⟩ ∈ pw_T := (pw_sel 231 (q := (⟨"RoutingFieldModel", "sayInterface", "(I)V"⟩, 166)) (by decide +kernel))
set_option maxRecDepth 100000 in
theorem ko_Mo_sayInterface : Cond.code ⟨"RoutingFieldModel", "sayInterface", "(I)V"⟩ prog_14_method_157_code 3 none ∈ pw_T := (pw_in 3204 rfl rfl)
set_option maxRecDepth 100000 in
theorem kD_Mo_sayInterface_0 : ∀ q ∈ kC_Mo_sayInterface_0, decode prog_14_method_157_code q.1 = .ok (q.2, pm_len q.1 q.2) := by decide +kernel
set_option maxRecDepth 100000 in
theorem kD_Mo_sayInterface_1 : ∀ q ∈ kC_Mo_sayInterface_1, decode prog_14_method_157_code q.1 = .ok (q.2, pm_len q.1 q.2) := by decide +kernel
theorem kD_Mo_sayInterface : ∀ q ∈ kC_Mo_sayInterface, decode prog_14_method_157_code q.1 = .ok (q.2, pm_len q.1 q.2) := List.forall_mem_append.mpr ⟨kD_Mo_sayInterface_0, kD_Mo_sayInterface_1⟩
set_option maxRecDepth 100000 in
theorem kW_Mo_sayInterface (l : Launch) (D : va_G) (base : Nat) (sa : Nat → Nat) : pm_Met l D kcl base (kZ sa) ⟨"RoutingFieldModel", "sayInterface", "(I)V"⟩ (.code ⟨"RoutingFieldModel", "sayInterface", "(I)V"⟩ prog_14_method_157_code 3 none :: pw_T) 7 171 (kP_Mo_sayInterface base sa) := by
  refine pm_met (by decide) rfl rfl ?_
  intro mc ms p e s m args below meth c hx hb hml hown hnm hts hbs hZ
  have ht : ∀ w ∈ pw_T, w.before args s = true := fun w h => hts w (List.mem_cons_of_mem _ h)
  exact ⟨hx, hb, hown, hbs, pm_look_all kD_Mo_sayInterface, kf_ok (init := false) ht hZ kF_Mo_ok (fun h => by cases h), km_ok ht kM_Mo_ok, kci_ok ht kI_Mo_ok, kli_ok ht kJ_Mo_ok, kar_ok ht hZ kA_Mo_ok,
    pm_look_all (List.forall_mem_cons.mpr ⟨pm_cokV hbs hZ ⟨hx, hb, hml, hown, hts⟩ (kW_Mo_sayName l D base sa) (fun mc ms => cwV 1 hts (pw_gV (pw_in 3189 (w := .methodLink "RoutingFieldModel" 1140 ⟨"RoutingFieldModel", "sayName", "(J)V"⟩) (by decide +kernel) rfl) ki_Mo_sayName ks_Mo_sayName kn_Mo ko_Mo_sayName) rfl rfl rfl (by decide +kernel) ⟨Nat.le_of_ble_eq_true rfl, Nat.le_of_ble_eq_true rfl⟩) (ci := 12) rfl, List.forall_mem_cons.mpr ⟨pm_cokV hbs hZ ⟨hx, hb, hml, hown, hts⟩ (kW_Mo_word l D base sa) (fun mc ms => cwV 1 hts (pw_gV (pw_in 3185 (w := .methodLink "RoutingFieldModel" 1154 ⟨"RoutingFieldModel", "word", "(J)V"⟩) (by decide +kernel) rfl) ki_Mo_word ks_Mo_word kn_Mo ko_Mo_word) rfl rfl rfl (by decide +kernel) ⟨Nat.le_of_ble_eq_true rfl, Nat.le_of_ble_eq_true rfl⟩) (ci := 12) rfl, List.forall_mem_cons.mpr ⟨pm_cokV hbs hZ ⟨hx, hb, hml, hown, hts⟩ (kW_Mo_wordNumber l D base sa) (fun mc ms => cwV 1 hts (pw_gV (pw_in 3177 (w := .methodLink "RoutingFieldModel" 1151 ⟨"RoutingFieldModel", "wordNumber", "(I)V"⟩) (by decide +kernel) rfl) ki_Mo_wordNumber ks_Mo_wordNumber kn_Mo ko_Mo_wordNumber) rfl rfl rfl (by decide +kernel) ⟨Nat.le_of_ble_eq_true rfl, Nat.le_of_ble_eq_true rfl⟩) (ci := 12) rfl, List.forall_mem_cons.mpr ⟨pm_cokV hbs hZ ⟨hx, hb, hml, hown, hts⟩ (kW_Mo_sayOwn l D base sa) (fun mc ms => cwV 1 hts (pw_gV (pw_in 3209 (w := .methodLink "RoutingFieldModel" 1174 ⟨"RoutingFieldModel", "sayOwn", "(I)V"⟩) (by decide +kernel) rfl) ki_Mo_sayOwn ks_Mo_sayOwn kn_Mo ko_Mo_sayOwn) rfl rfl rfl (by decide +kernel) ⟨Nat.le_of_ble_eq_true rfl, Nat.le_of_ble_eq_true rfl⟩) (ci := 12) rfl, fun _ h => absurd h List.not_mem_nil⟩⟩⟩⟩),
    hZ, kst_ok ht hZ (kS_Mo_ok sa), knar_ok ht, ktx_ok (kE_Mo_ok sa)⟩
set_option maxRecDepth 100000 in
theorem ki_Mo_show : Cond.instanceMethod ⟨"RoutingFieldModel", "show", "(II)I"⟩ ∈ pw_T := (pw_in 3142 (by decide +kernel) rfl)
set_option maxRecDepth 100000 in
theorem ks_Mo_show : Cond.selects "RoutingFieldModel" ⟨"RoutingFieldModel", "show", "(II)I"⟩ ⟨"RoutingFieldModel", "show", "(II)I"⟩ ∈ pw_T := (pw_in 3143 (by decide +kernel) rfl)
set_option maxRecDepth 100000 in
theorem ko_Mo_show : Cond.code ⟨"RoutingFieldModel", "show", "(II)I"⟩ prog_14_method_158_code 4 (some .int) ∈ pw_T := (pw_in 3144 rfl rfl)
set_option maxRecDepth 100000 in
theorem kD_Mo_show_0 : ∀ q ∈ kC_Mo_show_0, decode prog_14_method_158_code q.1 = .ok (q.2, pm_len q.1 q.2) := by decide +kernel
set_option maxRecDepth 100000 in
theorem kD_Mo_show_1 : ∀ q ∈ kC_Mo_show_1, decode prog_14_method_158_code q.1 = .ok (q.2, pm_len q.1 q.2) := by decide +kernel
set_option maxRecDepth 100000 in
theorem kD_Mo_show_2 : ∀ q ∈ kC_Mo_show_2, decode prog_14_method_158_code q.1 = .ok (q.2, pm_len q.1 q.2) := by decide +kernel
theorem kD_Mo_show : ∀ q ∈ kC_Mo_show, decode prog_14_method_158_code q.1 = .ok (q.2, pm_len q.1 q.2) := List.forall_mem_append.mpr ⟨kD_Mo_show_0, List.forall_mem_append.mpr ⟨kD_Mo_show_1, kD_Mo_show_2⟩⟩
set_option maxRecDepth 100000 in
theorem kW_Mo_show (l : Launch) (D : va_G) (base : Nat) (sa : Nat → Nat) : pm_Met l D kcl base (kZ sa) ⟨"RoutingFieldModel", "show", "(II)I"⟩ (.code ⟨"RoutingFieldModel", "show", "(II)I"⟩ prog_14_method_158_code 4 (some .int) :: pw_T) 8 193 (kP_Mo_show base sa) := by
  refine pm_met (by decide) rfl rfl ?_
  intro mc ms p e s m args below meth c hx hb hml hown hnm hts hbs hZ
  have ht : ∀ w ∈ pw_T, w.before args s = true := fun w h => hts w (List.mem_cons_of_mem _ h)
  exact ⟨hx, hb, hown, hbs, pm_look_all kD_Mo_show, kf_ok (init := false) ht hZ kF_Mo_ok (fun h => by cases h), km_ok ht kM_Mo_ok, kci_ok ht kI_Mo_ok, kli_ok ht kJ_Mo_ok, kar_ok ht hZ kA_Mo_ok,
    pm_look_all (List.forall_mem_cons.mpr ⟨pm_cokV hbs hZ ⟨hx, hb, hml, hown, hts⟩ (kW_Mo_isRouter l D base sa) (fun mc ms => cwV 1 hts (pw_gV (pw_in 3145 (w := .methodLink "RoutingFieldModel" 1177 ⟨"RoutingFieldModel", "isRouter", "(I)Z"⟩) (by decide +kernel) rfl) ki_Mo_isRouter ks_Mo_isRouter kn_Mo ko_Mo_isRouter) rfl rfl rfl (by decide +kernel) ⟨Nat.le_of_ble_eq_true rfl, Nat.le_of_ble_eq_true rfl⟩) (ci := 12) rfl, List.forall_mem_cons.mpr ⟨pm_cokV hbs hZ ⟨hx, hb, hml, hown, hts⟩ (kW_Mo_sayRoute l D base sa) (fun mc ms => cwV 1 hts (pw_gV (pw_in 3149 (w := .methodLink "RoutingFieldModel" 1180 ⟨"RoutingFieldModel", "sayRoute", "(I)V"⟩) (by decide +kernel) rfl) ki_Mo_sayRoute ks_Mo_sayRoute kn_Mo ko_Mo_sayRoute) rfl rfl rfl (by decide +kernel) ⟨Nat.le_of_ble_eq_true rfl, Nat.le_of_ble_eq_true rfl⟩) (ci := 12) rfl, List.forall_mem_cons.mpr ⟨pm_cokV hbs hZ ⟨hx, hb, hml, hown, hts⟩ (kW_Mo_sayTimes l D base sa) (fun mc ms => cwV 1 hts (pw_gV (pw_in 3196 (w := .methodLink "RoutingFieldModel" 1183 ⟨"RoutingFieldModel", "sayTimes", "(I)V"⟩) (by decide +kernel) rfl) ki_Mo_sayTimes ks_Mo_sayTimes kn_Mo ko_Mo_sayTimes) rfl rfl rfl (by decide +kernel) ⟨Nat.le_of_ble_eq_true rfl, Nat.le_of_ble_eq_true rfl⟩) (ci := 12) rfl, List.forall_mem_cons.mpr ⟨pm_cokV hbs hZ ⟨hx, hb, hml, hown, hts⟩ (kW_Mo_say l D base sa) (fun mc ms => cwV 1 hts (pw_gV (pw_in 3161 (w := .methodLink "RoutingFieldModel" 1119 ⟨"RoutingFieldModel", "say", "(I)V"⟩) (by decide +kernel) rfl) ki_Mo_say ks_Mo_say kn_Mo ko_Mo_say) rfl rfl rfl (by decide +kernel) ⟨Nat.le_of_ble_eq_true rfl, Nat.le_of_ble_eq_true rfl⟩) (ci := 12) rfl, List.forall_mem_cons.mpr ⟨pm_cokV hbs hZ ⟨hx, hb, hml, hown, hts⟩ (kW_Mo_sayInterface l D base sa) (fun mc ms => cwV 1 hts (pw_gV (pw_in 3201 (w := .methodLink "RoutingFieldModel" 1186 ⟨"RoutingFieldModel", "sayInterface", "(I)V"⟩) (by decide +kernel) rfl) ki_Mo_sayInterface ks_Mo_sayInterface kn_Mo ko_Mo_sayInterface) rfl rfl rfl (by decide +kernel) ⟨Nat.le_of_ble_eq_true rfl, Nat.le_of_ble_eq_true rfl⟩) (ci := 12) rfl, List.forall_mem_cons.mpr ⟨pm_cokV hbs hZ ⟨hx, hb, hml, hown, hts⟩ (kW_Mo_sayNumber l D base sa) (fun mc ms => cwV 1 hts (pw_gV (pw_in 3165 (w := .methodLink "RoutingFieldModel" 1125 ⟨"RoutingFieldModel", "sayNumber", "(I)V"⟩) (by decide +kernel) rfl) ki_Mo_sayNumber ks_Mo_sayNumber kn_Mo ko_Mo_sayNumber) rfl rfl rfl (by decide +kernel) ⟨Nat.le_of_ble_eq_true rfl, Nat.le_of_ble_eq_true rfl⟩) (ci := 12) rfl, List.forall_mem_cons.mpr ⟨pm_cokV hbs hZ ⟨hx, hb, hml, hown, hts⟩ (kW_Mo_wordNumber l D base sa) (fun mc ms => cwV 1 hts (pw_gV (pw_in 3177 (w := .methodLink "RoutingFieldModel" 1151 ⟨"RoutingFieldModel", "wordNumber", "(I)V"⟩) (by decide +kernel) rfl) ki_Mo_wordNumber ks_Mo_wordNumber kn_Mo ko_Mo_wordNumber) rfl rfl rfl (by decide +kernel) ⟨Nat.le_of_ble_eq_true rfl, Nat.le_of_ble_eq_true rfl⟩) (ci := 12) rfl, List.forall_mem_cons.mpr ⟨pm_cokV hbs hZ ⟨hx, hb, hml, hown, hts⟩ (kW_Mo_shown l D base sa) (fun mc ms => cwV 0 hts (pw_gV (pw_in 3217 (w := .methodLink "RoutingFieldModel" 1189 ⟨"RoutingFieldModel", "shown", "()I"⟩) (by decide +kernel) rfl) ki_Mo_shown ks_Mo_shown kn_Mo ko_Mo_shown) rfl rfl rfl (by decide +kernel) ⟨Nat.le_of_ble_eq_true rfl, Nat.le_of_ble_eq_true rfl⟩) (ci := 12) rfl, fun _ h => absurd h List.not_mem_nil⟩⟩⟩⟩⟩⟩⟩⟩),
    hZ, kst_ok ht hZ (kS_Mo_ok sa), knar_ok ht, ktx_ok (kE_Mo_ok sa)⟩
set_option maxRecDepth 100000 in
theorem ki_Mo_sayLink : Cond.instanceMethod ⟨"RoutingFieldModel", "sayLink", "(I)V"⟩ ∈ pw_T := (pw_in 3227 (by decide +kernel) rfl)
set_option maxRecDepth 100000 in
theorem ks_Mo_sayLink : Cond.selects "RoutingFieldModel" ⟨"RoutingFieldModel", "sayLink", "(I)V"⟩ ⟨"RoutingFieldModel", "sayLink", "(I)V"⟩ ∈ pw_T := (pw_sel 235 (q := (⟨"RoutingFieldModel", "sayLink", "(I)V"⟩, 166)) (by decide +kernel))
set_option maxRecDepth 100000 in
theorem ko_Mo_sayLink : Cond.code ⟨"RoutingFieldModel", "sayLink", "(I)V"⟩ prog_14_method_159_code 2 none ∈ pw_T := (pw_in 3228 rfl rfl)
set_option maxRecDepth 100000 in
theorem kD_Mo_sayLink : ∀ q ∈ kC_Mo_sayLink, decode prog_14_method_159_code q.1 = .ok (q.2, pm_len q.1 q.2) := by decide +kernel
set_option maxRecDepth 100000 in
theorem kW_Mo_sayLink (l : Launch) (D : va_G) (base : Nat) (sa : Nat → Nat) : pm_Met l D kcl base (kZ sa) ⟨"RoutingFieldModel", "sayLink", "(I)V"⟩ (.code ⟨"RoutingFieldModel", "sayLink", "(I)V"⟩ prog_14_method_159_code 2 none :: pw_T) 4 87 (kP_Mo_sayLink base sa) := by
  refine pm_met (by decide) rfl rfl ?_
  intro mc ms p e s m args below meth c hx hb hml hown hnm hts hbs hZ
  have ht : ∀ w ∈ pw_T, w.before args s = true := fun w h => hts w (List.mem_cons_of_mem _ h)
  exact ⟨hx, hb, hown, hbs, pm_look_all kD_Mo_sayLink, kf_ok (init := false) ht hZ kF_Mo_ok (fun h => by cases h), km_ok ht kM_Mo_ok, kci_ok ht kI_Mo_ok, kli_ok ht kJ_Mo_ok, kar_ok ht hZ kA_Mo_ok,
    pm_look_all (List.forall_mem_cons.mpr ⟨pm_cokV hbs hZ ⟨hx, hb, hml, hown, hts⟩ (kW_Mo_sayName l D base sa) (fun mc ms => cwV 1 hts (pw_gV (pw_in 3189 (w := .methodLink "RoutingFieldModel" 1140 ⟨"RoutingFieldModel", "sayName", "(J)V"⟩) (by decide +kernel) rfl) ki_Mo_sayName ks_Mo_sayName kn_Mo ko_Mo_sayName) rfl rfl rfl (by decide +kernel) ⟨Nat.le_of_ble_eq_true rfl, Nat.le_of_ble_eq_true rfl⟩) (ci := 12) rfl, List.forall_mem_cons.mpr ⟨pm_cokV hbs hZ ⟨hx, hb, hml, hown, hts⟩ (kW_Mo_word l D base sa) (fun mc ms => cwV 1 hts (pw_gV (pw_in 3185 (w := .methodLink "RoutingFieldModel" 1154 ⟨"RoutingFieldModel", "word", "(J)V"⟩) (by decide +kernel) rfl) ki_Mo_word ks_Mo_word kn_Mo ko_Mo_word) rfl rfl rfl (by decide +kernel) ⟨Nat.le_of_ble_eq_true rfl, Nat.le_of_ble_eq_true rfl⟩) (ci := 12) rfl, List.forall_mem_cons.mpr ⟨pm_cokV hbs hZ ⟨hx, hb, hml, hown, hts⟩ (kW_Mo_wordNumber l D base sa) (fun mc ms => cwV 1 hts (pw_gV (pw_in 3177 (w := .methodLink "RoutingFieldModel" 1151 ⟨"RoutingFieldModel", "wordNumber", "(I)V"⟩) (by decide +kernel) rfl) ki_Mo_wordNumber ks_Mo_wordNumber kn_Mo ko_Mo_wordNumber) rfl rfl rfl (by decide +kernel) ⟨Nat.le_of_ble_eq_true rfl, Nat.le_of_ble_eq_true rfl⟩) (ci := 12) rfl, List.forall_mem_cons.mpr ⟨pm_cokV hbs hZ ⟨hx, hb, hml, hown, hts⟩ (kW_Mo_say l D base sa) (fun mc ms => cwV 1 hts (pw_gV (pw_in 3161 (w := .methodLink "RoutingFieldModel" 1119 ⟨"RoutingFieldModel", "say", "(I)V"⟩) (by decide +kernel) rfl) ki_Mo_say ks_Mo_say kn_Mo ko_Mo_say) rfl rfl rfl (by decide +kernel) ⟨Nat.le_of_ble_eq_true rfl, Nat.le_of_ble_eq_true rfl⟩) (ci := 12) rfl, fun _ h => absurd h List.not_mem_nil⟩⟩⟩⟩),
    hZ, kst_ok ht hZ (kS_Mo_ok sa), knar_ok ht, ktx_ok (kE_Mo_ok sa)⟩
