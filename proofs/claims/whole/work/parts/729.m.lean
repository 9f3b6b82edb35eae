set_option maxRecDepth 100000 in
theorem ki_Mo_layEntry : Cond.instanceMethod ⟨"RoutingFieldModel", "layEntry", "(III)V"⟩ ∈ pw_T := (pw_in 3095 (by decide +kernel) rfl)
set_option maxRecDepth 100000 in
theorem ks_Mo_layEntry : Cond.selects "RoutingFieldModel" ⟨"RoutingFieldModel", "layEntry", "(III)V"⟩ ⟨"RoutingFieldModel", "layEntry", "(III)V"⟩ ∈ pw_T := (pw_sel 211 (q := (⟨"RoutingFieldModel", "layEntry", "(III)V"⟩, 166)) (by decide +kernel))
set_option maxRecDepth 100000 in
theorem ko_Mo_layEntry : Cond.code ⟨"RoutingFieldModel", "layEntry", "(III)V"⟩ prog_14_method_113_code 5 none ∈ pw_T := (pw_in 3096 rfl rfl)
set_option maxRecDepth 100000 in
theorem kD_Mo_layEntry_0 : ∀ q ∈ kC_Mo_layEntry_0, decode prog_14_method_113_code q.1 = .ok (q.2, pm_len q.1 q.2) := by decide +kernel
set_option maxRecDepth 100000 in
theorem kD_Mo_layEntry_1 : ∀ q ∈ kC_Mo_layEntry_1, decode prog_14_method_113_code q.1 = .ok (q.2, pm_len q.1 q.2) := by decide +kernel
set_option maxRecDepth 100000 in
theorem kD_Mo_layEntry_2 : ∀ q ∈ kC_Mo_layEntry_2, decode prog_14_method_113_code q.1 = .ok (q.2, pm_len q.1 q.2) := by decide +kernel
theorem kD_Mo_layEntry : ∀ q ∈ kC_Mo_layEntry, decode prog_14_method_113_code q.1 = .ok (q.2, pm_len q.1 q.2) := List.forall_mem_append.mpr ⟨kD_Mo_layEntry_0, List.forall_mem_append.mpr ⟨kD_Mo_layEntry_1, kD_Mo_layEntry_2⟩⟩
set_option maxRecDepth 100000 in
theorem kW_Mo_layEntry (l : Launch) (D : va_G) (base : Nat) (sa : Nat → Nat) : pm_Met l D kcl base (kZ sa) ⟨"RoutingFieldModel", "layEntry", "(III)V"⟩ (.code ⟨"RoutingFieldModel", "layEntry", "(III)V"⟩ prog_14_method_113_code 5 none :: pw_T) 2 46 (kP_Mo_layEntry base sa) := by
  refine pm_met (by decide) rfl rfl ?_
  intro mc ms p e s m args below meth c hx hb hml hown hnm hts hbs hZ
  have ht : ∀ w ∈ pw_T, w.before args s = true := fun w h => hts w (List.mem_cons_of_mem _ h)
  exact ⟨hx, hb, hown, hbs, pm_look_all kD_Mo_layEntry, kf_ok (init := false) ht hZ kF_Mo_ok (fun h => by cases h), km_ok ht kM_Mo_ok, kci_ok ht kI_Mo_ok, kli_ok ht kJ_Mo_ok, kar_ok ht hZ kA_Mo_ok,
    pm_look_all (List.forall_mem_cons.mpr ⟨pm_cokV hbs hZ ⟨hx, hb, hml, hown, hts⟩ (kW_Mo_putAddress l D base sa) (fun mc ms => cwV 5 hts (pw_gV (pw_in 3097 (w := .methodLink "RoutingFieldModel" 981 ⟨"RoutingFieldModel", "putAddress", "([IIIJJ)V"⟩) (by decide +kernel) rfl) ki_Mo_putAddress ks_Mo_putAddress kn_Mo ko_Mo_putAddress) rfl rfl rfl (by decide +kernel) ⟨Nat.le_of_ble_eq_true rfl, Nat.le_of_ble_eq_true rfl⟩) (ci := 12) rfl, List.forall_mem_cons.mpr ⟨pm_cokV hbs hZ ⟨hx, hb, hml, hown, hts⟩ (kW_Mo_put2 l D base sa) (fun mc ms => cwV 3 hts (pw_gV (pw_in 2728 (w := .methodLink "RoutingFieldModel" 917 ⟨"RoutingFieldModel", "put2", "([III)V"⟩) (by decide +kernel) rfl) ki_Mo_put2 ks_Mo_put2 kn_Mo ko_Mo_put2) rfl rfl rfl (by decide +kernel) ⟨Nat.le_of_ble_eq_true rfl, Nat.le_of_ble_eq_true rfl⟩) (ci := 12) rfl, List.forall_mem_cons.mpr ⟨pm_cokS hbs hZ ⟨hx, hb, hml, hown, hts⟩ (kW_Mo_maskHigh l D base sa) (fun mc ms => va_cwS 1 hts (pw_gS (pw_in 2653 (w := .methodLink "RoutingFieldModel" 433 ⟨"RoutingFieldModel", "maskHigh", "(I)J"⟩) (by decide +kernel) rfl) kv_Mo_maskHigh kn_Mo ko_Mo_maskHigh) rfl rfl rfl (by decide +kernel) ⟨Nat.le_of_ble_eq_true rfl, Nat.le_of_ble_eq_true rfl⟩) (Nat.le_of_ble_eq_true rfl), List.forall_mem_cons.mpr ⟨pm_cokV hbs hZ ⟨hx, hb, hml, hown, hts⟩ (kW_Mo_put4 l D base sa) (fun mc ms => cwV 3 hts (pw_gV (pw_in 2732 (w := .methodLink "RoutingFieldModel" 927 ⟨"RoutingFieldModel", "put4", "([III)V"⟩) (by decide +kernel) rfl) ki_Mo_put4 ks_Mo_put4 kn_Mo ko_Mo_put4) rfl rfl rfl (by decide +kernel) ⟨Nat.le_of_ble_eq_true rfl, Nat.le_of_ble_eq_true rfl⟩) (ci := 12) rfl, fun _ h => absurd h List.not_mem_nil⟩⟩⟩⟩),
    hZ, kst_ok ht hZ (kS_Mo_ok sa), knar_ok ht, ktx_ok (kE_Mo_ok sa)⟩
set_option maxRecDepth 100000 in
theorem ki_Mo_tellTo : Cond.instanceMethod ⟨"RoutingFieldModel", "tellTo", "(IIZJJ)V"⟩ ∈ pw_T := (pw_in 3087 (by decide +kernel) rfl)
set_option maxRecDepth 100000 in
theorem ks_Mo_tellTo : Cond.selects "RoutingFieldModel" ⟨"RoutingFieldModel", "tellTo", "(IIZJJ)V"⟩ ⟨"RoutingFieldModel", "tellTo", "(IIZJJ)V"⟩ ∈ pw_T := (pw_sel 209 (q := (⟨"RoutingFieldModel", "tellTo", "(IIZJJ)V"⟩, 166)) (by decide +kernel))
set_option maxRecDepth 100000 in
theorem ko_Mo_tellTo : Cond.code ⟨"RoutingFieldModel", "tellTo", "(IIZJJ)V"⟩ prog_14_method_114_code 11 none ∈ pw_T := (pw_in 3088 rfl rfl)
set_option maxRecDepth 100000 in
theorem kD_Mo_tellTo : ∀ q ∈ kC_Mo_tellTo, decode prog_14_method_114_code q.1 = .ok (q.2, pm_len q.1 q.2) := by decide +kernel
set_option maxRecDepth 100000 in
theorem kW_Mo_tellTo (l : Launch) (D : va_G) (base : Nat) (sa : Nat → Nat) : pm_Met l D kcl base (kZ sa) ⟨"RoutingFieldModel", "tellTo", "(IIZJJ)V"⟩ (.code ⟨"RoutingFieldModel", "tellTo", "(IIZJJ)V"⟩ prog_14_method_114_code 11 none :: pw_T) 6 161 (kP_Mo_tellTo base sa) := by
  refine pm_met (by decide) rfl rfl ?_
  intro mc ms p e s m args below meth c hx hb hml hown hnm hts hbs hZ
  have ht : ∀ w ∈ pw_T, w.before args s = true := fun w h => hts w (List.mem_cons_of_mem _ h)
  exact ⟨hx, hb, hown, hbs, pm_look_all kD_Mo_tellTo, kf_ok (init := false) ht hZ kF_Mo_ok (fun h => by cases h), km_ok ht kM_Mo_ok, kci_ok ht kI_Mo_ok, kli_ok ht kJ_Mo_ok, kar_ok ht hZ kA_Mo_ok,
    pm_look_all (List.forall_mem_cons.mpr ⟨pm_cokV hbs hZ ⟨hx, hb, hml, hown, hts⟩ (kW_Mo_mostEntries l D base sa) (fun mc ms => cwV 2 hts (pw_gV (pw_in 3089 (w := .methodLink "RoutingFieldModel" 985 ⟨"RoutingFieldModel", "mostEntries", "(II)I"⟩) (by decide +kernel) rfl) ki_Mo_mostEntries ks_Mo_mostEntries kn_Mo ko_Mo_mostEntries) rfl rfl rfl (by decide +kernel) ⟨Nat.le_of_ble_eq_true rfl, Nat.le_of_ble_eq_true rfl⟩) (ci := 12) rfl, List.forall_mem_cons.mpr ⟨pm_cokV hbs hZ ⟨hx, hb, hml, hown, hts⟩ (kW_Mo_layEntry l D base sa) (fun mc ms => cwV 3 hts (pw_gV (pw_in 3093 (w := .methodLink "RoutingFieldModel" 988 ⟨"RoutingFieldModel", "layEntry", "(III)V"⟩) (by decide +kernel) rfl) ki_Mo_layEntry ks_Mo_layEntry kn_Mo ko_Mo_layEntry) rfl rfl rfl (by decide +kernel) ⟨Nat.le_of_ble_eq_true rfl, Nat.le_of_ble_eq_true rfl⟩) (ci := 12) rfl, List.forall_mem_cons.mpr ⟨pm_cokV hbs hZ ⟨hx, hb, hml, hown, hts⟩ (kW_Mo_send l D base sa) (fun mc ms => cwV 7 hts (pw_gV (pw_in 2711 (w := .methodLink "RoutingFieldModel" 946 ⟨"RoutingFieldModel", "send", "(IIIIZJJ)V"⟩) (by decide +kernel) rfl) ki_Mo_send ks_Mo_send kn_Mo ko_Mo_send) rfl rfl rfl (by decide +kernel) ⟨Nat.le_of_ble_eq_true rfl, Nat.le_of_ble_eq_true rfl⟩) (ci := 12) rfl, fun _ h => absurd h List.not_mem_nil⟩⟩⟩),
    hZ, kst_ok ht hZ (kS_Mo_ok sa), knar_ok ht, ktx_ok (kE_Mo_ok sa)⟩
set_option maxRecDepth 100000 in
theorem ki_Mo_tell : Cond.instanceMethod ⟨"RoutingFieldModel", "tell", "(II)V"⟩ ∈ pw_T := (pw_in 3115 (by decide +kernel) rfl)
set_option maxRecDepth 100000 in
theorem ks_Mo_tell : Cond.selects "RoutingFieldModel" ⟨"RoutingFieldModel", "tell", "(II)V"⟩ ⟨"RoutingFieldModel", "tell", "(II)V"⟩ ∈ pw_T := (pw_sel 216 (q := (⟨"RoutingFieldModel", "tell", "(II)V"⟩, 166)) (by decide +kernel))
set_option maxRecDepth 100000 in
theorem ko_Mo_tell : Cond.code ⟨"RoutingFieldModel", "tell", "(II)V"⟩ prog_14_method_115_code 5 none ∈ pw_T := (pw_in 3116 rfl rfl)
set_option maxRecDepth 100000 in
theorem kD_Mo_tell_0 : ∀ q ∈ kC_Mo_tell_0, decode prog_14_method_115_code q.1 = .ok (q.2, pm_len q.1 q.2) := by decide +kernel
set_option maxRecDepth 100000 in
theorem kD_Mo_tell_1 : ∀ q ∈ kC_Mo_tell_1, decode prog_14_method_115_code q.1 = .ok (q.2, pm_len q.1 q.2) := by decide +kernel
theorem kD_Mo_tell : ∀ q ∈ kC_Mo_tell, decode prog_14_method_115_code q.1 = .ok (q.2, pm_len q.1 q.2) := List.forall_mem_append.mpr ⟨kD_Mo_tell_0, kD_Mo_tell_1⟩
set_option maxRecDepth 100000 in
theorem kW_Mo_tell (l : Launch) (D : va_G) (base : Nat) (sa : Nat → Nat) : pm_Met l D kcl base (kZ sa) ⟨"RoutingFieldModel", "tell", "(II)V"⟩ (.code ⟨"RoutingFieldModel", "tell", "(II)V"⟩ prog_14_method_115_code 5 none :: pw_T) 8 235 (kP_Mo_tell base sa) := by
  refine pm_met (by decide) rfl rfl ?_
  intro mc ms p e s m args below meth c hx hb hml hown hnm hts hbs hZ
  have ht : ∀ w ∈ pw_T, w.before args s = true := fun w h => hts w (List.mem_cons_of_mem _ h)
  exact ⟨hx, hb, hown, hbs, pm_look_all kD_Mo_tell, kf_ok (init := false) ht hZ kF_Mo_ok (fun h => by cases h), km_ok ht kM_Mo_ok, kci_ok ht kI_Mo_ok, kli_ok ht kJ_Mo_ok, kar_ok ht hZ kA_Mo_ok,
    pm_look_all (List.forall_mem_cons.mpr ⟨pm_cokV hbs hZ ⟨hx, hb, hml, hown, hts⟩ (kW_Mo_gather l D base sa) (fun mc ms => cwV 3 hts (pw_gV (pw_in 3065 (w := .methodLink "RoutingFieldModel" 992 ⟨"RoutingFieldModel", "gather", "(III)V"⟩) (by decide +kernel) rfl) ki_Mo_gather ks_Mo_gather kn_Mo ko_Mo_gather) rfl rfl rfl (by decide +kernel) ⟨Nat.le_of_ble_eq_true rfl, Nat.le_of_ble_eq_true rfl⟩) (ci := 12) rfl, List.forall_mem_cons.mpr ⟨pm_cokV hbs hZ ⟨hx, hb, hml, hown, hts⟩ (kW_Mo_tellTo l D base sa) (fun mc ms => cwV 5 hts (pw_gV (pw_in 3085 (w := .methodLink "RoutingFieldModel" 995 ⟨"RoutingFieldModel", "tellTo", "(IIZJJ)V"⟩) (by decide +kernel) rfl) ki_Mo_tellTo ks_Mo_tellTo kn_Mo ko_Mo_tellTo) rfl rfl rfl (by decide +kernel) ⟨Nat.le_of_ble_eq_true rfl, Nat.le_of_ble_eq_true rfl⟩) (ci := 12) rfl, fun _ h => absurd h List.not_mem_nil⟩⟩),
    hZ, kst_ok ht hZ (kS_Mo_ok sa), knar_ok ht, ktx_ok (kE_Mo_ok sa)⟩
set_option maxRecDepth 100000 in
theorem ki_Mo_tellAll : Cond.instanceMethod ⟨"RoutingFieldModel", "tellAll", "(II)V"⟩ ∈ pw_T := (pw_in 3111 (by decide +kernel) rfl)
set_option maxRecDepth 100000 in
theorem ks_Mo_tellAll : Cond.selects "RoutingFieldModel" ⟨"RoutingFieldModel", "tellAll", "(II)V"⟩ ⟨"RoutingFieldModel", "tellAll", "(II)V"⟩ ∈ pw_T := (pw_sel 215 (q := (⟨"RoutingFieldModel", "tellAll", "(II)V"⟩, 166)) (by decide +kernel))
set_option maxRecDepth 100000 in
theorem ko_Mo_tellAll : Cond.code ⟨"RoutingFieldModel", "tellAll", "(II)V"⟩ prog_14_method_116_code 4 none ∈ pw_T := (pw_in 3112 rfl rfl)
set_option maxRecDepth 100000 in
theorem kD_Mo_tellAll : ∀ q ∈ kC_Mo_tellAll, decode prog_14_method_116_code q.1 = .ok (q.2, pm_len q.1 q.2) := by decide +kernel
set_option maxRecDepth 100000 in
theorem kW_Mo_tellAll (l : Launch) (D : va_G) (base : Nat) (sa : Nat → Nat) : pm_Met l D kcl base (kZ sa) ⟨"RoutingFieldModel", "tellAll", "(II)V"⟩ (.code ⟨"RoutingFieldModel", "tellAll", "(II)V"⟩ prog_14_method_116_code 4 none :: pw_T) 9 259 (kP_Mo_tellAll base sa) := by
  refine pm_met (by decide) rfl rfl ?_
  intro mc ms p e s m args below meth c hx hb hml hown hnm hts hbs hZ
  have ht : ∀ w ∈ pw_T, w.before args s = true := fun w h => hts w (List.mem_cons_of_mem _ h)
  exact ⟨hx, hb, hown, hbs, pm_look_all kD_Mo_tellAll, kf_ok (init := false) ht hZ kF_Mo_ok (fun h => by cases h), km_ok ht kM_Mo_ok, kci_ok ht kI_Mo_ok, kli_ok ht kJ_Mo_ok, kar_ok ht hZ kA_Mo_ok,
    pm_look_all (List.forall_mem_cons.mpr ⟨pm_cokV hbs hZ ⟨hx, hb, hml, hown, hts⟩ (kW_Mo_tell l D base sa) (fun mc ms => cwV 2 hts (pw_gV (pw_in 3113 (w := .methodLink "RoutingFieldModel" 999 ⟨"RoutingFieldModel", "tell", "(II)V"⟩) (by decide +kernel) rfl) ki_Mo_tell ks_Mo_tell kn_Mo ko_Mo_tell) rfl rfl rfl (by decide +kernel) ⟨Nat.le_of_ble_eq_true rfl, Nat.le_of_ble_eq_true rfl⟩) (ci := 12) rfl, fun _ h => absurd h List.not_mem_nil⟩),
    hZ, kst_ok ht hZ (kS_Mo_ok sa), knar_ok ht, ktx_ok (kE_Mo_ok sa)⟩
set_option maxRecDepth 100000 in
theorem ki_Mo_forget : Cond.instanceMethod ⟨"RoutingFieldModel", "forget", "(I)V"⟩ ∈ pw_T := (pw_in 3119 (by decide +kernel) rfl)
set_option maxRecDepth 100000 in
theorem ks_Mo_forget : Cond.selects "RoutingFieldModel" ⟨"RoutingFieldModel", "forget", "(I)V"⟩ ⟨"RoutingFieldModel", "forget", "(I)V"⟩ ∈ pw_T := (pw_sel 217 (q := (⟨"RoutingFieldModel", "forget", "(I)V"⟩, 166)) (by decide +kernel))
set_option maxRecDepth 100000 in
theorem ko_Mo_forget : Cond.code ⟨"RoutingFieldModel", "forget", "(I)V"⟩ prog_14_method_117_code 3 none ∈ pw_T := (pw_in 3120 rfl rfl)
set_option maxRecDepth 100000 in
theorem kD_Mo_forget : ∀ q ∈ kC_Mo_forget, decode prog_14_method_117_code q.1 = .ok (q.2, pm_len q.1 q.2) := by decide +kernel
set_option maxRecDepth 100000 in
theorem kW_Mo_forget (l : Launch) (D : va_G) (base : Nat) (sa : Nat → Nat) : pm_Met l D kcl base (kZ sa) ⟨"RoutingFieldModel", "forget", "(I)V"⟩ (.code ⟨"RoutingFieldModel", "forget", "(I)V"⟩ prog_14_method_117_code 3 none :: pw_T) 0 0 (kP_Mo_forget base sa) := by
  refine pm_met (by decide) rfl rfl ?_
  intro mc ms p e s m args below meth c hx hb hml hown hnm hts hbs hZ
  have ht : ∀ w ∈ pw_T, w.before args s = true := fun w h => hts w (List.mem_cons_of_mem _ h)
  exact ⟨hx, hb, hown, hbs, pm_look_all kD_Mo_forget, kf_ok (init := false) ht hZ kF_Mo_ok (fun h => by cases h), km_ok ht kM_Mo_ok, kci_ok ht kI_Mo_ok, kli_ok ht kJ_Mo_ok, kar_ok ht hZ kA_Mo_ok,
    pm_look_all (fun _ h => absurd h List.not_mem_nil),
    hZ, kst_ok ht hZ (kS_Mo_ok sa), knar_ok ht, ktx_ok (kE_Mo_ok sa)⟩
set_option maxRecDepth 100000 in
theorem ki_Mo_bytesAre : Cond.instanceMethod ⟨"RoutingFieldModel", "bytesAre", "(IIIII)Z"⟩ ∈ pw_T := (pw_in 2987 (by decide +kernel) rfl)
set_option maxRecDepth 100000 in
theorem ks_Mo_bytesAre : Cond.selects "RoutingFieldModel" ⟨"RoutingFieldModel", "bytesAre", "(IIIII)Z"⟩ ⟨"RoutingFieldModel", "bytesAre", "(IIIII)Z"⟩ ∈ pw_T := (pw_sel 189 (q := (⟨"RoutingFieldModel", "bytesAre", "(IIIII)Z"⟩, 166)) (by decide +kernel))
set_option maxRecDepth 100000 in
theorem ko_Mo_bytesAre : Cond.code ⟨"RoutingFieldModel", "bytesAre", "(IIIII)Z"⟩ prog_14_method_118_code 6 (some .boolean) ∈ pw_T := (pw_in 2988 rfl rfl)
set_option maxRecDepth 100000 in
theorem kD_Mo_bytesAre : ∀ q ∈ kC_Mo_bytesAre, decode prog_14_method_118_code q.1 = .ok (q.2, pm_len q.1 q.2) := by decide +kernel
set_option maxRecDepth 100000 in
theorem kW_Mo_bytesAre (l : Launch) (D : va_G) (base : Nat) (sa : Nat → Nat) : pm_Met l D kcl base (kZ sa) ⟨"RoutingFieldModel", "bytesAre", "(IIIII)Z"⟩ (.code ⟨"RoutingFieldModel", "bytesAre", "(IIIII)Z"⟩ prog_14_method_118_code 6 (some .boolean) :: pw_T) 0 0 (kP_Mo_bytesAre base sa) := by
  refine pm_met (by decide) rfl rfl ?_
  intro mc ms p e s m args below meth c hx hb hml hown hnm hts hbs hZ
  have ht : ∀ w ∈ pw_T, w.before args s = true := fun w h => hts w (List.mem_cons_of_mem _ h)
  exact ⟨hx, hb, hown, hbs, pm_look_all kD_Mo_bytesAre, kf_ok (init := false) ht hZ kF_Mo_ok (fun h => by cases h), km_ok ht kM_Mo_ok, kci_ok ht kI_Mo_ok, kli_ok ht kJ_Mo_ok, kar_ok ht hZ kA_Mo_ok,
    pm_look_all (fun _ h => absurd h List.not_mem_nil),
    hZ, kst_ok ht hZ (kS_Mo_ok sa), knar_ok ht, ktx_ok (kE_Mo_ok sa)⟩
set_option maxRecDepth 100000 in
theorem ki_Mo_areZeros : Cond.instanceMethod ⟨"RoutingFieldModel", "areZeros", "(II)Z"⟩ ∈ pw_T := (pw_in 2991 (by decide +kernel) rfl)
set_option maxRecDepth 100000 in
theorem ks_Mo_areZeros : Cond.selects "RoutingFieldModel" ⟨"RoutingFieldModel", "areZeros", "(II)Z"⟩ ⟨"RoutingFieldModel", "areZeros", "(II)Z"⟩ ∈ pw_T := (pw_sel 190 (q := (⟨"RoutingFieldModel", "areZeros", "(II)Z"⟩, 166)) (by decide +kernel))
set_option maxRecDepth 100000 in
theorem ko_Mo_areZeros : Cond.code ⟨"RoutingFieldModel", "areZeros", "(II)Z"⟩ prog_14_method_119_code 5 (some .boolean) ∈ pw_T := (pw_in 2992 rfl rfl)
set_option maxRecDepth 100000 in
theorem kD_Mo_areZeros : ∀ q ∈ kC_Mo_areZeros, decode prog_14_method_119_code q.1 = .ok (q.2, pm_len q.1 q.2) := by decide +kernel
set_option maxRecDepth 100000 in
theorem kW_Mo_areZeros (l : Launch) (D : va_G) (base : Nat) (sa : Nat → Nat) : pm_Met l D kcl base (kZ sa) ⟨"RoutingFieldModel", "areZeros", "(II)Z"⟩ (.code ⟨"RoutingFieldModel", "areZeros", "(II)Z"⟩ prog_14_method_119_code 5 (some .boolean) :: pw_T) 0 0 (kP_Mo_areZeros base sa) := by
  refine pm_met (by decide) rfl rfl ?_
  intro mc ms p e s m args below meth c hx hb hml hown hnm hts hbs hZ
  have ht : ∀ w ∈ pw_T, w.before args s = true := fun w h => hts w (List.mem_cons_of_mem _ h)
  exact ⟨hx, hb, hown, hbs, pm_look_all kD_Mo_areZeros, kf_ok (init := false) ht hZ kF_Mo_ok (fun h => by cases h), km_ok ht kM_Mo_ok, kci_ok ht kI_Mo_ok, kli_ok ht kJ_Mo_ok, kar_ok ht hZ kA_Mo_ok,
    pm_look_all (fun _ h => absurd h List.not_mem_nil),
    hZ, kst_ok ht hZ (kS_Mo_ok sa), knar_ok ht, ktx_ok (kE_Mo_ok sa)⟩
set_option maxRecDepth 100000 in
theorem ki_Mo_growSources : Cond.instanceMethod ⟨"RoutingFieldModel", "growSources", "()V"⟩ ∈ pw_T := (pw_in 3002 (by decide +kernel) rfl)
set_option maxRecDepth 100000 in
theorem ks_Mo_growSources : Cond.selects "RoutingFieldModel" ⟨"RoutingFieldModel", "growSources", "()V"⟩ ⟨"RoutingFieldModel", "growSources", "()V"⟩ ∈ pw_T := (pw_sel 192 (q := (⟨"RoutingFieldModel", "growSources", "()V"⟩, 166)) (by decide +kernel))
set_option maxRecDepth 100000 in
theorem ko_Mo_growSources : Cond.code ⟨"RoutingFieldModel", "growSources", "()V"⟩ prog_14_method_122_code 5 none ∈ pw_T := (pw_in 3003 rfl rfl)
set_option maxRecDepth 100000 in
theorem kD_Mo_growSources : ∀ q ∈ kC_Mo_growSources, decode prog_14_method_122_code q.1 = .ok (q.2, pm_len q.1 q.2) := by decide +kernel
set_option maxRecDepth 100000 in
theorem kW_Mo_growSources (l : Launch) (D : va_G) (base : Nat) (sa : Nat → Nat) : pm_Met l D kcl base (kZ sa) ⟨"RoutingFieldModel", "growSources", "()V"⟩ (.code ⟨"RoutingFieldModel", "growSources", "()V"⟩ prog_14_method_122_code 5 none :: pw_T) 0 0 (kP_Mo_growSources base sa) := by
  refine pm_met (by decide) rfl rfl ?_
  intro mc ms p e s m args below meth c hx hb hml hown hnm hts hbs hZ
  have ht : ∀ w ∈ pw_T, w.before args s = true := fun w h => hts w (List.mem_cons_of_mem _ h)
  exact ⟨hx, hb, hown, hbs, pm_look_all kD_Mo_growSources, kf_ok (init := false) ht hZ kF_Mo_ok (fun h => by cases h), km_ok ht kM_Mo_ok, kci_ok ht kI_Mo_ok, kli_ok ht kJ_Mo_ok, kar_ok ht hZ kA_Mo_ok,
    pm_look_all (fun _ h => absurd h List.not_mem_nil),
    hZ, kst_ok ht hZ (kS_Mo_ok sa), knar_ok ht, ktx_ok (kE_Mo_ok sa)⟩
set_option maxRecDepth 100000 in
theorem ki_Mo_isNotOlder : Cond.instanceMethod ⟨"RoutingFieldModel", "isNotOlder", "(IJJ)Z"⟩ ∈ pw_T := (pw_in 2998 (by decide +kernel) rfl)
set_option maxRecDepth 100000 in
theorem ks_Mo_isNotOlder : Cond.selects "RoutingFieldModel" ⟨"RoutingFieldModel", "isNotOlder", "(IJJ)Z"⟩ ⟨"RoutingFieldModel", "isNotOlder", "(IJJ)Z"⟩ ∈ pw_T := (pw_sel 191 (q := (⟨"RoutingFieldModel", "isNotOlder", "(IJJ)Z"⟩, 166)) (by decide +kernel))
set_option maxRecDepth 100000 in
theorem ko_Mo_isNotOlder : Cond.code ⟨"RoutingFieldModel", "isNotOlder", "(IJJ)Z"⟩ prog_14_method_121_code 7 (some .boolean) ∈ pw_T := (pw_in 2999 rfl rfl)
set_option maxRecDepth 100000 in
theorem kD_Mo_isNotOlder_0 : ∀ q ∈ kC_Mo_isNotOlder_0, decode prog_14_method_121_code q.1 = .ok (q.2, pm_len q.1 q.2) := by decide +kernel
set_option maxRecDepth 100000 in
theorem kD_Mo_isNotOlder_1 : ∀ q ∈ kC_Mo_isNotOlder_1, decode prog_14_method_121_code q.1 = .ok (q.2, pm_len q.1 q.2) := by decide +kernel
theorem kD_Mo_isNotOlder : ∀ q ∈ kC_Mo_isNotOlder, decode prog_14_method_121_code q.1 = .ok (q.2, pm_len q.1 q.2) := List.forall_mem_append.mpr ⟨kD_Mo_isNotOlder_0, kD_Mo_isNotOlder_1⟩
set_option maxRecDepth 100000 in
theorem kW_Mo_isNotOlder (l : Launch) (D : va_G) (base : Nat) (sa : Nat → Nat) : pm_Met l D kcl base (kZ sa) ⟨"RoutingFieldModel", "isNotOlder", "(IJJ)Z"⟩ (.code ⟨"RoutingFieldModel", "isNotOlder", "(IJJ)Z"⟩ prog_14_method_121_code 7 (some .boolean) :: pw_T) 1 24 (kP_Mo_isNotOlder base sa) := by
  refine pm_met (by decide) rfl rfl ?_
  intro mc ms p e s m args below meth c hx hb hml hown hnm hts hbs hZ
  have ht : ∀ w ∈ pw_T, w.before args s = true := fun w h => hts w (List.mem_cons_of_mem _ h)
  exact ⟨hx, hb, hown, hbs, pm_look_all kD_Mo_isNotOlder, kf_ok (init := false) ht hZ kF_Mo_ok (fun h => by cases h), km_ok ht kM_Mo_ok, kci_ok ht kI_Mo_ok, kli_ok ht kJ_Mo_ok, kar_ok ht hZ kA_Mo_ok,
    pm_look_all (List.forall_mem_cons.mpr ⟨pm_cokV hbs hZ ⟨hx, hb, hml, hown, hts⟩ (kW_Mo_growSources l D base sa) (fun mc ms => cwV 0 hts (pw_gV (pw_in 3000 (w := .methodLink "RoutingFieldModel" 1029 ⟨"RoutingFieldModel", "growSources", "()V"⟩) (by decide +kernel) rfl) ki_Mo_growSources ks_Mo_growSources kn_Mo ko_Mo_growSources) rfl rfl rfl (by decide +kernel) ⟨Nat.le_of_ble_eq_true rfl, Nat.le_of_ble_eq_true rfl⟩) (ci := 12) rfl, fun _ h => absurd h List.not_mem_nil⟩),
    hZ, kst_ok ht hZ (kS_Mo_ok sa), knar_ok ht, ktx_ok (kE_Mo_ok sa)⟩
