set_option maxRecDepth 100000 in
theorem ki_Mo_bornKey : Cond.instanceMethod ⟨"RoutingFieldModel", "bornKey", "(I)I"⟩ ∈ pw_T := (pw_in 2721 (by decide +kernel) rfl)
set_option maxRecDepth 100000 in
theorem ks_Mo_bornKey : Cond.selects "RoutingFieldModel" ⟨"RoutingFieldModel", "bornKey", "(I)I"⟩ ⟨"RoutingFieldModel", "bornKey", "(I)I"⟩ ∈ pw_T := (pw_sel 152 (q := (⟨"RoutingFieldModel", "bornKey", "(I)I"⟩, 166)) (by decide +kernel))
set_option maxRecDepth 100000 in
theorem ko_Mo_bornKey : Cond.code ⟨"RoutingFieldModel", "bornKey", "(I)I"⟩ prog_14_method_95_code 5 (some .int) ∈ pw_T := (pw_in 2722 rfl rfl)
set_option maxRecDepth 100000 in
theorem kD_Mo_bornKey_0 : ∀ q ∈ kC_Mo_bornKey_0, decode prog_14_method_95_code q.1 = .ok (q.2, pm_len q.1 q.2) := by decide +kernel
set_option maxRecDepth 100000 in
theorem kD_Mo_bornKey_1 : ∀ q ∈ kC_Mo_bornKey_1, decode prog_14_method_95_code q.1 = .ok (q.2, pm_len q.1 q.2) := by decide +kernel
theorem kD_Mo_bornKey : ∀ q ∈ kC_Mo_bornKey, decode prog_14_method_95_code q.1 = .ok (q.2, pm_len q.1 q.2) := List.forall_mem_append.mpr ⟨kD_Mo_bornKey_0, kD_Mo_bornKey_1⟩
set_option maxRecDepth 100000 in
theorem kW_Mo_bornKey (l : Launch) (D : va_G) (base : Nat) (sa : Nat → Nat) : pm_Met l D kcl base (kZ sa) ⟨"RoutingFieldModel", "bornKey", "(I)I"⟩ (.code ⟨"RoutingFieldModel", "bornKey", "(I)I"⟩ prog_14_method_95_code 5 (some .int) :: pw_T) 1 21 (kP_Mo_bornKey base sa) := by
  refine pm_met (by decide) rfl rfl ?_
  intro mc ms p e s m args below meth c hx hb hml hown hnm hts hbs hZ
  have ht : ∀ w ∈ pw_T, w.before args s = true := fun w h => hts w (List.mem_cons_of_mem _ h)
  exact ⟨hx, hb, hown, hbs, pm_look_all kD_Mo_bornKey, kf_ok (init := false) ht hZ kF_Mo_ok (fun h => by cases h), km_ok ht kM_Mo_ok, kci_ok ht kI_Mo_ok, kli_ok ht kJ_Mo_ok, kar_ok ht hZ kA_Mo_ok,
    pm_look_all (List.forall_mem_cons.mpr ⟨pm_cokV hbs hZ ⟨hx, hb, hml, hown, hts⟩ (kW_Mo_isGood l D base sa) (fun mc ms => cwV 1 hts (pw_gV (pw_in 2723 (w := .methodLink "RoutingFieldModel" 914 ⟨"RoutingFieldModel", "isGood", "(I)Z"⟩) (by decide +kernel) rfl) ki_Mo_isGood ks_Mo_isGood kn_Mo ko_Mo_isGood) rfl rfl rfl (by decide +kernel) ⟨Nat.le_of_ble_eq_true rfl, Nat.le_of_ble_eq_true rfl⟩) (ci := 12) rfl, fun _ h => absurd h List.not_mem_nil⟩),
    hZ, kst_ok ht hZ (kS_Mo_ok sa), knar_ok ht, ktx_ok (kE_Mo_ok sa)⟩
set_option maxRecDepth 100000 in
theorem ki_Mo_put2 : Cond.instanceMethod ⟨"RoutingFieldModel", "put2", "([III)V"⟩ ∈ pw_T := (pw_in 2730 (by decide +kernel) rfl)
set_option maxRecDepth 100000 in
theorem ks_Mo_put2 : Cond.selects "RoutingFieldModel" ⟨"RoutingFieldModel", "put2", "([III)V"⟩ ⟨"RoutingFieldModel", "put2", "([III)V"⟩ ∈ pw_T := (pw_sel 154 (q := (⟨"RoutingFieldModel", "put2", "([III)V"⟩, 166)) (by decide +kernel))
set_option maxRecDepth 100000 in
theorem ko_Mo_put2 : Cond.code ⟨"RoutingFieldModel", "put2", "([III)V"⟩ prog_14_method_96_code 4 none ∈ pw_T := (pw_in 2731 rfl rfl)
set_option maxRecDepth 100000 in
theorem kD_Mo_put2 : ∀ q ∈ kC_Mo_put2, decode prog_14_method_96_code q.1 = .ok (q.2, pm_len q.1 q.2) := by decide +kernel
set_option maxRecDepth 100000 in
theorem kW_Mo_put2 (l : Launch) (D : va_G) (base : Nat) (sa : Nat → Nat) : pm_Met l D kcl base (kZ sa) ⟨"RoutingFieldModel", "put2", "([III)V"⟩ (.code ⟨"RoutingFieldModel", "put2", "([III)V"⟩ prog_14_method_96_code 4 none :: pw_T) 0 0 (kP_Mo_put2 base sa) := by
  refine pm_met (by decide) rfl rfl ?_
  intro mc ms p e s m args below meth c hx hb hml hown hnm hts hbs hZ
  have ht : ∀ w ∈ pw_T, w.before args s = true := fun w h => hts w (List.mem_cons_of_mem _ h)
  exact ⟨hx, hb, hown, hbs, pm_look_all kD_Mo_put2, kf_ok (init := false) ht hZ kF_Mo_ok (fun h => by cases h), km_ok ht kM_Mo_ok, kci_ok ht kI_Mo_ok, kli_ok ht kJ_Mo_ok, kar_ok ht hZ kA_Mo_ok,
    pm_look_all (fun _ h => absurd h List.not_mem_nil),
    hZ, kst_ok ht hZ (kS_Mo_ok sa), knar_ok ht, ktx_ok (kE_Mo_ok sa)⟩
set_option maxRecDepth 100000 in
theorem ki_Mo_put4 : Cond.instanceMethod ⟨"RoutingFieldModel", "put4", "([III)V"⟩ ∈ pw_T := (pw_in 2734 (by decide +kernel) rfl)
set_option maxRecDepth 100000 in
theorem ks_Mo_put4 : Cond.selects "RoutingFieldModel" ⟨"RoutingFieldModel", "put4", "([III)V"⟩ ⟨"RoutingFieldModel", "put4", "([III)V"⟩ ∈ pw_T := (pw_sel 155 (q := (⟨"RoutingFieldModel", "put4", "([III)V"⟩, 166)) (by decide +kernel))
set_option maxRecDepth 100000 in
theorem ko_Mo_put4 : Cond.code ⟨"RoutingFieldModel", "put4", "([III)V"⟩ prog_14_method_97_code 4 none ∈ pw_T := (pw_in 2735 rfl rfl)
set_option maxRecDepth 100000 in
theorem kD_Mo_put4 : ∀ q ∈ kC_Mo_put4, decode prog_14_method_97_code q.1 = .ok (q.2, pm_len q.1 q.2) := by decide +kernel
set_option maxRecDepth 100000 in
theorem kW_Mo_put4 (l : Launch) (D : va_G) (base : Nat) (sa : Nat → Nat) : pm_Met l D kcl base (kZ sa) ⟨"RoutingFieldModel", "put4", "([III)V"⟩ (.code ⟨"RoutingFieldModel", "put4", "([III)V"⟩ prog_14_method_97_code 4 none :: pw_T) 1 23 (kP_Mo_put4 base sa) := by
  refine pm_met (by decide) rfl rfl ?_
  intro mc ms p e s m args below meth c hx hb hml hown hnm hts hbs hZ
  have ht : ∀ w ∈ pw_T, w.before args s = true := fun w h => hts w (List.mem_cons_of_mem _ h)
  exact ⟨hx, hb, hown, hbs, pm_look_all kD_Mo_put4, kf_ok (init := false) ht hZ kF_Mo_ok (fun h => by cases h), km_ok ht kM_Mo_ok, kci_ok ht kI_Mo_ok, kli_ok ht kJ_Mo_ok, kar_ok ht hZ kA_Mo_ok,
    pm_look_all (List.forall_mem_cons.mpr ⟨pm_cokV hbs hZ ⟨hx, hb, hml, hown, hts⟩ (kW_Mo_put2 l D base sa) (fun mc ms => cwV 3 hts (pw_gV (pw_in 2728 (w := .methodLink "RoutingFieldModel" 917 ⟨"RoutingFieldModel", "put2", "([III)V"⟩) (by decide +kernel) rfl) ki_Mo_put2 ks_Mo_put2 kn_Mo ko_Mo_put2) rfl rfl rfl (by decide +kernel) ⟨Nat.le_of_ble_eq_true rfl, Nat.le_of_ble_eq_true rfl⟩) (ci := 12) rfl, fun _ h => absurd h List.not_mem_nil⟩),
    hZ, kst_ok ht hZ (kS_Mo_ok sa), knar_ok ht, ktx_ok (kE_Mo_ok sa)⟩
set_option maxRecDepth 100000 in
theorem ki_Mo_secret : Cond.instanceMethod ⟨"RoutingFieldModel", "secret", "(II)I"⟩ ∈ pw_T := (pw_in 2742 (by decide +kernel) rfl)
set_option maxRecDepth 100000 in
theorem ks_Mo_secret : Cond.selects "RoutingFieldModel" ⟨"RoutingFieldModel", "secret", "(II)I"⟩ ⟨"RoutingFieldModel", "secret", "(II)I"⟩ ∈ pw_T := (pw_sel 157 (q := (⟨"RoutingFieldModel", "secret", "(II)I"⟩, 166)) (by decide +kernel))
set_option maxRecDepth 100000 in
theorem ko_Mo_secret : Cond.code ⟨"RoutingFieldModel", "secret", "(II)I"⟩ prog_14_method_92_code 3 (some .int) ∈ pw_T := (pw_in 2743 rfl rfl)
set_option maxRecDepth 100000 in
theorem kD_Mo_secret : ∀ q ∈ kC_Mo_secret, decode prog_14_method_92_code q.1 = .ok (q.2, pm_len q.1 q.2) := by decide +kernel
set_option maxRecDepth 100000 in
theorem kW_Mo_secret (l : Launch) (D : va_G) (base : Nat) (sa : Nat → Nat) : pm_Met l D kcl base (kZ sa) ⟨"RoutingFieldModel", "secret", "(II)I"⟩ (.code ⟨"RoutingFieldModel", "secret", "(II)I"⟩ prog_14_method_92_code 3 (some .int) :: pw_T) 0 0 (kP_Mo_secret base sa) := by
  refine pm_met (by decide) rfl rfl ?_
  intro mc ms p e s m args below meth c hx hb hml hown hnm hts hbs hZ
  have ht : ∀ w ∈ pw_T, w.before args s = true := fun w h => hts w (List.mem_cons_of_mem _ h)
  exact ⟨hx, hb, hown, hbs, pm_look_all kD_Mo_secret, kf_ok (init := false) ht hZ kF_Mo_ok (fun h => by cases h), km_ok ht kM_Mo_ok, kci_ok ht kI_Mo_ok, kli_ok ht kJ_Mo_ok, kar_ok ht hZ kA_Mo_ok,
    pm_look_all (fun _ h => absurd h List.not_mem_nil),
    hZ, kst_ok ht hZ (kS_Mo_ok sa), knar_ok ht, ktx_ok (kE_Mo_ok sa)⟩
set_option maxRecDepth 100000 in
theorem ki_Mo_pad : Cond.instanceMethod ⟨"RoutingFieldModel", "pad", "(IZ)I"⟩ ∈ pw_T := (pw_in 2755 (by decide +kernel) rfl)
set_option maxRecDepth 100000 in
theorem ks_Mo_pad : Cond.selects "RoutingFieldModel" ⟨"RoutingFieldModel", "pad", "(IZ)I"⟩ ⟨"RoutingFieldModel", "pad", "(IZ)I"⟩ ∈ pw_T := (pw_sel 159 (q := (⟨"RoutingFieldModel", "pad", "(IZ)I"⟩, 166)) (by decide +kernel))
set_option maxRecDepth 100000 in
theorem ko_Mo_pad : Cond.code ⟨"RoutingFieldModel", "pad", "(IZ)I"⟩ prog_14_method_86_code 6 (some .int) ∈ pw_T := (pw_in 2756 rfl rfl)
set_option maxRecDepth 100000 in
theorem kD_Mo_pad : ∀ q ∈ kC_Mo_pad, decode prog_14_method_86_code q.1 = .ok (q.2, pm_len q.1 q.2) := by decide +kernel
set_option maxRecDepth 100000 in
theorem kW_Mo_pad (l : Launch) (D : va_G) (base : Nat) (sa : Nat → Nat) : pm_Met l D kcl base (kZ sa) ⟨"RoutingFieldModel", "pad", "(IZ)I"⟩ (.code ⟨"RoutingFieldModel", "pad", "(IZ)I"⟩ prog_14_method_86_code 6 (some .int) :: pw_T) 0 0 (kP_Mo_pad base sa) := by
  refine pm_met (by decide) rfl rfl ?_
  intro mc ms p e s m args below meth c hx hb hml hown hnm hts hbs hZ
  have ht : ∀ w ∈ pw_T, w.before args s = true := fun w h => hts w (List.mem_cons_of_mem _ h)
  exact ⟨hx, hb, hown, hbs, pm_look_all kD_Mo_pad, kf_ok (init := false) ht hZ kF_Mo_ok (fun h => by cases h), km_ok ht kM_Mo_ok, kci_ok ht kI_Mo_ok, kli_ok ht kJ_Mo_ok, kar_ok ht hZ kA_Mo_ok,
    pm_look_all (fun _ h => absurd h List.not_mem_nil),
    hZ, kst_ok ht hZ (kS_Mo_ok sa), knar_ok ht, ktx_ok (kE_Mo_ok sa)⟩
set_option maxRecDepth 100000 in
theorem kv_Mo_turned : Cond.static ⟨"RoutingFieldModel", "turned", "(II)I"⟩ ∈ pw_T := (pw_in 2764 (by decide +kernel) rfl)
set_option maxRecDepth 100000 in
theorem ko_Mo_turned : Cond.code ⟨"RoutingFieldModel", "turned", "(II)I"⟩ prog_14_method_85_code 2 (some .int) ∈ pw_T := (pw_in 2765 rfl rfl)
set_option maxRecDepth 100000 in
theorem kD_Mo_turned : ∀ q ∈ kC_Mo_turned, decode prog_14_method_85_code q.1 = .ok (q.2, pm_len q.1 q.2) := by decide +kernel
set_option maxRecDepth 100000 in
theorem kW_Mo_turned (l : Launch) (D : va_G) (base : Nat) (sa : Nat → Nat) : pm_Met l D kcl base (kZ sa) ⟨"RoutingFieldModel", "turned", "(II)I"⟩ (.code ⟨"RoutingFieldModel", "turned", "(II)I"⟩ prog_14_method_85_code 2 (some .int) :: pw_T) 0 0 (kP_Mo_turned base sa) := by
  refine pm_met (by decide) rfl rfl ?_
  intro mc ms p e s m args below meth c hx hb hml hown hnm hts hbs hZ
  have ht : ∀ w ∈ pw_T, w.before args s = true := fun w h => hts w (List.mem_cons_of_mem _ h)
  exact ⟨hx, hb, hown, hbs, pm_look_all kD_Mo_turned, kf_ok (init := false) ht hZ kF_Mo_ok (fun h => by cases h), km_ok ht kM_Mo_ok, kci_ok ht kI_Mo_ok, kli_ok ht kJ_Mo_ok, kar_ok ht hZ kA_Mo_ok,
    pm_look_all (fun _ h => absurd h List.not_mem_nil),
    hZ, kst_ok ht hZ (kS_Mo_ok sa), knar_ok ht, ktx_ok (kE_Mo_ok sa)⟩
set_option maxRecDepth 100000 in
theorem ki_Mo_shaBlock : Cond.instanceMethod ⟨"RoutingFieldModel", "shaBlock", "(I)V"⟩ ∈ pw_T := (pw_in 2761 (by decide +kernel) rfl)
set_option maxRecDepth 100000 in
theorem ks_Mo_shaBlock : Cond.selects "RoutingFieldModel" ⟨"RoutingFieldModel", "shaBlock", "(I)V"⟩ ⟨"RoutingFieldModel", "shaBlock", "(I)V"⟩ ∈ pw_T := (pw_sel 160 (q := (⟨"RoutingFieldModel", "shaBlock", "(I)V"⟩, 166)) (by decide +kernel))
set_option maxRecDepth 100000 in
theorem ko_Mo_shaBlock : Cond.code ⟨"RoutingFieldModel", "shaBlock", "(I)V"⟩ prog_14_method_90_code 11 none ∈ pw_T := (pw_in 2762 rfl rfl)
set_option maxRecDepth 100000 in
theorem kD_Mo_shaBlock_0 : ∀ q ∈ kC_Mo_shaBlock_0, decode prog_14_method_90_code q.1 = .ok (q.2, pm_len q.1 q.2) := by decide +kernel
set_option maxRecDepth 100000 in
theorem kD_Mo_shaBlock_1 : ∀ q ∈ kC_Mo_shaBlock_1, decode prog_14_method_90_code q.1 = .ok (q.2, pm_len q.1 q.2) := by decide +kernel
set_option maxRecDepth 100000 in
theorem kD_Mo_shaBlock_2 : ∀ q ∈ kC_Mo_shaBlock_2, decode prog_14_method_90_code q.1 = .ok (q.2, pm_len q.1 q.2) := by decide +kernel
set_option maxRecDepth 100000 in
theorem kD_Mo_shaBlock_3 : ∀ q ∈ kC_Mo_shaBlock_3, decode prog_14_method_90_code q.1 = .ok (q.2, pm_len q.1 q.2) := by decide +kernel
set_option maxRecDepth 100000 in
theorem kD_Mo_shaBlock_4 : ∀ q ∈ kC_Mo_shaBlock_4, decode prog_14_method_90_code q.1 = .ok (q.2, pm_len q.1 q.2) := by decide +kernel
theorem kD_Mo_shaBlock : ∀ q ∈ kC_Mo_shaBlock, decode prog_14_method_90_code q.1 = .ok (q.2, pm_len q.1 q.2) := List.forall_mem_append.mpr ⟨kD_Mo_shaBlock_0, List.forall_mem_append.mpr ⟨kD_Mo_shaBlock_1, List.forall_mem_append.mpr ⟨kD_Mo_shaBlock_2, List.forall_mem_append.mpr ⟨kD_Mo_shaBlock_3, kD_Mo_shaBlock_4⟩⟩⟩⟩
set_option maxRecDepth 100000 in
theorem kW_Mo_shaBlock (l : Launch) (D : va_G) (base : Nat) (sa : Nat → Nat) : pm_Met l D kcl base (kZ sa) ⟨"RoutingFieldModel", "shaBlock", "(I)V"⟩ (.code ⟨"RoutingFieldModel", "shaBlock", "(I)V"⟩ prog_14_method_90_code 11 none :: pw_T) 1 25 (kP_Mo_shaBlock base sa) := by
  refine pm_met (by decide) rfl rfl ?_
  intro mc ms p e s m args below meth c hx hb hml hown hnm hts hbs hZ
  have ht : ∀ w ∈ pw_T, w.before args s = true := fun w h => hts w (List.mem_cons_of_mem _ h)
  exact ⟨hx, hb, hown, hbs, pm_look_all kD_Mo_shaBlock, kf_ok (init := false) ht hZ kF_Mo_ok (fun h => by cases h), km_ok ht kM_Mo_ok, kci_ok ht kI_Mo_ok, kli_ok ht kJ_Mo_ok, kar_ok ht hZ kA_Mo_ok,
    pm_look_all (List.forall_mem_cons.mpr ⟨pm_cokS hbs hZ ⟨hx, hb, hml, hown, hts⟩ (kW_Mo_turned l D base sa) (fun mc ms => va_cwS 2 hts (pw_gS (pw_in 2763 (w := .methodLink "RoutingFieldModel" 885 ⟨"RoutingFieldModel", "turned", "(II)I"⟩) (by decide +kernel) rfl) kv_Mo_turned kn_Mo ko_Mo_turned) rfl rfl rfl (by decide +kernel) ⟨Nat.le_of_ble_eq_true rfl, Nat.le_of_ble_eq_true rfl⟩) (Nat.le_of_ble_eq_true rfl), fun _ h => absurd h List.not_mem_nil⟩),
    hZ, kst_ok ht hZ (kS_Mo_ok sa), knar_ok ht, ktx_ok (kE_Mo_ok sa)⟩
set_option maxRecDepth 100000 in
theorem kv_Mo_constant : Cond.static ⟨"RoutingFieldModel", "constant", "(I)I"⟩ ∈ pw_T := (pw_in 2775 (by decide +kernel) rfl)
set_option maxRecDepth 100000 in
theorem ko_Mo_constant : Cond.code ⟨"RoutingFieldModel", "constant", "(I)I"⟩ prog_14_method_87_code 1 (some .int) ∈ pw_T := (pw_in 2776 rfl rfl)
set_option maxRecDepth 100000 in
theorem kD_Mo_constant_0 : ∀ q ∈ kC_Mo_constant_0, decode prog_14_method_87_code q.1 = .ok (q.2, pm_len q.1 q.2) := by decide +kernel
set_option maxRecDepth 100000 in
theorem kD_Mo_constant_1 : ∀ q ∈ kC_Mo_constant_1, decode prog_14_method_87_code q.1 = .ok (q.2, pm_len q.1 q.2) := by decide +kernel
set_option maxRecDepth 100000 in
theorem kD_Mo_constant_2 : ∀ q ∈ kC_Mo_constant_2, decode prog_14_method_87_code q.1 = .ok (q.2, pm_len q.1 q.2) := by decide +kernel
theorem kD_Mo_constant : ∀ q ∈ kC_Mo_constant, decode prog_14_method_87_code q.1 = .ok (q.2, pm_len q.1 q.2) := List.forall_mem_append.mpr ⟨kD_Mo_constant_0, List.forall_mem_append.mpr ⟨kD_Mo_constant_1, kD_Mo_constant_2⟩⟩
set_option maxRecDepth 100000 in
theorem kW_Mo_constant (l : Launch) (D : va_G) (base : Nat) (sa : Nat → Nat) : pm_Met l D kcl base (kZ sa) ⟨"RoutingFieldModel", "constant", "(I)I"⟩ (.code ⟨"RoutingFieldModel", "constant", "(I)I"⟩ prog_14_method_87_code 1 (some .int) :: pw_T) 0 0 (kP_Mo_constant base sa) := by
  refine pm_met (by decide) rfl rfl ?_
  intro mc ms p e s m args below meth c hx hb hml hown hnm hts hbs hZ
  have ht : ∀ w ∈ pw_T, w.before args s = true := fun w h => hts w (List.mem_cons_of_mem _ h)
  exact ⟨hx, hb, hown, hbs, pm_look_all kD_Mo_constant, kf_ok (init := false) ht hZ kF_Mo_ok (fun h => by cases h), km_ok ht kM_Mo_ok, kci_ok ht kI_Mo_ok, kli_ok ht kJ_Mo_ok, kar_ok ht hZ kA_Mo_ok,
    pm_look_all (fun _ h => absurd h List.not_mem_nil),
    hZ, kst_ok ht hZ (kS_Mo_ok sa), knar_ok ht, ktx_ok (kE_Mo_ok sa)⟩
set_option maxRecDepth 100000 in
theorem kv_Mo_turn : Cond.static ⟨"RoutingFieldModel", "turn", "(I)I"⟩ ∈ pw_T := (pw_in 2842 (by decide +kernel) rfl)
set_option maxRecDepth 100000 in
theorem ko_Mo_turn : Cond.code ⟨"RoutingFieldModel", "turn", "(I)I"⟩ prog_14_method_88_code 2 (some .int) ∈ pw_T := (pw_in 2843 rfl rfl)
set_option maxRecDepth 100000 in
theorem kD_Mo_turn_0 : ∀ q ∈ kC_Mo_turn_0, decode prog_14_method_88_code q.1 = .ok (q.2, pm_len q.1 q.2) := by decide +kernel
set_option maxRecDepth 100000 in
theorem kD_Mo_turn_1 : ∀ q ∈ kC_Mo_turn_1, decode prog_14_method_88_code q.1 = .ok (q.2, pm_len q.1 q.2) := by decide +kernel
theorem kD_Mo_turn : ∀ q ∈ kC_Mo_turn, decode prog_14_method_88_code q.1 = .ok (q.2, pm_len q.1 q.2) := List.forall_mem_append.mpr ⟨kD_Mo_turn_0, kD_Mo_turn_1⟩
set_option maxRecDepth 100000 in
theorem kW_Mo_turn (l : Launch) (D : va_G) (base : Nat) (sa : Nat → Nat) : pm_Met l D kcl base (kZ sa) ⟨"RoutingFieldModel", "turn", "(I)I"⟩ (.code ⟨"RoutingFieldModel", "turn", "(I)I"⟩ prog_14_method_88_code 2 (some .int) :: pw_T) 0 0 (kP_Mo_turn base sa) := by
  refine pm_met (by decide) rfl rfl ?_
  intro mc ms p e s m args below meth c hx hb hml hown hnm hts hbs hZ
  have ht : ∀ w ∈ pw_T, w.before args s = true := fun w h => hts w (List.mem_cons_of_mem _ h)
  exact ⟨hx, hb, hown, hbs, pm_look_all kD_Mo_turn, kf_ok (init := false) ht hZ kF_Mo_ok (fun h => by cases h), km_ok ht kM_Mo_ok, kci_ok ht kI_Mo_ok, kli_ok ht kJ_Mo_ok, kar_ok ht hZ kA_Mo_ok,
    pm_look_all (fun _ h => absurd h List.not_mem_nil),
    hZ, kst_ok ht hZ (kS_Mo_ok sa), knar_ok ht, ktx_ok (kE_Mo_ok sa)⟩
