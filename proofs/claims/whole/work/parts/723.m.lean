set_option maxRecDepth 100000 in
theorem ki_Mo_md5Block : Cond.instanceMethod ⟨"RoutingFieldModel", "md5Block", "(I)V"⟩ ∈ pw_T := (pw_in 2772 (by decide +kernel) rfl)
set_option maxRecDepth 100000 in
theorem ks_Mo_md5Block : Cond.selects "RoutingFieldModel" ⟨"RoutingFieldModel", "md5Block", "(I)V"⟩ ⟨"RoutingFieldModel", "md5Block", "(I)V"⟩ ∈ pw_T := (pw_sel 161 (q := (⟨"RoutingFieldModel", "md5Block", "(I)V"⟩, 166)) (by decide +kernel))
set_option maxRecDepth 100000 in
theorem ko_Mo_md5Block : Cond.code ⟨"RoutingFieldModel", "md5Block", "(I)V"⟩ prog_14_method_89_code 10 none ∈ pw_T := (pw_in 2773 rfl rfl)
set_option maxRecDepth 100000 in
theorem kD_Mo_md5Block_0 : ∀ q ∈ kC_Mo_md5Block_0, decode prog_14_method_89_code q.1 = .ok (q.2, pm_len q.1 q.2) := by decide +kernel
set_option maxRecDepth 100000 in
theorem kD_Mo_md5Block_1 : ∀ q ∈ kC_Mo_md5Block_1, decode prog_14_method_89_code q.1 = .ok (q.2, pm_len q.1 q.2) := by decide +kernel
set_option maxRecDepth 100000 in
theorem kD_Mo_md5Block_2 : ∀ q ∈ kC_Mo_md5Block_2, decode prog_14_method_89_code q.1 = .ok (q.2, pm_len q.1 q.2) := by decide +kernel
set_option maxRecDepth 100000 in
theorem kD_Mo_md5Block_3 : ∀ q ∈ kC_Mo_md5Block_3, decode prog_14_method_89_code q.1 = .ok (q.2, pm_len q.1 q.2) := by decide +kernel
set_option maxRecDepth 100000 in
theorem kD_Mo_md5Block_4 : ∀ q ∈ kC_Mo_md5Block_4, decode prog_14_method_89_code q.1 = .ok (q.2, pm_len q.1 q.2) := by decide +kernel
theorem kD_Mo_md5Block : ∀ q ∈ kC_Mo_md5Block, decode prog_14_method_89_code q.1 = .ok (q.2, pm_len q.1 q.2) := List.forall_mem_append.mpr ⟨kD_Mo_md5Block_0, List.forall_mem_append.mpr ⟨kD_Mo_md5Block_1, List.forall_mem_append.mpr ⟨kD_Mo_md5Block_2, List.forall_mem_append.mpr ⟨kD_Mo_md5Block_3, kD_Mo_md5Block_4⟩⟩⟩⟩
set_option maxRecDepth 100000 in
theorem kW_Mo_md5Block (l : Launch) (D : va_G) (base : Nat) (sa : Nat → Nat) : pm_Met l D kcl base (kZ sa) ⟨"RoutingFieldModel", "md5Block", "(I)V"⟩ (.code ⟨"RoutingFieldModel", "md5Block", "(I)V"⟩ prog_14_method_89_code 10 none :: pw_T) 1 25 (kP_Mo_md5Block base sa) := by
  refine pm_met (by decide) rfl rfl ?_
  intro mc ms p e s m args below meth c hx hb hml hown hnm hts hbs hZ
  have ht : ∀ w ∈ pw_T, w.before args s = true := fun w h => hts w (List.mem_cons_of_mem _ h)
  exact ⟨hx, hb, hown, hbs, pm_look_all kD_Mo_md5Block, kf_ok (init := false) ht hZ kF_Mo_ok (fun h => by cases h), km_ok ht kM_Mo_ok, kci_ok ht kI_Mo_ok, kli_ok ht kJ_Mo_ok, kar_ok ht hZ kA_Mo_ok,
    pm_look_all (List.forall_mem_cons.mpr ⟨pm_cokS hbs hZ ⟨hx, hb, hml, hown, hts⟩ (kW_Mo_constant l D base sa) (fun mc ms => va_cwS 1 hts (pw_gS (pw_in 2774 (w := .methodLink "RoutingFieldModel" 879 ⟨"RoutingFieldModel", "constant", "(I)I"⟩) (by decide +kernel) rfl) kv_Mo_constant kn_Mo ko_Mo_constant) rfl rfl rfl (by decide +kernel) ⟨Nat.le_of_ble_eq_true rfl, Nat.le_of_ble_eq_true rfl⟩) (Nat.le_of_ble_eq_true rfl), List.forall_mem_cons.mpr ⟨pm_cokS hbs hZ ⟨hx, hb, hml, hown, hts⟩ (kW_Mo_turn l D base sa) (fun mc ms => va_cwS 1 hts (pw_gS (pw_in 2841 (w := .methodLink "RoutingFieldModel" 882 ⟨"RoutingFieldModel", "turn", "(I)I"⟩) (by decide +kernel) rfl) kv_Mo_turn kn_Mo ko_Mo_turn) rfl rfl rfl (by decide +kernel) ⟨Nat.le_of_ble_eq_true rfl, Nat.le_of_ble_eq_true rfl⟩) (Nat.le_of_ble_eq_true rfl), List.forall_mem_cons.mpr ⟨pm_cokS hbs hZ ⟨hx, hb, hml, hown, hts⟩ (kW_Mo_turned l D base sa) (fun mc ms => va_cwS 2 hts (pw_gS (pw_in 2763 (w := .methodLink "RoutingFieldModel" 885 ⟨"RoutingFieldModel", "turned", "(II)I"⟩) (by decide +kernel) rfl) kv_Mo_turned kn_Mo ko_Mo_turned) rfl rfl rfl (by decide +kernel) ⟨Nat.le_of_ble_eq_true rfl, Nat.le_of_ble_eq_true rfl⟩) (Nat.le_of_ble_eq_true rfl), fun _ h => absurd h List.not_mem_nil⟩⟩⟩),
    hZ, kst_ok ht hZ (kS_Mo_ok sa), knar_ok ht, ktx_ok (kE_Mo_ok sa)⟩
set_option maxRecDepth 100000 in
theorem ki_Mo_digest : Cond.instanceMethod ⟨"RoutingFieldModel", "digest", "(IZ)V"⟩ ∈ pw_T := (pw_in 2746 (by decide +kernel) rfl)
set_option maxRecDepth 100000 in
theorem ks_Mo_digest : Cond.selects "RoutingFieldModel" ⟨"RoutingFieldModel", "digest", "(IZ)V"⟩ ⟨"RoutingFieldModel", "digest", "(IZ)V"⟩ ∈ pw_T := (pw_sel 158 (q := (⟨"RoutingFieldModel", "digest", "(IZ)V"⟩, 166)) (by decide +kernel))
set_option maxRecDepth 100000 in
theorem ko_Mo_digest : Cond.code ⟨"RoutingFieldModel", "digest", "(IZ)V"⟩ prog_14_method_91_code 5 none ∈ pw_T := (pw_in 2747 rfl rfl)
set_option maxRecDepth 100000 in
theorem kD_Mo_digest_0 : ∀ q ∈ kC_Mo_digest_0, decode prog_14_method_91_code q.1 = .ok (q.2, pm_len q.1 q.2) := by decide +kernel
set_option maxRecDepth 100000 in
theorem kD_Mo_digest_1 : ∀ q ∈ kC_Mo_digest_1, decode prog_14_method_91_code q.1 = .ok (q.2, pm_len q.1 q.2) := by decide +kernel
theorem kD_Mo_digest : ∀ q ∈ kC_Mo_digest, decode prog_14_method_91_code q.1 = .ok (q.2, pm_len q.1 q.2) := List.forall_mem_append.mpr ⟨kD_Mo_digest_0, kD_Mo_digest_1⟩
set_option maxRecDepth 100000 in
theorem kW_Mo_digest (l : Launch) (D : va_G) (base : Nat) (sa : Nat → Nat) : pm_Met l D kcl base (kZ sa) ⟨"RoutingFieldModel", "digest", "(IZ)V"⟩ (.code ⟨"RoutingFieldModel", "digest", "(IZ)V"⟩ prog_14_method_91_code 5 none :: pw_T) 2 55 (kP_Mo_digest base sa) := by
  refine pm_met (by decide) rfl rfl ?_
  intro mc ms p e s m args below meth c hx hb hml hown hnm hts hbs hZ
  have ht : ∀ w ∈ pw_T, w.before args s = true := fun w h => hts w (List.mem_cons_of_mem _ h)
  exact ⟨hx, hb, hown, hbs, pm_look_all kD_Mo_digest, kf_ok (init := false) ht hZ kF_Mo_ok (fun h => by cases h), km_ok ht kM_Mo_ok, kci_ok ht kI_Mo_ok, kli_ok ht kJ_Mo_ok, kar_ok ht hZ kA_Mo_ok,
    pm_look_all (List.forall_mem_cons.mpr ⟨pm_cokV hbs hZ ⟨hx, hb, hml, hown, hts⟩ (kW_Mo_pad l D base sa) (fun mc ms => cwV 2 hts (pw_gV (pw_in 2753 (w := .methodLink "RoutingFieldModel" 897 ⟨"RoutingFieldModel", "pad", "(IZ)I"⟩) (by decide +kernel) rfl) ki_Mo_pad ks_Mo_pad kn_Mo ko_Mo_pad) rfl rfl rfl (by decide +kernel) ⟨Nat.le_of_ble_eq_true rfl, Nat.le_of_ble_eq_true rfl⟩) (ci := 12) rfl, List.forall_mem_cons.mpr ⟨pm_cokV hbs hZ ⟨hx, hb, hml, hown, hts⟩ (kW_Mo_shaBlock l D base sa) (fun mc ms => cwV 1 hts (pw_gV (pw_in 2759 (w := .methodLink "RoutingFieldModel" 901 ⟨"RoutingFieldModel", "shaBlock", "(I)V"⟩) (by decide +kernel) rfl) ki_Mo_shaBlock ks_Mo_shaBlock kn_Mo ko_Mo_shaBlock) rfl rfl rfl (by decide +kernel) ⟨Nat.le_of_ble_eq_true rfl, Nat.le_of_ble_eq_true rfl⟩) (ci := 12) rfl, List.forall_mem_cons.mpr ⟨pm_cokV hbs hZ ⟨hx, hb, hml, hown, hts⟩ (kW_Mo_md5Block l D base sa) (fun mc ms => cwV 1 hts (pw_gV (pw_in 2770 (w := .methodLink "RoutingFieldModel" 904 ⟨"RoutingFieldModel", "md5Block", "(I)V"⟩) (by decide +kernel) rfl) ki_Mo_md5Block ks_Mo_md5Block kn_Mo ko_Mo_md5Block) rfl rfl rfl (by decide +kernel) ⟨Nat.le_of_ble_eq_true rfl, Nat.le_of_ble_eq_true rfl⟩) (ci := 12) rfl, fun _ h => absurd h List.not_mem_nil⟩⟩⟩),
    hZ, kst_ok ht hZ (kS_Mo_ok sa), knar_ok ht, ktx_ok (kE_Mo_ok sa)⟩
set_option maxRecDepth 100000 in
theorem ki_Mo_sumOf : Cond.instanceMethod ⟨"RoutingFieldModel", "sumOf", "(I[II)V"⟩ ∈ pw_T := (pw_in 2738 (by decide +kernel) rfl)
set_option maxRecDepth 100000 in
theorem ks_Mo_sumOf : Cond.selects "RoutingFieldModel" ⟨"RoutingFieldModel", "sumOf", "(I[II)V"⟩ ⟨"RoutingFieldModel", "sumOf", "(I[II)V"⟩ ∈ pw_T := (pw_sel 156 (q := (⟨"RoutingFieldModel", "sumOf", "(I[II)V"⟩, 166)) (by decide +kernel))
set_option maxRecDepth 100000 in
theorem ko_Mo_sumOf : Cond.code ⟨"RoutingFieldModel", "sumOf", "(I[II)V"⟩ prog_14_method_93_code 5 none ∈ pw_T := (pw_in 2739 rfl rfl)
set_option maxRecDepth 100000 in
theorem kD_Mo_sumOf_0 : ∀ q ∈ kC_Mo_sumOf_0, decode prog_14_method_93_code q.1 = .ok (q.2, pm_len q.1 q.2) := by decide +kernel
set_option maxRecDepth 100000 in
theorem kD_Mo_sumOf_1 : ∀ q ∈ kC_Mo_sumOf_1, decode prog_14_method_93_code q.1 = .ok (q.2, pm_len q.1 q.2) := by decide +kernel
set_option maxRecDepth 100000 in
theorem kD_Mo_sumOf_2 : ∀ q ∈ kC_Mo_sumOf_2, decode prog_14_method_93_code q.1 = .ok (q.2, pm_len q.1 q.2) := by decide +kernel
theorem kD_Mo_sumOf : ∀ q ∈ kC_Mo_sumOf, decode prog_14_method_93_code q.1 = .ok (q.2, pm_len q.1 q.2) := List.forall_mem_append.mpr ⟨kD_Mo_sumOf_0, List.forall_mem_append.mpr ⟨kD_Mo_sumOf_1, kD_Mo_sumOf_2⟩⟩
set_option maxRecDepth 100000 in
theorem kW_Mo_sumOf (l : Launch) (D : va_G) (base : Nat) (sa : Nat → Nat) : pm_Met l D kcl base (kZ sa) ⟨"RoutingFieldModel", "sumOf", "(I[II)V"⟩ (.code ⟨"RoutingFieldModel", "sumOf", "(I[II)V"⟩ prog_14_method_93_code 5 none :: pw_T) 3 79 (kP_Mo_sumOf base sa) := by
  refine pm_met (by decide) rfl rfl ?_
  intro mc ms p e s m args below meth c hx hb hml hown hnm hts hbs hZ
  have ht : ∀ w ∈ pw_T, w.before args s = true := fun w h => hts w (List.mem_cons_of_mem _ h)
  exact ⟨hx, hb, hown, hbs, pm_look_all kD_Mo_sumOf, kf_ok (init := false) ht hZ kF_Mo_ok (fun h => by cases h), km_ok ht kM_Mo_ok, kci_ok ht kI_Mo_ok, kli_ok ht kJ_Mo_ok, kar_ok ht hZ kA_Mo_ok,
    pm_look_all (List.forall_mem_cons.mpr ⟨pm_cokV hbs hZ ⟨hx, hb, hml, hown, hts⟩ (kW_Mo_secret l D base sa) (fun mc ms => cwV 2 hts (pw_gV (pw_in 2740 (w := .methodLink "RoutingFieldModel" 907 ⟨"RoutingFieldModel", "secret", "(II)I"⟩) (by decide +kernel) rfl) ki_Mo_secret ks_Mo_secret kn_Mo ko_Mo_secret) rfl rfl rfl (by decide +kernel) ⟨Nat.le_of_ble_eq_true rfl, Nat.le_of_ble_eq_true rfl⟩) (ci := 12) rfl, List.forall_mem_cons.mpr ⟨pm_cokV hbs hZ ⟨hx, hb, hml, hown, hts⟩ (kW_Mo_digest l D base sa) (fun mc ms => cwV 2 hts (pw_gV (pw_in 2744 (w := .methodLink "RoutingFieldModel" 910 ⟨"RoutingFieldModel", "digest", "(IZ)V"⟩) (by decide +kernel) rfl) ki_Mo_digest ks_Mo_digest kn_Mo ko_Mo_digest) rfl rfl rfl (by decide +kernel) ⟨Nat.le_of_ble_eq_true rfl, Nat.le_of_ble_eq_true rfl⟩) (ci := 12) rfl, fun _ h => absurd h List.not_mem_nil⟩⟩),
    hZ, kst_ok ht hZ (kS_Mo_ok sa), knar_ok ht, ktx_ok (kE_Mo_ok sa)⟩
set_option maxRecDepth 100000 in
theorem ki_Mo_wrap : Cond.instanceMethod ⟨"RoutingFieldModel", "wrap", "(IIII)Z"⟩ ∈ pw_T := (pw_in 2717 (by decide +kernel) rfl)
set_option maxRecDepth 100000 in
theorem ks_Mo_wrap : Cond.selects "RoutingFieldModel" ⟨"RoutingFieldModel", "wrap", "(IIII)Z"⟩ ⟨"RoutingFieldModel", "wrap", "(IIII)Z"⟩ ∈ pw_T := (pw_sel 151 (q := (⟨"RoutingFieldModel", "wrap", "(IIII)Z"⟩, 166)) (by decide +kernel))
set_option maxRecDepth 100000 in
theorem ko_Mo_wrap : Cond.code ⟨"RoutingFieldModel", "wrap", "(IIII)Z"⟩ prog_14_method_102_code 9 (some .boolean) ∈ pw_T := (pw_in 2718 rfl rfl)
set_option maxRecDepth 100000 in
theorem kD_Mo_wrap_0 : ∀ q ∈ kC_Mo_wrap_0, decode prog_14_method_102_code q.1 = .ok (q.2, pm_len q.1 q.2) := by decide +kernel
set_option maxRecDepth 100000 in
theorem kD_Mo_wrap_1 : ∀ q ∈ kC_Mo_wrap_1, decode prog_14_method_102_code q.1 = .ok (q.2, pm_len q.1 q.2) := by decide +kernel
set_option maxRecDepth 100000 in
theorem kD_Mo_wrap_2 : ∀ q ∈ kC_Mo_wrap_2, decode prog_14_method_102_code q.1 = .ok (q.2, pm_len q.1 q.2) := by decide +kernel
set_option maxRecDepth 100000 in
theorem kD_Mo_wrap_3 : ∀ q ∈ kC_Mo_wrap_3, decode prog_14_method_102_code q.1 = .ok (q.2, pm_len q.1 q.2) := by decide +kernel
set_option maxRecDepth 100000 in
theorem kD_Mo_wrap_4 : ∀ q ∈ kC_Mo_wrap_4, decode prog_14_method_102_code q.1 = .ok (q.2, pm_len q.1 q.2) := by decide +kernel
theorem kD_Mo_wrap : ∀ q ∈ kC_Mo_wrap, decode prog_14_method_102_code q.1 = .ok (q.2, pm_len q.1 q.2) := List.forall_mem_append.mpr ⟨kD_Mo_wrap_0, List.forall_mem_append.mpr ⟨kD_Mo_wrap_1, List.forall_mem_append.mpr ⟨kD_Mo_wrap_2, List.forall_mem_append.mpr ⟨kD_Mo_wrap_3, kD_Mo_wrap_4⟩⟩⟩⟩
set_option maxRecDepth 100000 in
theorem kW_Mo_wrap (l : Launch) (D : va_G) (base : Nat) (sa : Nat → Nat) : pm_Met l D kcl base (kZ sa) ⟨"RoutingFieldModel", "wrap", "(IIII)Z"⟩ (.code ⟨"RoutingFieldModel", "wrap", "(IIII)Z"⟩ prog_14_method_102_code 9 (some .boolean) :: pw_T) 4 103 (kP_Mo_wrap base sa) := by
  refine pm_met (by decide) rfl rfl ?_
  intro mc ms p e s m args below meth c hx hb hml hown hnm hts hbs hZ
  have ht : ∀ w ∈ pw_T, w.before args s = true := fun w h => hts w (List.mem_cons_of_mem _ h)
  exact ⟨hx, hb, hown, hbs, pm_look_all kD_Mo_wrap, kf_ok (init := false) ht hZ kF_Mo_ok (fun h => by cases h), km_ok ht kM_Mo_ok, kci_ok ht kI_Mo_ok, kli_ok ht kJ_Mo_ok, kar_ok ht hZ kA_Mo_ok,
    pm_look_all (List.forall_mem_cons.mpr ⟨pm_cokV hbs hZ ⟨hx, hb, hml, hown, hts⟩ (kW_Mo_bornKey l D base sa) (fun mc ms => cwV 1 hts (pw_gV (pw_in 2719 (w := .methodLink "RoutingFieldModel" 924 ⟨"RoutingFieldModel", "bornKey", "(I)I"⟩) (by decide +kernel) rfl) ki_Mo_bornKey ks_Mo_bornKey kn_Mo ko_Mo_bornKey) rfl rfl rfl (by decide +kernel) ⟨Nat.le_of_ble_eq_true rfl, Nat.le_of_ble_eq_true rfl⟩) (ci := 12) rfl, List.forall_mem_cons.mpr ⟨pm_cokV hbs hZ ⟨hx, hb, hml, hown, hts⟩ (kW_Mo_put2 l D base sa) (fun mc ms => cwV 3 hts (pw_gV (pw_in 2728 (w := .methodLink "RoutingFieldModel" 917 ⟨"RoutingFieldModel", "put2", "([III)V"⟩) (by decide +kernel) rfl) ki_Mo_put2 ks_Mo_put2 kn_Mo ko_Mo_put2) rfl rfl rfl (by decide +kernel) ⟨Nat.le_of_ble_eq_true rfl, Nat.le_of_ble_eq_true rfl⟩) (ci := 12) rfl, List.forall_mem_cons.mpr ⟨pm_cokV hbs hZ ⟨hx, hb, hml, hown, hts⟩ (kW_Mo_put4 l D base sa) (fun mc ms => cwV 3 hts (pw_gV (pw_in 2732 (w := .methodLink "RoutingFieldModel" 927 ⟨"RoutingFieldModel", "put4", "([III)V"⟩) (by decide +kernel) rfl) ki_Mo_put4 ks_Mo_put4 kn_Mo ko_Mo_put4) rfl rfl rfl (by decide +kernel) ⟨Nat.le_of_ble_eq_true rfl, Nat.le_of_ble_eq_true rfl⟩) (ci := 12) rfl, List.forall_mem_cons.mpr ⟨pm_cokV hbs hZ ⟨hx, hb, hml, hown, hts⟩ (kW_Mo_sumOf l D base sa) (fun mc ms => cwV 3 hts (pw_gV (pw_in 2736 (w := .methodLink "RoutingFieldModel" 930 ⟨"RoutingFieldModel", "sumOf", "(I[II)V"⟩) (by decide +kernel) rfl) ki_Mo_sumOf ks_Mo_sumOf kn_Mo ko_Mo_sumOf) rfl rfl rfl (by decide +kernel) ⟨Nat.le_of_ble_eq_true rfl, Nat.le_of_ble_eq_true rfl⟩) (ci := 12) rfl, fun _ h => absurd h List.not_mem_nil⟩⟩⟩⟩),
    hZ, kst_ok ht hZ (kS_Mo_ok sa), knar_ok ht, ktx_ok (kE_Mo_ok sa)⟩
