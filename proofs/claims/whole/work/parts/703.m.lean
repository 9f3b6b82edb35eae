set_option maxRecDepth 100000 in
theorem ki_Pr_parseFour : Cond.instanceMethod ⟨"RoutingField$Prefix", "parseFour", "(LRoutingField$Bytes;II)Z"⟩ ∈ pw_T := (pw_in 800 (by decide +kernel) rfl)
set_option maxRecDepth 100000 in
theorem ks_Pr_parseFour : Cond.selects "RoutingField$Prefix" ⟨"RoutingField$Prefix", "parseFour", "(LRoutingField$Bytes;II)Z"⟩ ⟨"RoutingField$Prefix", "parseFour", "(LRoutingField$Bytes;II)Z"⟩ ∈ pw_T := (pw_sel 19 (q := (⟨"RoutingField$Prefix", "parseFour", "(LRoutingField$Bytes;II)Z"⟩, 4)) (by decide +kernel))
set_option maxRecDepth 100000 in
theorem ko_Pr_parseFour : Cond.code ⟨"RoutingField$Prefix", "parseFour", "(LRoutingField$Bytes;II)Z"⟩ prog_7_method_19_code 10 (some .boolean) ∈ pw_T := (pw_in 801 rfl rfl)
set_option maxRecDepth 100000 in
theorem kD_Pr_parseFour_0 : ∀ q ∈ kC_Pr_parseFour_0, decode prog_7_method_19_code q.1 = .ok (q.2, pm_len q.1 q.2) := by decide +kernel
set_option maxRecDepth 100000 in
theorem kD_Pr_parseFour_1 : ∀ q ∈ kC_Pr_parseFour_1, decode prog_7_method_19_code q.1 = .ok (q.2, pm_len q.1 q.2) := by decide +kernel
theorem kD_Pr_parseFour : ∀ q ∈ kC_Pr_parseFour, decode prog_7_method_19_code q.1 = .ok (q.2, pm_len q.1 q.2) := List.forall_mem_append.mpr ⟨kD_Pr_parseFour_0, kD_Pr_parseFour_1⟩
set_option maxRecDepth 100000 in
theorem kW_Pr_parseFour (l : Launch) (D : va_G) (base : Nat) (sa : Nat → Nat) : pm_Met l D kcl base (kZ sa) ⟨"RoutingField$Prefix", "parseFour", "(LRoutingField$Bytes;II)Z"⟩ (.code ⟨"RoutingField$Prefix", "parseFour", "(LRoutingField$Bytes;II)Z"⟩ prog_7_method_19_code 10 (some .boolean) :: pw_T) 2 51 (kP_Pr_parseFour base sa) := by
  refine pm_met (by decide) rfl rfl ?_
  intro mc ms p e s m args below meth c hx hb hml hown hnm hts hbs hZ
  have ht : ∀ w ∈ pw_T, w.before args s = true := fun w h => hts w (List.mem_cons_of_mem _ h)
  exact ⟨hx, hb, hown, hbs, pm_look_all kD_Pr_parseFour, kf_ok (init := false) ht hZ kF_Pr_ok (fun h => by cases h), km_ok ht kM_Pr_ok, kci_ok ht kI_Pr_ok, kli_ok ht kJ_Pr_ok, kar_ok ht hZ kA_Pr_ok,
    pm_look_all (List.forall_mem_cons.mpr ⟨pm_cokV hbs hZ ⟨hx, hb, hml, hown, hts⟩ (kW_By_at l D base sa) (fun mc ms => cwV 1 hts (pw_gV (pw_in 775 (w := .methodLink "RoutingField$Prefix" 63 ⟨"RoutingField$Bytes", "at", "(I)I"⟩) (by decide +kernel) rfl) ki_By_at ks_By_at kn_By ko_By_at) rfl rfl rfl (by decide +kernel) ⟨Nat.le_of_ble_eq_true rfl, Nat.le_of_ble_eq_true rfl⟩) (ci := 0) rfl, List.forall_mem_cons.mpr ⟨pm_cokS hbs hZ ⟨hx, hb, hml, hown, hts⟩ (kW_Pr_plainNumber l D base sa) (fun mc ms => va_cwS 3 hts (pw_gS (pw_in 802 (w := .methodLink "RoutingField$Prefix" 59 ⟨"RoutingField$Prefix", "plainNumber", "(LRoutingField$Bytes;II)I"⟩) (by decide +kernel) rfl) kv_Pr_plainNumber kn_Pr ko_Pr_plainNumber) rfl rfl rfl (by decide +kernel) ⟨Nat.le_of_ble_eq_true rfl, Nat.le_of_ble_eq_true rfl⟩) (Nat.le_of_ble_eq_true rfl), List.forall_mem_cons.mpr ⟨pm_cokV hbs hZ ⟨hx, hb, hml, hown, hts⟩ (kW_Pr_setZero l D base sa) (fun mc ms => cwV 2 hts (pw_gV (pw_in 780 (w := .methodLink "RoutingField$Prefix" 73 ⟨"RoutingField$Prefix", "setZero", "(II)V"⟩) (by decide +kernel) rfl) ki_Pr_setZero ks_Pr_setZero kn_Pr ko_Pr_setZero) rfl rfl rfl (by decide +kernel) ⟨Nat.le_of_ble_eq_true rfl, Nat.le_of_ble_eq_true rfl⟩) (ci := 5) rfl, fun _ h => absurd h List.not_mem_nil⟩⟩⟩),
    hZ, kst_ok ht hZ (kS_Pr_ok sa), knar_ok ht, ktx_ok (kE_Pr_ok sa)⟩
set_option maxRecDepth 100000 in
theorem ki_Pr_parseAddress : Cond.instanceMethod ⟨"RoutingField$Prefix", "parseAddress", "(LRoutingField$Bytes;II)Z"⟩ ∈ pw_T := (pw_in 772 (by decide +kernel) rfl)
set_option maxRecDepth 100000 in
theorem ks_Pr_parseAddress : Cond.selects "RoutingField$Prefix" ⟨"RoutingField$Prefix", "parseAddress", "(LRoutingField$Bytes;II)Z"⟩ ⟨"RoutingField$Prefix", "parseAddress", "(LRoutingField$Bytes;II)Z"⟩ ∈ pw_T := (pw_in 773 (by decide +kernel) rfl)
set_option maxRecDepth 100000 in
theorem ko_Pr_parseAddress : Cond.code ⟨"RoutingField$Prefix", "parseAddress", "(LRoutingField$Bytes;II)Z"⟩ prog_7_method_18_code 5 (some .boolean) ∈ pw_T := (pw_in 774 rfl rfl)
set_option maxRecDepth 100000 in
theorem kD_Pr_parseAddress : ∀ q ∈ kC_Pr_parseAddress, decode prog_7_method_18_code q.1 = .ok (q.2, pm_len q.1 q.2) := by decide +kernel
set_option maxRecDepth 100000 in
theorem kW_Pr_parseAddress (l : Launch) (D : va_G) (base : Nat) (sa : Nat → Nat) : pm_Met l D kcl base (kZ sa) ⟨"RoutingField$Prefix", "parseAddress", "(LRoutingField$Bytes;II)Z"⟩ (.code ⟨"RoutingField$Prefix", "parseAddress", "(LRoutingField$Bytes;II)Z"⟩ prog_7_method_18_code 5 (some .boolean) :: pw_T) 3 80 (kP_Pr_parseAddress base sa) := by
  refine pm_met (by decide) rfl rfl ?_
  intro mc ms p e s m args below meth c hx hb hml hown hnm hts hbs hZ
  have ht : ∀ w ∈ pw_T, w.before args s = true := fun w h => hts w (List.mem_cons_of_mem _ h)
  exact ⟨hx, hb, hown, hbs, pm_look_all kD_Pr_parseAddress, kf_ok (init := false) ht hZ kF_Pr_ok (fun h => by cases h), km_ok ht kM_Pr_ok, kci_ok ht kI_Pr_ok, kli_ok ht kJ_Pr_ok, kar_ok ht hZ kA_Pr_ok,
    pm_look_all (List.forall_mem_cons.mpr ⟨pm_cokV hbs hZ ⟨hx, hb, hml, hown, hts⟩ (kW_By_at l D base sa) (fun mc ms => cwV 1 hts (pw_gV (pw_in 775 (w := .methodLink "RoutingField$Prefix" 63 ⟨"RoutingField$Bytes", "at", "(I)I"⟩) (by decide +kernel) rfl) ki_By_at ks_By_at kn_By ko_By_at) rfl rfl rfl (by decide +kernel) ⟨Nat.le_of_ble_eq_true rfl, Nat.le_of_ble_eq_true rfl⟩) (ci := 0) rfl, List.forall_mem_cons.mpr ⟨pm_cokV hbs hZ ⟨hx, hb, hml, hown, hts⟩ (kW_Pr_parseSix l D base sa) (fun mc ms => cwV 3 hts (pw_gV (pw_in 776 (w := .methodLink "RoutingField$Prefix" 66 ⟨"RoutingField$Prefix", "parseSix", "(LRoutingField$Bytes;II)Z"⟩) (by decide +kernel) rfl) ki_Pr_parseSix ks_Pr_parseSix kn_Pr ko_Pr_parseSix) rfl rfl rfl (by decide +kernel) ⟨Nat.le_of_ble_eq_true rfl, Nat.le_of_ble_eq_true rfl⟩) (ci := 5) rfl, List.forall_mem_cons.mpr ⟨pm_cokV hbs hZ ⟨hx, hb, hml, hown, hts⟩ (kW_Pr_parseFour l D base sa) (fun mc ms => cwV 3 hts (pw_gV (pw_in 798 (w := .methodLink "RoutingField$Prefix" 70 ⟨"RoutingField$Prefix", "parseFour", "(LRoutingField$Bytes;II)Z"⟩) (by decide +kernel) rfl) ki_Pr_parseFour ks_Pr_parseFour kn_Pr ko_Pr_parseFour) rfl rfl rfl (by decide +kernel) ⟨Nat.le_of_ble_eq_true rfl, Nat.le_of_ble_eq_true rfl⟩) (ci := 5) rfl, fun _ h => absurd h List.not_mem_nil⟩⟩⟩),
    hZ, kst_ok ht hZ (kS_Pr_ok sa), knar_ok ht, ktx_ok (kE_Pr_ok sa)⟩
set_option maxRecDepth 100000 in
theorem kv_Pr_bitsOf : Cond.static ⟨"RoutingField$Prefix", "bitsOf", "(I)I"⟩ ∈ pw_T := (pw_in 810 (by decide +kernel) rfl)
set_option maxRecDepth 100000 in
theorem ko_Pr_bitsOf : Cond.code ⟨"RoutingField$Prefix", "bitsOf", "(I)I"⟩ prog_7_method_2_code 1 (some .int) ∈ pw_T := (pw_in 811 rfl rfl)
set_option maxRecDepth 100000 in
theorem kD_Pr_bitsOf : ∀ q ∈ kC_Pr_bitsOf, decode prog_7_method_2_code q.1 = .ok (q.2, pm_len q.1 q.2) := by decide +kernel
set_option maxRecDepth 100000 in
theorem kW_Pr_bitsOf (l : Launch) (D : va_G) (base : Nat) (sa : Nat → Nat) : pm_Met l D kcl base (kZ sa) ⟨"RoutingField$Prefix", "bitsOf", "(I)I"⟩ (.code ⟨"RoutingField$Prefix", "bitsOf", "(I)I"⟩ prog_7_method_2_code 1 (some .int) :: pw_T) 0 0 (kP_Pr_bitsOf base sa) := by
  refine pm_met (by decide) rfl rfl ?_
  intro mc ms p e s m args below meth c hx hb hml hown hnm hts hbs hZ
  have ht : ∀ w ∈ pw_T, w.before args s = true := fun w h => hts w (List.mem_cons_of_mem _ h)
  exact ⟨hx, hb, hown, hbs, pm_look_all kD_Pr_bitsOf, kf_ok (init := false) ht hZ kF_Pr_ok (fun h => by cases h), km_ok ht kM_Pr_ok, kci_ok ht kI_Pr_ok, kli_ok ht kJ_Pr_ok, kar_ok ht hZ kA_Pr_ok,
    pm_look_all (fun _ h => absurd h List.not_mem_nil),
    hZ, kst_ok ht hZ (kS_Pr_ok sa), knar_ok ht, ktx_ok (kE_Pr_ok sa)⟩
set_option maxRecDepth 100000 in
theorem ki_Pr_parseLength : Cond.instanceMethod ⟨"RoutingField$Prefix", "parseLength", "(LRoutingField$Bytes;II)Z"⟩ ∈ pw_T := (pw_in 806 (by decide +kernel) rfl)
set_option maxRecDepth 100000 in
theorem ks_Pr_parseLength : Cond.selects "RoutingField$Prefix" ⟨"RoutingField$Prefix", "parseLength", "(LRoutingField$Bytes;II)Z"⟩ ⟨"RoutingField$Prefix", "parseLength", "(LRoutingField$Bytes;II)Z"⟩ ∈ pw_T := (pw_in 807 (by decide +kernel) rfl)
set_option maxRecDepth 100000 in
theorem ko_Pr_parseLength : Cond.code ⟨"RoutingField$Prefix", "parseLength", "(LRoutingField$Bytes;II)Z"⟩ prog_7_method_17_code 5 (some .boolean) ∈ pw_T := (pw_in 808 rfl rfl)
set_option maxRecDepth 100000 in
theorem kD_Pr_parseLength : ∀ q ∈ kC_Pr_parseLength, decode prog_7_method_17_code q.1 = .ok (q.2, pm_len q.1 q.2) := by decide +kernel
set_option maxRecDepth 100000 in
theorem kW_Pr_parseLength (l : Launch) (D : va_G) (base : Nat) (sa : Nat → Nat) : pm_Met l D kcl base (kZ sa) ⟨"RoutingField$Prefix", "parseLength", "(LRoutingField$Bytes;II)Z"⟩ (.code ⟨"RoutingField$Prefix", "parseLength", "(LRoutingField$Bytes;II)Z"⟩ prog_7_method_17_code 5 (some .boolean) :: pw_T) 2 51 (kP_Pr_parseLength base sa) := by
  refine pm_met (by decide) rfl rfl ?_
  intro mc ms p e s m args below meth c hx hb hml hown hnm hts hbs hZ
  have ht : ∀ w ∈ pw_T, w.before args s = true := fun w h => hts w (List.mem_cons_of_mem _ h)
  exact ⟨hx, hb, hown, hbs, pm_look_all kD_Pr_parseLength, kf_ok (init := false) ht hZ kF_Pr_ok (fun h => by cases h), km_ok ht kM_Pr_ok, kci_ok ht kI_Pr_ok, kli_ok ht kJ_Pr_ok, kar_ok ht hZ kA_Pr_ok,
    pm_look_all (List.forall_mem_cons.mpr ⟨pm_cokS hbs hZ ⟨hx, hb, hml, hown, hts⟩ (kW_Pr_plainNumber l D base sa) (fun mc ms => va_cwS 3 hts (pw_gS (pw_in 802 (w := .methodLink "RoutingField$Prefix" 59 ⟨"RoutingField$Prefix", "plainNumber", "(LRoutingField$Bytes;II)I"⟩) (by decide +kernel) rfl) kv_Pr_plainNumber kn_Pr ko_Pr_plainNumber) rfl rfl rfl (by decide +kernel) ⟨Nat.le_of_ble_eq_true rfl, Nat.le_of_ble_eq_true rfl⟩) (Nat.le_of_ble_eq_true rfl), List.forall_mem_cons.mpr ⟨pm_cokS hbs hZ ⟨hx, hb, hml, hown, hts⟩ (kW_Pr_bitsOf l D base sa) (fun mc ms => va_cwS 1 hts (pw_gS (pw_in 809 (w := .methodLink "RoutingField$Prefix" 41 ⟨"RoutingField$Prefix", "bitsOf", "(I)I"⟩) (by decide +kernel) rfl) kv_Pr_bitsOf kn_Pr ko_Pr_bitsOf) rfl rfl rfl (by decide +kernel) ⟨Nat.le_of_ble_eq_true rfl, Nat.le_of_ble_eq_true rfl⟩) (Nat.le_of_ble_eq_true rfl), fun _ h => absurd h List.not_mem_nil⟩⟩),
    hZ, kst_ok ht hZ (kS_Pr_ok sa), knar_ok ht, ktx_ok (kE_Pr_ok sa)⟩
set_option maxRecDepth 100000 in
theorem ki_Pr_hasBitsBehind : Cond.instanceMethod ⟨"RoutingField$Prefix", "hasBitsBehind", "()Z"⟩ ∈ pw_T := (pw_in 813 (by decide +kernel) rfl)
set_option maxRecDepth 100000 in
theorem ks_Pr_hasBitsBehind : Cond.selects "RoutingField$Prefix" ⟨"RoutingField$Prefix", "hasBitsBehind", "()Z"⟩ ⟨"RoutingField$Prefix", "hasBitsBehind", "()Z"⟩ ∈ pw_T := (pw_in 814 (by decide +kernel) rfl)
set_option maxRecDepth 100000 in
theorem ko_Pr_hasBitsBehind : Cond.code ⟨"RoutingField$Prefix", "hasBitsBehind", "()Z"⟩ prog_7_method_14_code 1 (some .boolean) ∈ pw_T := (pw_in 815 rfl rfl)
set_option maxRecDepth 100000 in
theorem kD_Pr_hasBitsBehind : ∀ q ∈ kC_Pr_hasBitsBehind, decode prog_7_method_14_code q.1 = .ok (q.2, pm_len q.1 q.2) := by decide +kernel
set_option maxRecDepth 100000 in
theorem kW_Pr_hasBitsBehind (l : Launch) (D : va_G) (base : Nat) (sa : Nat → Nat) : pm_Met l D kcl base (kZ sa) ⟨"RoutingField$Prefix", "hasBitsBehind", "()Z"⟩ (.code ⟨"RoutingField$Prefix", "hasBitsBehind", "()Z"⟩ prog_7_method_14_code 1 (some .boolean) :: pw_T) 1 24 (kP_Pr_hasBitsBehind base sa) := by
  refine pm_met (by decide) rfl rfl ?_
  intro mc ms p e s m args below meth c hx hb hml hown hnm hts hbs hZ
  have ht : ∀ w ∈ pw_T, w.before args s = true := fun w h => hts w (List.mem_cons_of_mem _ h)
  exact ⟨hx, hb, hown, hbs, pm_look_all kD_Pr_hasBitsBehind, kf_ok (init := false) ht hZ kF_Pr_ok (fun h => by cases h), km_ok ht kM_Pr_ok, kci_ok ht kI_Pr_ok, kli_ok ht kJ_Pr_ok, kar_ok ht hZ kA_Pr_ok,
    pm_look_all (List.forall_mem_cons.mpr ⟨pm_cokS hbs hZ ⟨hx, hb, hml, hown, hts⟩ (kW_Pr_maskHigh l D base sa) (fun mc ms => va_cwS 1 hts (pw_gS (pw_in 791 (w := .methodLink "RoutingField$Prefix" 34 ⟨"RoutingField$Prefix", "maskHigh", "(I)J"⟩) (by decide +kernel) rfl) kv_Pr_maskHigh kn_Pr ko_Pr_maskHigh) rfl rfl rfl (by decide +kernel) ⟨Nat.le_of_ble_eq_true rfl, Nat.le_of_ble_eq_true rfl⟩) (Nat.le_of_ble_eq_true rfl), List.forall_mem_cons.mpr ⟨pm_cokS hbs hZ ⟨hx, hb, hml, hown, hts⟩ (kW_Pr_maskLow l D base sa) (fun mc ms => va_cwS 1 hts (pw_gS (pw_in 795 (w := .methodLink "RoutingField$Prefix" 38 ⟨"RoutingField$Prefix", "maskLow", "(I)J"⟩) (by decide +kernel) rfl) kv_Pr_maskLow kn_Pr ko_Pr_maskLow) rfl rfl rfl (by decide +kernel) ⟨Nat.le_of_ble_eq_true rfl, Nat.le_of_ble_eq_true rfl⟩) (Nat.le_of_ble_eq_true rfl), fun _ h => absurd h List.not_mem_nil⟩⟩),
    hZ, kst_ok ht hZ (kS_Pr_ok sa), knar_ok ht, ktx_ok (kE_Pr_ok sa)⟩
set_option maxRecDepth 100000 in
theorem ki_Re_takePrefix : Cond.instanceMethod ⟨"RoutingField$Reader", "takePrefix", "(IZ)Z"⟩ ∈ pw_T := (pw_in 769 (by decide +kernel) rfl)
set_option maxRecDepth 100000 in
theorem ks_Re_takePrefix : Cond.selects "RoutingField$Reader" ⟨"RoutingField$Reader", "takePrefix", "(IZ)Z"⟩ ⟨"RoutingField$Reader", "takePrefix", "(IZ)Z"⟩ ∈ pw_T := (pw_sel 16 (q := (⟨"RoutingField$Reader", "takePrefix", "(IZ)Z"⟩, 12)) (by decide +kernel))
set_option maxRecDepth 100000 in
theorem ko_Re_takePrefix : Cond.code ⟨"RoutingField$Reader", "takePrefix", "(IZ)Z"⟩ prog_9_method_10_code 4 (some .boolean) ∈ pw_T := (pw_in 770 rfl rfl)
set_option maxRecDepth 100000 in
theorem kD_Re_takePrefix_0 : ∀ q ∈ kC_Re_takePrefix_0, decode prog_9_method_10_code q.1 = .ok (q.2, pm_len q.1 q.2) := by decide +kernel
set_option maxRecDepth 100000 in
theorem kD_Re_takePrefix_1 : ∀ q ∈ kC_Re_takePrefix_1, decode prog_9_method_10_code q.1 = .ok (q.2, pm_len q.1 q.2) := by decide +kernel
theorem kD_Re_takePrefix : ∀ q ∈ kC_Re_takePrefix, decode prog_9_method_10_code q.1 = .ok (q.2, pm_len q.1 q.2) := List.forall_mem_append.mpr ⟨kD_Re_takePrefix_0, kD_Re_takePrefix_1⟩
set_option maxRecDepth 100000 in
theorem kW_Re_takePrefix (l : Launch) (D : va_G) (base : Nat) (sa : Nat → Nat) : pm_Met l D kcl base (kZ sa) ⟨"RoutingField$Reader", "takePrefix", "(IZ)Z"⟩ (.code ⟨"RoutingField$Reader", "takePrefix", "(IZ)Z"⟩ prog_9_method_10_code 4 (some .boolean) :: pw_T) 4 104 (kP_Re_takePrefix base sa) := by
  refine pm_met (by decide) rfl rfl ?_
  intro mc ms p e s m args below meth c hx hb hml hown hnm hts hbs hZ
  have ht : ∀ w ∈ pw_T, w.before args s = true := fun w h => hts w (List.mem_cons_of_mem _ h)
  exact ⟨hx, hb, hown, hbs, pm_look_all kD_Re_takePrefix, kf_ok (init := false) ht hZ kF_Re_ok (fun h => by cases h), km_ok ht kM_Re_ok, kci_ok ht kI_Re_ok, kli_ok ht kJ_Re_ok, kar_ok ht hZ kA_Re_ok,
    pm_look_all (List.forall_mem_cons.mpr ⟨pm_cokV hbs hZ ⟨hx, hb, hml, hown, hts⟩ (kW_Re_isWord l D base sa) (fun mc ms => cwV 1 hts (pw_gV (pw_in 402 (w := .methodLink "RoutingField$Reader" 159 ⟨"RoutingField$Reader", "isWord", "(I)Z"⟩) (by decide +kernel) rfl) ki_Re_isWord ks_Re_isWord kn_Re ko_Re_isWord) rfl rfl rfl (by decide +kernel) ⟨Nat.le_of_ble_eq_true rfl, Nat.le_of_ble_eq_true rfl⟩) (ci := 7) rfl, List.forall_mem_cons.mpr ⟨pm_cokV hbs hZ ⟨hx, hb, hml, hown, hts⟩ (kW_By_at l D base sa) (fun mc ms => cwV 1 hts (pw_gV (pw_in 396 (w := .methodLink "RoutingField$Reader" 68 ⟨"RoutingField$Bytes", "at", "(I)I"⟩) (by decide +kernel) rfl) ki_By_at ks_By_at kn_By ko_By_at) rfl rfl rfl (by decide +kernel) ⟨Nat.le_of_ble_eq_true rfl, Nat.le_of_ble_eq_true rfl⟩) (ci := 0) rfl, List.forall_mem_cons.mpr ⟨pm_cokV hbs hZ ⟨hx, hb, hml, hown, hts⟩ (kW_Pr_parseAddress l D base sa) (fun mc ms => cwV 3 hts (pw_gV (pw_in 771 (w := .methodLink "RoutingField$Reader" 183 ⟨"RoutingField$Prefix", "parseAddress", "(LRoutingField$Bytes;II)Z"⟩) (by decide +kernel) rfl) ki_Pr_parseAddress ks_Pr_parseAddress kn_Pr ko_Pr_parseAddress) rfl rfl rfl (by decide +kernel) ⟨Nat.le_of_ble_eq_true rfl, Nat.le_of_ble_eq_true rfl⟩) (ci := 5) rfl, List.forall_mem_cons.mpr ⟨pm_cokV hbs hZ ⟨hx, hb, hml, hown, hts⟩ (kW_Pr_parseLength l D base sa) (fun mc ms => cwV 3 hts (pw_gV (pw_in 805 (w := .methodLink "RoutingField$Reader" 187 ⟨"RoutingField$Prefix", "parseLength", "(LRoutingField$Bytes;II)Z"⟩) (by decide +kernel) rfl) ki_Pr_parseLength ks_Pr_parseLength kn_Pr ko_Pr_parseLength) rfl rfl rfl (by decide +kernel) ⟨Nat.le_of_ble_eq_true rfl, Nat.le_of_ble_eq_true rfl⟩) (ci := 5) rfl, List.forall_mem_cons.mpr ⟨pm_cokV hbs hZ ⟨hx, hb, hml, hown, hts⟩ (kW_Pr_hasBitsBehind l D base sa) (fun mc ms => cwV 0 hts (pw_gV (pw_in 812 (w := .methodLink "RoutingField$Reader" 190 ⟨"RoutingField$Prefix", "hasBitsBehind", "()Z"⟩) (by decide +kernel) rfl) ki_Pr_hasBitsBehind ks_Pr_hasBitsBehind kn_Pr ko_Pr_hasBitsBehind) rfl rfl rfl (by decide +kernel) ⟨Nat.le_of_ble_eq_true rfl, Nat.le_of_ble_eq_true rfl⟩) (ci := 5) rfl, fun _ h => absurd h List.not_mem_nil⟩⟩⟩⟩⟩),
    hZ, kst_ok ht hZ (kS_Re_ok sa), knar_ok ht, ktx_ok (kE_Re_ok sa)⟩
set_option maxRecDepth 100000 in
theorem ki_Rr_portOn : Cond.instanceMethod ⟨"RoutingField$Router", "portOn", "(LRoutingField$Link;)LRoutingField$Port;"⟩ ∈ pw_T := (pw_in 817 (by decide +kernel) rfl)
set_option maxRecDepth 100000 in
theorem ks_Rr_portOn : Cond.selects "RoutingField$Router" ⟨"RoutingField$Router", "portOn", "(LRoutingField$Link;)LRoutingField$Port;"⟩ ⟨"RoutingField$Router", "portOn", "(LRoutingField$Link;)LRoutingField$Port;"⟩ ∈ pw_T := (pw_in 818 (by decide +kernel) rfl)
set_option maxRecDepth 100000 in
theorem ko_Rr_portOn : Cond.code ⟨"RoutingField$Router", "portOn", "(LRoutingField$Link;)LRoutingField$Port;"⟩ prog_11_method_2_code 3 (some (.object "RoutingField$Port")) ∈ pw_T := (pw_in 819 rfl rfl)
set_option maxRecDepth 100000 in
theorem kD_Rr_portOn : ∀ q ∈ kC_Rr_portOn, decode prog_11_method_2_code q.1 = .ok (q.2, pm_len q.1 q.2) := by decide +kernel
set_option maxRecDepth 100000 in
theorem kW_Rr_portOn (l : Launch) (D : va_G) (base : Nat) (sa : Nat → Nat) : pm_Met l D kcl base (kZ sa) ⟨"RoutingField$Router", "portOn", "(LRoutingField$Link;)LRoutingField$Port;"⟩ (.code ⟨"RoutingField$Router", "portOn", "(LRoutingField$Link;)LRoutingField$Port;"⟩ prog_11_method_2_code 3 (some (.object "RoutingField$Port")) :: pw_T) 0 0 (kP_Rr_portOn base sa) := by
  refine pm_met (by decide) rfl rfl ?_
  intro mc ms p e s m args below meth c hx hb hml hown hnm hts hbs hZ
  have ht : ∀ w ∈ pw_T, w.before args s = true := fun w h => hts w (List.mem_cons_of_mem _ h)
  exact ⟨hx, hb, hown, hbs, pm_look_all kD_Rr_portOn, kf_ok (init := false) ht hZ kF_Rr_ok (fun h => by cases h), km_ok ht kM_Rr_ok, kci_ok ht kI_Rr_ok, kli_ok ht kJ_Rr_ok, kar_ok ht hZ kA_Rr_ok,
    pm_look_all (fun _ h => absurd h List.not_mem_nil),
    hZ, kst_ok ht hZ (kS_Rr_ok sa), knar_ok ht, ktx_ok (kE_Rr_ok sa)⟩
set_option maxRecDepth 100000 in
theorem ki_Po_addressOf : Cond.instanceMethod ⟨"RoutingField$Port", "addressOf", "(I)LRoutingField$Prefix;"⟩ ∈ pw_T := (pw_in 821 (by decide +kernel) rfl)
set_option maxRecDepth 100000 in
theorem ks_Po_addressOf : Cond.selects "RoutingField$Port" ⟨"RoutingField$Port", "addressOf", "(I)LRoutingField$Prefix;"⟩ ⟨"RoutingField$Port", "addressOf", "(I)LRoutingField$Prefix;"⟩ ∈ pw_T := (pw_in 822 (by decide +kernel) rfl)
set_option maxRecDepth 100000 in
theorem ko_Po_addressOf : Cond.code ⟨"RoutingField$Port", "addressOf", "(I)LRoutingField$Prefix;"⟩ prog_6_method_2_code 2 (some (.object "RoutingField$Prefix")) ∈ pw_T := (pw_in 823 rfl rfl)
set_option maxRecDepth 100000 in
theorem kD_Po_addressOf : ∀ q ∈ kC_Po_addressOf, decode prog_6_method_2_code q.1 = .ok (q.2, pm_len q.1 q.2) := by decide +kernel
set_option maxRecDepth 100000 in
theorem kW_Po_addressOf (l : Launch) (D : va_G) (base : Nat) (sa : Nat → Nat) : pm_Met l D kcl base (kZ sa) ⟨"RoutingField$Port", "addressOf", "(I)LRoutingField$Prefix;"⟩ (.code ⟨"RoutingField$Port", "addressOf", "(I)LRoutingField$Prefix;"⟩ prog_6_method_2_code 2 (some (.object "RoutingField$Prefix")) :: pw_T) 0 0 (kP_Po_addressOf base sa) := by
  refine pm_met (by decide) rfl rfl ?_
  intro mc ms p e s m args below meth c hx hb hml hown hnm hts hbs hZ
  have ht : ∀ w ∈ pw_T, w.before args s = true := fun w h => hts w (List.mem_cons_of_mem _ h)
  exact ⟨hx, hb, hown, hbs, pm_look_all kD_Po_addressOf, kf_ok (init := false) ht hZ kF_Po_ok (fun h => by cases h), km_ok ht kM_Po_ok, kci_ok ht kI_Po_ok, kli_ok ht kJ_Po_ok, kar_ok ht hZ kA_Po_ok,
    pm_look_all (fun _ h => absurd h List.not_mem_nil),
    hZ, kst_ok ht hZ (kS_Po_ok sa), knar_ok ht, ktx_ok (kE_Po_ok sa)⟩
set_option maxRecDepth 100000 in
theorem ki_Ch_clear : Cond.instanceMethod ⟨"RoutingField$Chain", "clear", "()V"⟩ ∈ pw_T := (pw_in 829 (by decide +kernel) rfl)
set_option maxRecDepth 100000 in
theorem ks_Ch_clear : Cond.selects "RoutingField$Chain" ⟨"RoutingField$Chain", "clear", "()V"⟩ ⟨"RoutingField$Chain", "clear", "()V"⟩ ∈ pw_T := (pw_in 830 (by decide +kernel) rfl)
set_option maxRecDepth 100000 in
theorem ko_Ch_clear : Cond.code ⟨"RoutingField$Chain", "clear", "()V"⟩ prog_3_method_3_code 1 none ∈ pw_T := (pw_in 831 rfl rfl)
set_option maxRecDepth 100000 in
theorem kD_Ch_clear : ∀ q ∈ kC_Ch_clear, decode prog_3_method_3_code q.1 = .ok (q.2, pm_len q.1 q.2) := by decide +kernel
set_option maxRecDepth 100000 in
theorem kW_Ch_clear (l : Launch) (D : va_G) (base : Nat) (sa : Nat → Nat) : pm_Met l D kcl base (kZ sa) ⟨"RoutingField$Chain", "clear", "()V"⟩ (.code ⟨"RoutingField$Chain", "clear", "()V"⟩ prog_3_method_3_code 1 none :: pw_T) 0 0 (kP_Ch_clear base sa) := by
  refine pm_met (by decide) rfl rfl ?_
  intro mc ms p e s m args below meth c hx hb hml hown hnm hts hbs hZ
  have ht : ∀ w ∈ pw_T, w.before args s = true := fun w h => hts w (List.mem_cons_of_mem _ h)
  exact ⟨hx, hb, hown, hbs, pm_look_all kD_Ch_clear, kf_ok (init := false) ht hZ kF_Ch_ok (fun h => by cases h), km_ok ht kM_Ch_ok, kci_ok ht kI_Ch_ok, kli_ok ht kJ_Ch_ok, kar_ok ht hZ kA_Ch_ok,
    pm_look_all (fun _ h => absurd h List.not_mem_nil),
    hZ, kst_ok ht hZ (kS_Ch_ok sa), knar_ok ht, ktx_ok (kE_Ch_ok sa)⟩
set_option maxRecDepth 100000 in
theorem ki_Ch_copy : Cond.instanceMethod ⟨"RoutingField$Chain", "copy", "(LRoutingField$Chain;)V"⟩ ∈ pw_T := (pw_in 833 (by decide +kernel) rfl)
set_option maxRecDepth 100000 in
theorem ks_Ch_copy : Cond.selects "RoutingField$Chain" ⟨"RoutingField$Chain", "copy", "(LRoutingField$Chain;)V"⟩ ⟨"RoutingField$Chain", "copy", "(LRoutingField$Chain;)V"⟩ ∈ pw_T := (pw_in 834 (by decide +kernel) rfl)
set_option maxRecDepth 100000 in
theorem ko_Ch_copy : Cond.code ⟨"RoutingField$Chain", "copy", "(LRoutingField$Chain;)V"⟩ prog_3_method_4_code 3 none ∈ pw_T := (pw_in 835 rfl rfl)
set_option maxRecDepth 100000 in
theorem kD_Ch_copy_0 : ∀ q ∈ kC_Ch_copy_0, decode prog_3_method_4_code q.1 = .ok (q.2, pm_len q.1 q.2) := by decide +kernel
set_option maxRecDepth 100000 in
theorem kD_Ch_copy_1 : ∀ q ∈ kC_Ch_copy_1, decode prog_3_method_4_code q.1 = .ok (q.2, pm_len q.1 q.2) := by decide +kernel
theorem kD_Ch_copy : ∀ q ∈ kC_Ch_copy, decode prog_3_method_4_code q.1 = .ok (q.2, pm_len q.1 q.2) := List.forall_mem_append.mpr ⟨kD_Ch_copy_0, kD_Ch_copy_1⟩
set_option maxRecDepth 100000 in
theorem kW_Ch_copy (l : Launch) (D : va_G) (base : Nat) (sa : Nat → Nat) : pm_Met l D kcl base (kZ sa) ⟨"RoutingField$Chain", "copy", "(LRoutingField$Chain;)V"⟩ (.code ⟨"RoutingField$Chain", "copy", "(LRoutingField$Chain;)V"⟩ prog_3_method_4_code 3 none :: pw_T) 1 30 (kP_Ch_copy base sa) := by
  refine pm_met (by decide) rfl rfl ?_
  intro mc ms p e s m args below meth c hx hb hml hown hnm hts hbs hZ
  have ht : ∀ w ∈ pw_T, w.before args s = true := fun w h => hts w (List.mem_cons_of_mem _ h)
  exact ⟨hx, hb, hown, hbs, pm_look_all kD_Ch_copy, kf_ok (init := false) ht hZ kF_Ch_ok (fun h => by cases h), km_ok ht kM_Ch_ok, kci_ok ht kI_Ch_ok, kli_ok ht kJ_Ch_ok, kar_ok ht hZ kA_Ch_ok,
    pm_look_all (List.forall_mem_cons.mpr ⟨pm_cokA hbs hx hb hml hown (ht _ (pw_in 836 (w := .methodLink "RoutingField$Chain" 58 ⟨"java/lang/System", "arraycopy", "(Ljava/lang/Object;ILjava/lang/Object;II)V"⟩) (by decide +kernel) rfl)) (ht _ (pw_in 838 (by decide +kernel) rfl)) (ht _ (pw_in 837 (by decide +kernel) rfl)) (ht _ (pw_in 17 (by decide +kernel) rfl)) (Nat.le_of_ble_eq_true rfl) (Nat.le_of_ble_eq_true rfl), fun _ h => absurd h List.not_mem_nil⟩),
    hZ, kst_ok ht hZ (kS_Ch_ok sa), knar_ok ht, ktx_ok (kE_Ch_ok sa)⟩
set_option maxRecDepth 100000 in
theorem ki_Re_takeSecret : Cond.instanceMethod ⟨"RoutingField$Reader", "takeSecret", "(I)Z"⟩ ∈ pw_T := (pw_in 845 (by decide +kernel) rfl)
set_option maxRecDepth 100000 in
theorem ks_Re_takeSecret : Cond.selects "RoutingField$Reader" ⟨"RoutingField$Reader", "takeSecret", "(I)Z"⟩ ⟨"RoutingField$Reader", "takeSecret", "(I)Z"⟩ ∈ pw_T := (pw_sel 22 (q := (⟨"RoutingField$Reader", "takeSecret", "(I)Z"⟩, 12)) (by decide +kernel))
set_option maxRecDepth 100000 in
theorem ko_Re_takeSecret : Cond.code ⟨"RoutingField$Reader", "takeSecret", "(I)Z"⟩ prog_9_method_9_code 4 (some .boolean) ∈ pw_T := (pw_in 846 rfl rfl)
set_option maxRecDepth 100000 in
theorem kD_Re_takeSecret_0 : ∀ q ∈ kC_Re_takeSecret_0, decode prog_9_method_9_code q.1 = .ok (q.2, pm_len q.1 q.2) := by decide +kernel
set_option maxRecDepth 100000 in
theorem kD_Re_takeSecret_1 : ∀ q ∈ kC_Re_takeSecret_1, decode prog_9_method_9_code q.1 = .ok (q.2, pm_len q.1 q.2) := by decide +kernel
theorem kD_Re_takeSecret : ∀ q ∈ kC_Re_takeSecret, decode prog_9_method_9_code q.1 = .ok (q.2, pm_len q.1 q.2) := List.forall_mem_append.mpr ⟨kD_Re_takeSecret_0, kD_Re_takeSecret_1⟩
set_option maxRecDepth 100000 in
theorem kW_Re_takeSecret (l : Launch) (D : va_G) (base : Nat) (sa : Nat → Nat) : pm_Met l D kcl base (kZ sa) ⟨"RoutingField$Reader", "takeSecret", "(I)Z"⟩ (.code ⟨"RoutingField$Reader", "takeSecret", "(I)Z"⟩ prog_9_method_9_code 4 (some .boolean) :: pw_T) 1 21 (kP_Re_takeSecret base sa) := by
  refine pm_met (by decide) rfl rfl ?_
  intro mc ms p e s m args below meth c hx hb hml hown hnm hts hbs hZ
  have ht : ∀ w ∈ pw_T, w.before args s = true := fun w h => hts w (List.mem_cons_of_mem _ h)
  exact ⟨hx, hb, hown, hbs, pm_look_all kD_Re_takeSecret, kf_ok (init := false) ht hZ kF_Re_ok (fun h => by cases h), km_ok ht kM_Re_ok, kci_ok ht kI_Re_ok, kli_ok ht kJ_Re_ok, kar_ok ht hZ kA_Re_ok,
    pm_look_all (List.forall_mem_cons.mpr ⟨pm_cokV hbs hZ ⟨hx, hb, hml, hown, hts⟩ (kW_Re_isWord l D base sa) (fun mc ms => cwV 1 hts (pw_gV (pw_in 402 (w := .methodLink "RoutingField$Reader" 159 ⟨"RoutingField$Reader", "isWord", "(I)Z"⟩) (by decide +kernel) rfl) ki_Re_isWord ks_Re_isWord kn_Re ko_Re_isWord) rfl rfl rfl (by decide +kernel) ⟨Nat.le_of_ble_eq_true rfl, Nat.le_of_ble_eq_true rfl⟩) (ci := 7) rfl, List.forall_mem_cons.mpr ⟨pm_cokV hbs hZ ⟨hx, hb, hml, hown, hts⟩ (kW_By_at l D base sa) (fun mc ms => cwV 1 hts (pw_gV (pw_in 396 (w := .methodLink "RoutingField$Reader" 68 ⟨"RoutingField$Bytes", "at", "(I)I"⟩) (by decide +kernel) rfl) ki_By_at ks_By_at kn_By ko_By_at) rfl rfl rfl (by decide +kernel) ⟨Nat.le_of_ble_eq_true rfl, Nat.le_of_ble_eq_true rfl⟩) (ci := 0) rfl, fun _ h => absurd h List.not_mem_nil⟩⟩),
    hZ, kst_ok ht hZ (kS_Re_ok sa), knar_ok ht, ktx_ok (kE_Re_ok sa)⟩
set_option maxRecDepth 100000 in
theorem ki_Ch_setPassword : Cond.instanceMethod ⟨"RoutingField$Chain", "setPassword", "([B)V"⟩ ∈ pw_T := (pw_in 848 (by decide +kernel) rfl)
set_option maxRecDepth 100000 in
theorem ks_Ch_setPassword : Cond.selects "RoutingField$Chain" ⟨"RoutingField$Chain", "setPassword", "([B)V"⟩ ⟨"RoutingField$Chain", "setPassword", "([B)V"⟩ ∈ pw_T := (pw_in 849 (by decide +kernel) rfl)
set_option maxRecDepth 100000 in
theorem ko_Ch_setPassword : Cond.code ⟨"RoutingField$Chain", "setPassword", "([B)V"⟩ prog_3_method_5_code 2 none ∈ pw_T := (pw_in 850 rfl rfl)
set_option maxRecDepth 100000 in
theorem kD_Ch_setPassword : ∀ q ∈ kC_Ch_setPassword, decode prog_3_method_5_code q.1 = .ok (q.2, pm_len q.1 q.2) := by decide +kernel
set_option maxRecDepth 100000 in
theorem kW_Ch_setPassword (l : Launch) (D : va_G) (base : Nat) (sa : Nat → Nat) : pm_Met l D kcl base (kZ sa) ⟨"RoutingField$Chain", "setPassword", "([B)V"⟩ (.code ⟨"RoutingField$Chain", "setPassword", "([B)V"⟩ prog_3_method_5_code 2 none :: pw_T) 1 30 (kP_Ch_setPassword base sa) := by
  refine pm_met (by decide) rfl rfl ?_
  intro mc ms p e s m args below meth c hx hb hml hown hnm hts hbs hZ
  have ht : ∀ w ∈ pw_T, w.before args s = true := fun w h => hts w (List.mem_cons_of_mem _ h)
  exact ⟨hx, hb, hown, hbs, pm_look_all kD_Ch_setPassword, kf_ok (init := false) ht hZ kF_Ch_ok (fun h => by cases h), km_ok ht kM_Ch_ok, kci_ok ht kI_Ch_ok, kli_ok ht kJ_Ch_ok, kar_ok ht hZ kA_Ch_ok,
    pm_look_all (List.forall_mem_cons.mpr ⟨pm_cokV hbs hZ ⟨hx, hb, hml, hown, hts⟩ (kW_Ch_clear l D base sa) (fun mc ms => cwV 0 hts (pw_gV (pw_in 851 (w := .methodLink "RoutingField$Chain" 64 ⟨"RoutingField$Chain", "clear", "()V"⟩) (by decide +kernel) rfl) ki_Ch_clear ks_Ch_clear kn_Ch ko_Ch_clear) rfl rfl rfl (by decide +kernel) ⟨Nat.le_of_ble_eq_true rfl, Nat.le_of_ble_eq_true rfl⟩) (ci := 1) rfl, List.forall_mem_cons.mpr ⟨pm_cokA hbs hx hb hml hown (ht _ (pw_in 836 (w := .methodLink "RoutingField$Chain" 58 ⟨"java/lang/System", "arraycopy", "(Ljava/lang/Object;ILjava/lang/Object;II)V"⟩) (by decide +kernel) rfl)) (ht _ (pw_in 838 (by decide +kernel) rfl)) (ht _ (pw_in 837 (by decide +kernel) rfl)) (ht _ (pw_in 17 (by decide +kernel) rfl)) (Nat.le_of_ble_eq_true rfl) (Nat.le_of_ble_eq_true rfl), fun _ h => absurd h List.not_mem_nil⟩⟩),
    hZ, kst_ok ht hZ (kS_Ch_ok sa), knar_ok ht, ktx_ok (kE_Ch_ok sa)⟩
set_option maxRecDepth 100000 in
theorem ki_Ch_setKey : Cond.instanceMethod ⟨"RoutingField$Chain", "setKey", "(II[BII)Z"⟩ ∈ pw_T := (pw_in 854 (by decide +kernel) rfl)
set_option maxRecDepth 100000 in
theorem ks_Ch_setKey : Cond.selects "RoutingField$Chain" ⟨"RoutingField$Chain", "setKey", "(II[BII)Z"⟩ ⟨"RoutingField$Chain", "setKey", "(II[BII)Z"⟩ ∈ pw_T := (pw_in 855 (by decide +kernel) rfl)
set_option maxRecDepth 100000 in
theorem ko_Ch_setKey : Cond.code ⟨"RoutingField$Chain", "setKey", "(II[BII)Z"⟩ prog_3_method_6_code 7 (some .boolean) ∈ pw_T := (pw_in 856 rfl rfl)
set_option maxRecDepth 100000 in
theorem kD_Ch_setKey_0 : ∀ q ∈ kC_Ch_setKey_0, decode prog_3_method_6_code q.1 = .ok (q.2, pm_len q.1 q.2) := by decide +kernel
set_option maxRecDepth 100000 in
theorem kD_Ch_setKey_1 : ∀ q ∈ kC_Ch_setKey_1, decode prog_3_method_6_code q.1 = .ok (q.2, pm_len q.1 q.2) := by decide +kernel
theorem kD_Ch_setKey : ∀ q ∈ kC_Ch_setKey, decode prog_3_method_6_code q.1 = .ok (q.2, pm_len q.1 q.2) := List.forall_mem_append.mpr ⟨kD_Ch_setKey_0, kD_Ch_setKey_1⟩
set_option maxRecDepth 100000 in
theorem kW_Ch_setKey (l : Launch) (D : va_G) (base : Nat) (sa : Nat → Nat) : pm_Met l D kcl base (kZ sa) ⟨"RoutingField$Chain", "setKey", "(II[BII)Z"⟩ (.code ⟨"RoutingField$Chain", "setKey", "(II[BII)Z"⟩ prog_3_method_6_code 7 (some .boolean) :: pw_T) 1 30 (kP_Ch_setKey base sa) := by
  refine pm_met (by decide) rfl rfl ?_
  intro mc ms p e s m args below meth c hx hb hml hown hnm hts hbs hZ
  have ht : ∀ w ∈ pw_T, w.before args s = true := fun w h => hts w (List.mem_cons_of_mem _ h)
  exact ⟨hx, hb, hown, hbs, pm_look_all kD_Ch_setKey, kf_ok (init := false) ht hZ kF_Ch_ok (fun h => by cases h), km_ok ht kM_Ch_ok, kci_ok ht kI_Ch_ok, kli_ok ht kJ_Ch_ok, kar_ok ht hZ kA_Ch_ok,
    pm_look_all (List.forall_mem_cons.mpr ⟨pm_cokMx hx hb hml hown (ht _ (pw_in 857 (w := .methodLink "RoutingField$Chain" 67 ⟨"java/lang/Math", "max", "(II)I"⟩) (by decide +kernel) rfl)) (ht _ (pw_in 484 (by decide +kernel) rfl)) (ht _ (pw_in 14 (by decide +kernel) rfl)) (ht _ (pw_in 485 rfl rfl)) (Nat.le_of_ble_eq_true rfl) (Nat.le_of_ble_eq_true rfl), List.forall_mem_cons.mpr ⟨pm_cokA hbs hx hb hml hown (ht _ (pw_in 836 (w := .methodLink "RoutingField$Chain" 58 ⟨"java/lang/System", "arraycopy", "(Ljava/lang/Object;ILjava/lang/Object;II)V"⟩) (by decide +kernel) rfl)) (ht _ (pw_in 838 (by decide +kernel) rfl)) (ht _ (pw_in 837 (by decide +kernel) rfl)) (ht _ (pw_in 17 (by decide +kernel) rfl)) (Nat.le_of_ble_eq_true rfl) (Nat.le_of_ble_eq_true rfl), fun _ h => absurd h List.not_mem_nil⟩⟩),
    hZ, kst_ok ht hZ (kS_Ch_ok sa), knar_ok ht, ktx_ok (kE_Ch_ok sa)⟩
set_option maxRecDepth 100000 in
theorem ki_Re_takeKeyOption : Cond.instanceMethod ⟨"RoutingField$Reader", "takeKeyOption", "(II)I"⟩ ∈ pw_T := (pw_in 841 (by decide +kernel) rfl)
set_option maxRecDepth 100000 in
theorem ks_Re_takeKeyOption : Cond.selects "RoutingField$Reader" ⟨"RoutingField$Reader", "takeKeyOption", "(II)I"⟩ ⟨"RoutingField$Reader", "takeKeyOption", "(II)I"⟩ ∈ pw_T := (pw_sel 21 (q := (⟨"RoutingField$Reader", "takeKeyOption", "(II)I"⟩, 12)) (by decide +kernel))
set_option maxRecDepth 100000 in
theorem ko_Re_takeKeyOption : Cond.code ⟨"RoutingField$Reader", "takeKeyOption", "(II)I"⟩ prog_9_method_26_code 5 (some .int) ∈ pw_T := (pw_in 842 rfl rfl)
set_option maxRecDepth 100000 in
theorem kD_Re_takeKeyOption : ∀ q ∈ kC_Re_takeKeyOption, decode prog_9_method_26_code q.1 = .ok (q.2, pm_len q.1 q.2) := by decide +kernel
set_option maxRecDepth 100000 in
theorem kW_Re_takeKeyOption (l : Launch) (D : va_G) (base : Nat) (sa : Nat → Nat) : pm_Met l D kcl base (kZ sa) ⟨"RoutingField$Reader", "takeKeyOption", "(II)I"⟩ (.code ⟨"RoutingField$Reader", "takeKeyOption", "(II)I"⟩ prog_9_method_26_code 5 (some .int) :: pw_T) 2 56 (kP_Re_takeKeyOption base sa) := by
  refine pm_met (by decide) rfl rfl ?_
  intro mc ms p e s m args below meth c hx hb hml hown hnm hts hbs hZ
  have ht : ∀ w ∈ pw_T, w.before args s = true := fun w h => hts w (List.mem_cons_of_mem _ h)
  exact ⟨hx, hb, hown, hbs, pm_look_all kD_Re_takeKeyOption, kf_ok (init := false) ht hZ kF_Re_ok (fun h => by cases h), km_ok ht kM_Re_ok, kci_ok ht kI_Re_ok, kli_ok ht kJ_Re_ok, kar_ok ht hZ kA_Re_ok,
    pm_look_all (List.forall_mem_cons.mpr ⟨pm_cokV hbs hZ ⟨hx, hb, hml, hown, hts⟩ (kW_Re_takeSecret l D base sa) (fun mc ms => cwV 1 hts (pw_gV (pw_in 843 (w := .methodLink "RoutingField$Reader" 347 ⟨"RoutingField$Reader", "takeSecret", "(I)Z"⟩) (by decide +kernel) rfl) ki_Re_takeSecret ks_Re_takeSecret kn_Re ko_Re_takeSecret) rfl rfl rfl (by decide +kernel) ⟨Nat.le_of_ble_eq_true rfl, Nat.le_of_ble_eq_true rfl⟩) (ci := 7) rfl, List.forall_mem_cons.mpr ⟨pm_cokV hbs hZ ⟨hx, hb, hml, hown, hts⟩ (kW_Ch_setPassword l D base sa) (fun mc ms => cwV 1 hts (pw_gV (pw_in 847 (w := .methodLink "RoutingField$Reader" 350 ⟨"RoutingField$Chain", "setPassword", "([B)V"⟩) (by decide +kernel) rfl) ki_Ch_setPassword ks_Ch_setPassword kn_Ch ko_Ch_setPassword) rfl rfl rfl (by decide +kernel) ⟨Nat.le_of_ble_eq_true rfl, Nat.le_of_ble_eq_true rfl⟩) (ci := 1) rfl, List.forall_mem_cons.mpr ⟨pm_cokV hbs hZ ⟨hx, hb, hml, hown, hts⟩ (kW_Re_number l D base sa) (fun mc ms => cwV 3 hts (pw_gV (pw_in 472 (w := .methodLink "RoutingField$Reader" 255 ⟨"RoutingField$Reader", "number", "(III)I"⟩) (by decide +kernel) rfl) ki_Re_number ks_Re_number kn_Re ko_Re_number) rfl rfl rfl (by decide +kernel) ⟨Nat.le_of_ble_eq_true rfl, Nat.le_of_ble_eq_true rfl⟩) (ci := 7) rfl, List.forall_mem_cons.mpr ⟨pm_cokV hbs hZ ⟨hx, hb, hml, hown, hts⟩ (kW_Ch_setKey l D base sa) (fun mc ms => cwV 5 hts (pw_gV (pw_in 853 (w := .methodLink "RoutingField$Reader" 355 ⟨"RoutingField$Chain", "setKey", "(II[BII)Z"⟩) (by decide +kernel) rfl) ki_Ch_setKey ks_Ch_setKey kn_Ch ko_Ch_setKey) rfl rfl rfl (by decide +kernel) ⟨Nat.le_of_ble_eq_true rfl, Nat.le_of_ble_eq_true rfl⟩) (ci := 1) rfl, fun _ h => absurd h List.not_mem_nil⟩⟩⟩⟩),
    hZ, kst_ok ht hZ (kS_Re_ok sa), knar_ok ht, ktx_ok (kE_Re_ok sa)⟩
set_option maxRecDepth 100000 in
theorem ki_Re_takeJoinOptions : Cond.instanceMethod ⟨"RoutingField$Reader", "takeJoinOptions", "(LRoutingField$Port;)I"⟩ ∈ pw_T := (pw_in 826 (by decide +kernel) rfl)
set_option maxRecDepth 100000 in
theorem ks_Re_takeJoinOptions : Cond.selects "RoutingField$Reader" ⟨"RoutingField$Reader", "takeJoinOptions", "(LRoutingField$Port;)I"⟩ ⟨"RoutingField$Reader", "takeJoinOptions", "(LRoutingField$Port;)I"⟩ ∈ pw_T := (pw_sel 20 (q := (⟨"RoutingField$Reader", "takeJoinOptions", "(LRoutingField$Port;)I"⟩, 12)) (by decide +kernel))
set_option maxRecDepth 100000 in
theorem ko_Re_takeJoinOptions : Cond.code ⟨"RoutingField$Reader", "takeJoinOptions", "(LRoutingField$Port;)I"⟩ prog_9_method_25_code 6 (some .int) ∈ pw_T := (pw_in 827 rfl rfl)
set_option maxRecDepth 100000 in
theorem kD_Re_takeJoinOptions_0 : ∀ q ∈ kC_Re_takeJoinOptions_0, decode prog_9_method_25_code q.1 = .ok (q.2, pm_len q.1 q.2) := by decide +kernel
set_option maxRecDepth 100000 in
theorem kD_Re_takeJoinOptions_1 : ∀ q ∈ kC_Re_takeJoinOptions_1, decode prog_9_method_25_code q.1 = .ok (q.2, pm_len q.1 q.2) := by decide +kernel
theorem kD_Re_takeJoinOptions : ∀ q ∈ kC_Re_takeJoinOptions, decode prog_9_method_25_code q.1 = .ok (q.2, pm_len q.1 q.2) := List.forall_mem_append.mpr ⟨kD_Re_takeJoinOptions_0, kD_Re_takeJoinOptions_1⟩
set_option maxRecDepth 100000 in
theorem kW_Re_takeJoinOptions (l : Launch) (D : va_G) (base : Nat) (sa : Nat → Nat) : pm_Met l D kcl base (kZ sa) ⟨"RoutingField$Reader", "takeJoinOptions", "(LRoutingField$Port;)I"⟩ (.code ⟨"RoutingField$Reader", "takeJoinOptions", "(LRoutingField$Port;)I"⟩ prog_9_method_25_code 6 (some .int) :: pw_T) 7 166 (kP_Re_takeJoinOptions base sa) := by
  refine pm_met (by decide) rfl rfl ?_
  intro mc ms p e s m args below meth c hx hb hml hown hnm hts hbs hZ
  have ht : ∀ w ∈ pw_T, w.before args s = true := fun w h => hts w (List.mem_cons_of_mem _ h)
  exact ⟨hx, hb, hown, hbs, pm_look_all kD_Re_takeJoinOptions, kf_ok (init := false) ht hZ kF_Re_ok (fun h => by cases h), km_ok ht kM_Re_ok, kci_ok ht kI_Re_ok, kli_ok ht kJ_Re_ok, kar_ok ht hZ kA_Re_ok,
    pm_look_all (List.forall_mem_cons.mpr ⟨pm_cokV hbs hZ ⟨hx, hb, hml, hown, hts⟩ (kW_Ch_clear l D base sa) (fun mc ms => cwV 0 hts (pw_gV (pw_in 828 (w := .methodLink "RoutingField$Reader" 336 ⟨"RoutingField$Chain", "clear", "()V"⟩) (by decide +kernel) rfl) ki_Ch_clear ks_Ch_clear kn_Ch ko_Ch_clear) rfl rfl rfl (by decide +kernel) ⟨Nat.le_of_ble_eq_true rfl, Nat.le_of_ble_eq_true rfl⟩) (ci := 1) rfl, List.forall_mem_cons.mpr ⟨pm_cokV hbs hZ ⟨hx, hb, hml, hown, hts⟩ (kW_Ch_copy l D base sa) (fun mc ms => cwV 1 hts (pw_gV (pw_in 832 (w := .methodLink "RoutingField$Reader" 340 ⟨"RoutingField$Chain", "copy", "(LRoutingField$Chain;)V"⟩) (by decide +kernel) rfl) ki_Ch_copy ks_Ch_copy kn_Ch ko_Ch_copy) rfl rfl rfl (by decide +kernel) ⟨Nat.le_of_ble_eq_true rfl, Nat.le_of_ble_eq_true rfl⟩) (ci := 1) rfl, List.forall_mem_cons.mpr ⟨pm_cokV hbs hZ ⟨hx, hb, hml, hown, hts⟩ (kW_Re_joinOption l D base sa) (fun mc ms => cwV 1 hts (pw_gV (pw_in 743 (w := .methodLink "RoutingField$Reader" 327 ⟨"RoutingField$Reader", "joinOption", "(I)I"⟩) (by decide +kernel) rfl) ki_Re_joinOption ks_Re_joinOption kn_Re ko_Re_joinOption) rfl rfl rfl (by decide +kernel) ⟨Nat.le_of_ble_eq_true rfl, Nat.le_of_ble_eq_true rfl⟩) (ci := 7) rfl, List.forall_mem_cons.mpr ⟨pm_cokV hbs hZ ⟨hx, hb, hml, hown, hts⟩ (kW_Re_number l D base sa) (fun mc ms => cwV 3 hts (pw_gV (pw_in 472 (w := .methodLink "RoutingField$Reader" 255 ⟨"RoutingField$Reader", "number", "(III)I"⟩) (by decide +kernel) rfl) ki_Re_number ks_Re_number kn_Re ko_Re_number) rfl rfl rfl (by decide +kernel) ⟨Nat.le_of_ble_eq_true rfl, Nat.le_of_ble_eq_true rfl⟩) (ci := 7) rfl, List.forall_mem_cons.mpr ⟨pm_cokV hbs hZ ⟨hx, hb, hml, hown, hts⟩ (kW_Re_splitAt l D base sa) (fun mc ms => cwV 1 hts (pw_gV (pw_in 753 (w := .methodLink "RoutingField$Reader" 330 ⟨"RoutingField$Reader", "splitAt", "(I)I"⟩) (by decide +kernel) rfl) ki_Re_splitAt ks_Re_splitAt kn_Re ko_Re_splitAt) rfl rfl rfl (by decide +kernel) ⟨Nat.le_of_ble_eq_true rfl, Nat.le_of_ble_eq_true rfl⟩) (ci := 7) rfl, List.forall_mem_cons.mpr ⟨pm_cokV hbs hZ ⟨hx, hb, hml, hown, hts⟩ (kW_Re_takeKeyOption l D base sa) (fun mc ms => cwV 2 hts (pw_gV (pw_in 839 (w := .methodLink "RoutingField$Reader" 344 ⟨"RoutingField$Reader", "takeKeyOption", "(II)I"⟩) (by decide +kernel) rfl) ki_Re_takeKeyOption ks_Re_takeKeyOption kn_Re ko_Re_takeKeyOption) rfl rfl rfl (by decide +kernel) ⟨Nat.le_of_ble_eq_true rfl, Nat.le_of_ble_eq_true rfl⟩) (ci := 7) rfl, List.forall_mem_cons.mpr ⟨pm_cokS hbs hZ ⟨hx, hb, hml, hown, hts⟩ (kW_Re_optionSize l D base sa) (fun mc ms => va_cwS 1 hts (pw_gS (pw_in 760 (w := .methodLink "RoutingField$Reader" 333 ⟨"RoutingField$Reader", "optionSize", "(I)I"⟩) (by decide +kernel) rfl) kv_Re_optionSize kn_Re ko_Re_optionSize) rfl rfl rfl (by decide +kernel) ⟨Nat.le_of_ble_eq_true rfl, Nat.le_of_ble_eq_true rfl⟩) (Nat.le_of_ble_eq_true rfl), fun _ h => absurd h List.not_mem_nil⟩⟩⟩⟩⟩⟩⟩),
    hZ, kst_ok ht hZ (kS_Re_ok sa), knar_ok ht, ktx_ok (kE_Re_ok sa)⟩
set_option maxRecDepth 100000 in
theorem ki_Po_init : Cond.instanceMethod ⟨"RoutingField$Port", "<init>", "(LRoutingField$Link;)V"⟩ ∈ pw_T := (pw_in 864 (by decide +kernel) rfl)
set_option maxRecDepth 100000 in
theorem ko_Po_init : Cond.code ⟨"RoutingField$Port", "<init>", "(LRoutingField$Link;)V"⟩ prog_6_method_1_code 2 none ∈ pw_T := (pw_in 865 rfl rfl)
set_option maxRecDepth 100000 in
theorem kD_Po_init_0 : ∀ q ∈ kC_Po_init_0, decode prog_6_method_1_code q.1 = .ok (q.2, pm_len q.1 q.2) := by decide +kernel
set_option maxRecDepth 100000 in
theorem kD_Po_init_1 : ∀ q ∈ kC_Po_init_1, decode prog_6_method_1_code q.1 = .ok (q.2, pm_len q.1 q.2) := by decide +kernel
theorem kD_Po_init : ∀ q ∈ kC_Po_init, decode prog_6_method_1_code q.1 = .ok (q.2, pm_len q.1 q.2) := List.forall_mem_append.mpr ⟨kD_Po_init_0, kD_Po_init_1⟩
set_option maxRecDepth 100000 in
theorem kW_Po_init (l : Launch) (D : va_G) (base : Nat) (sa : Nat → Nat) : pm_Met l D kcl base (kZ sa) ⟨"RoutingField$Port", "<init>", "(LRoutingField$Link;)V"⟩ (.code ⟨"RoutingField$Port", "<init>", "(LRoutingField$Link;)V"⟩ prog_6_method_1_code 2 none :: pw_T) 2 40 (kP_Po_init base sa) := by
  refine pm_met (by decide) rfl rfl ?_
  intro mc ms p e s m args below meth c hx hb hml hown hnm hts hbs hZ
  have ht : ∀ w ∈ pw_T, w.before args s = true := fun w h => hts w (List.mem_cons_of_mem _ h)
  exact ⟨hx, hb, hown, hbs, pm_look_all kD_Po_init, kf_ok (init := true) ht hZ kF_Po_ok (fun _ => hnm), km_ok ht kM_Po_ok, kci_ok ht kI_Po_ok, kli_ok ht kJ_Po_ok, kar_ok ht hZ kA_Po_ok,
    pm_look_all (List.forall_mem_cons.mpr ⟨pm_cokO hx hb hml hown (ht _ (pw_in 866 (by decide +kernel) rfl)) (ht _ (pw_in 31 (by decide +kernel) rfl)) (ht _ (pw_in 32 rfl rfl)) (Nat.le_of_ble_eq_true rfl) (Nat.le_of_ble_eq_true rfl), List.forall_mem_cons.mpr ⟨pm_cokI hbs hZ ⟨hx, hb, hml, hown, hts⟩ (kW_Ch_init l D base sa) (fun mc ms => cwI 0 hts (pw_gC ko_Ch_init) rfl rfl rfl (ht _ kn_Ch) (ht _ (pw_in 868 (w := .methodLink "RoutingField$Port" 31 ⟨"RoutingField$Chain", "<init>", "()V"⟩) (by decide +kernel) rfl)) (ht _ ki_Ch_init) rfl (by decide +kernel) ⟨Nat.le_of_ble_eq_true rfl, Nat.le_of_ble_eq_true rfl⟩), fun _ h => absurd h List.not_mem_nil⟩⟩),
    hZ, kst_ok ht hZ (kS_Po_ok sa), knar_ok ht, ktx_ok (kE_Po_ok sa)⟩
