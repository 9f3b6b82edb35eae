set_option maxRecDepth 100000 in
theorem kD_Rf_oracle_0 : ∀ q ∈ kC_Rf_oracle_0, decode prog_1_method_13_code q.1 = .ok (q.2, pm_len q.1 q.2) := by decide +kernel
set_option maxRecDepth 100000 in
theorem kD_Rf_oracle_1 : ∀ q ∈ kC_Rf_oracle_1, decode prog_1_method_13_code q.1 = .ok (q.2, pm_len q.1 q.2) := by decide +kernel
theorem kD_Rf_oracle : ∀ q ∈ kC_Rf_oracle, decode prog_1_method_13_code q.1 = .ok (q.2, pm_len q.1 q.2) := List.forall_mem_append.mpr ⟨kD_Rf_oracle_0, kD_Rf_oracle_1⟩
set_option maxRecDepth 100000 in
theorem kW_Rf_oracle (l : Launch) (D : va_G) (base : Nat) (sa : Nat → Nat) : pm_Met l D kcl base (kZ sa) ⟨"RoutingField", "oracle", "(I)I"⟩ (.code ⟨"RoutingField", "oracle", "(I)I"⟩ prog_1_method_13_code 5 (some .int) :: pw_T) 5 116 (kP_Rf_oracle base sa) := by
  refine pm_met (by decide) rfl rfl ?_
  intro mc ms p e s m args below meth c hx hb hml hown hnm hts hbs hZ
  have ht : ∀ w ∈ pw_T, w.before args s = true := fun w h => hts w (List.mem_cons_of_mem _ h)
  exact ⟨hx, hb, hown, hbs, pm_look_all kD_Rf_oracle, kf_ok (init := false) ht hZ kF_Rf_ok (fun h => by cases h), km_ok ht kM_Rf_ok, kci_ok ht kI_Rf_ok, kli_ok ht kJ_Rf_ok, kar_ok ht hZ kA_Rf_ok,
    pm_look_all (List.forall_mem_cons.mpr ⟨pm_cokV hbs hZ ⟨hx, hb, hml, hown, hts⟩ (kW_Rf_routerAt l D base sa) (fun mc ms => cwV 1 hts (pw_gV (pw_in 1648 (w := .methodLink "RoutingField" 152 ⟨"RoutingField", "routerAt", "(I)LRoutingField$Router;"⟩) (by decide +kernel) rfl) (pw_in 1650 (by decide +kernel) rfl) (pw_sel 87 (q := (⟨"RoutingField", "routerAt", "(I)LRoutingField$Router;"⟩, 20)) (by decide +kernel)) (pw_in 1 (by decide +kernel) rfl) (pw_in 1651 rfl rfl)) rfl rfl rfl (by decide +kernel) ⟨Nat.le_of_ble_eq_true rfl, Nat.le_of_ble_eq_true rfl⟩) (ci := 11) rfl, List.forall_mem_cons.mpr ⟨pm_cokV hbs hZ ⟨hx, hb, hml, hown, hts⟩ (kW_Pr_parseAddress l D base sa) (fun mc ms => cwV 3 hts (pw_gV (pw_in 1854 (w := .methodLink "RoutingField" 221 ⟨"RoutingField$Prefix", "parseAddress", "(LRoutingField$Bytes;II)Z"⟩) (by decide +kernel) rfl) (pw_in 772 (by decide +kernel) rfl) (pw_in 773 (by decide +kernel) rfl) (pw_in 4 (by decide +kernel) rfl) (pw_in 774 rfl rfl)) rfl rfl rfl (by decide +kernel) ⟨Nat.le_of_ble_eq_true rfl, Nat.le_of_ble_eq_true rfl⟩) (ci := 5) rfl, List.forall_mem_cons.mpr ⟨pm_cokV hbs hZ ⟨hx, hb, hml, hown, hts⟩ (kW_By_clear l D base sa) (fun mc ms => cwV 0 hts (pw_gV (pw_in 1224 (w := .methodLink "RoutingField" 119 ⟨"RoutingField$Bytes", "clear", "()V"⟩) (by decide +kernel) rfl) (pw_in 1124 (by decide +kernel) rfl) (pw_in 1125 (by decide +kernel) rfl) (pw_in 2 (by decide +kernel) rfl) (pw_in 1126 rfl rfl)) rfl rfl rfl (by decide +kernel) ⟨Nat.le_of_ble_eq_true rfl, Nat.le_of_ble_eq_true rfl⟩) (ci := 0) rfl, List.forall_mem_cons.mpr ⟨pm_cokV hbs hZ ⟨hx, hb, hml, hown, hts⟩ (kW_Rr_findLongestOwn l D base sa) (fun mc ms => cwV 2 hts (pw_gV (pw_in 1855 (w := .methodLink "RoutingField" 226 ⟨"RoutingField$Router", "findLongestOwn", "(LRoutingField$Prefix;LRoutingField$Prefix;)V"⟩) (by decide +kernel) rfl) (pw_in 1856 (by decide +kernel) rfl) (pw_in 1857 (by decide +kernel) rfl) (pw_in 15 (by decide +kernel) rfl) (pw_in 1858 rfl rfl)) rfl rfl rfl (by decide +kernel) ⟨Nat.le_of_ble_eq_true rfl, Nat.le_of_ble_eq_true rfl⟩) (ci := 9) rfl, List.forall_mem_cons.mpr ⟨pm_cokV hbs hZ ⟨hx, hb, hml, hown, hts⟩ (kW_Rf_leastSum l D base sa) (fun mc ms => cwV 1 hts (pw_gV (pw_in 1859 (w := .methodLink "RoutingField" 233 ⟨"RoutingField", "leastSum", "(I)I"⟩) (by decide +kernel) rfl) (pw_in 1861 (by decide +kernel) rfl) (pw_sel 106 (q := (⟨"RoutingField", "leastSum", "(I)I"⟩, 20)) (by decide +kernel)) (pw_in 1 (by decide +kernel) rfl) (pw_in 1862 rfl rfl)) rfl rfl rfl (by decide +kernel) ⟨Nat.le_of_ble_eq_true rfl, Nat.le_of_ble_eq_true rfl⟩) (ci := 11) rfl, fun _ h => absurd h List.not_mem_nil⟩⟩⟩⟩⟩),
    hZ, kst_ok ht hZ (kS_Rf_ok sa), knar_ok ht, ktx_ok (kE_Rf_ok sa)⟩
set_option maxRecDepth 100000 in
theorem kD_Rr_longestAlive : ∀ q ∈ kC_Rr_longestAlive, decode prog_11_method_39_code q.1 = .ok (q.2, pm_len q.1 q.2) := by decide +kernel
set_option maxRecDepth 100000 in
theorem kW_Rr_longestAlive (l : Launch) (D : va_G) (base : Nat) (sa : Nat → Nat) : pm_Met l D kcl base (kZ sa) ⟨"RoutingField$Router", "longestAlive", "(LRoutingField$Prefix;)LRoutingField$Route;"⟩ (.code ⟨"RoutingField$Router", "longestAlive", "(LRoutingField$Prefix;)LRoutingField$Route;"⟩ prog_11_method_39_code 5 (some (.object "RoutingField$Route")) :: pw_T) 1 25 (kP_Rr_longestAlive base sa) := by
  refine pm_met (by decide) rfl rfl ?_
  intro mc ms p e s m args below meth c hx hb hml hown hnm hts hbs hZ
  have ht : ∀ w ∈ pw_T, w.before args s = true := fun w h => hts w (List.mem_cons_of_mem _ h)
  exact ⟨hx, hb, hown, hbs, pm_look_all kD_Rr_longestAlive, kf_ok (init := false) ht hZ kF_Rr_ok (fun h => by cases h), km_ok ht kM_Rr_ok, kci_ok ht kI_Rr_ok, kli_ok ht kJ_Rr_ok, kar_ok ht hZ kA_Rr_ok,
    pm_look_all (List.forall_mem_cons.mpr ⟨pm_cokV hbs hZ ⟨hx, hb, hml, hown, hts⟩ (kW_Pr_covers l D base sa) (fun mc ms => cwV 1 hts (pw_gV (pw_in 1394 (w := .methodLink "RoutingField$Router" 426 ⟨"RoutingField$Prefix", "covers", "(LRoutingField$Prefix;)Z"⟩) (by decide +kernel) rfl) (pw_in 997 (by decide +kernel) rfl) (pw_in 998 (by decide +kernel) rfl) (pw_in 4 (by decide +kernel) rfl) (pw_in 999 rfl rfl)) rfl rfl rfl (by decide +kernel) ⟨Nat.le_of_ble_eq_true rfl, Nat.le_of_ble_eq_true rfl⟩) (ci := 5) rfl, fun _ h => absurd h List.not_mem_nil⟩),
    hZ, kst_ok ht hZ (kS_Rr_ok sa), knar_ok ht, ktx_ok (kE_Rr_ok sa)⟩
set_option maxRecDepth 100000 in
theorem kD_Rf_way : ∀ q ∈ kC_Rf_way, decode prog_1_method_14_code q.1 = .ok (q.2, pm_len q.1 q.2) := by decide +kernel
set_option maxRecDepth 100000 in
theorem kW_Rf_way (l : Launch) (D : va_G) (base : Nat) (sa : Nat → Nat) : pm_Met l D kcl base (kZ sa) ⟨"RoutingField", "way", "(I)I"⟩ (.code ⟨"RoutingField", "way", "(I)I"⟩ prog_1_method_14_code 5 (some .int) :: pw_T) 9 195 (kP_Rf_way base sa) := by
  refine pm_met (by decide) rfl rfl ?_
  intro mc ms p e s m args below meth c hx hb hml hown hnm hts hbs hZ
  have ht : ∀ w ∈ pw_T, w.before args s = true := fun w h => hts w (List.mem_cons_of_mem _ h)
  exact ⟨hx, hb, hown, hbs, pm_look_all kD_Rf_way, kf_ok (init := false) ht hZ kF_Rf_ok (fun h => by cases h), km_ok ht kM_Rf_ok, kci_ok ht kI_Rf_ok, kli_ok ht kJ_Rf_ok, kar_ok ht hZ kA_Rf_ok,
    pm_look_all (List.forall_mem_cons.mpr ⟨pm_cokV hbs hZ ⟨hx, hb, hml, hown, hts⟩ (kW_Rf_routerAt l D base sa) (fun mc ms => cwV 1 hts (pw_gV (pw_in 1648 (w := .methodLink "RoutingField" 152 ⟨"RoutingField", "routerAt", "(I)LRoutingField$Router;"⟩) (by decide +kernel) rfl) (pw_in 1650 (by decide +kernel) rfl) (pw_sel 87 (q := (⟨"RoutingField", "routerAt", "(I)LRoutingField$Router;"⟩, 20)) (by decide +kernel)) (pw_in 1 (by decide +kernel) rfl) (pw_in 1651 rfl rfl)) rfl rfl rfl (by decide +kernel) ⟨Nat.le_of_ble_eq_true rfl, Nat.le_of_ble_eq_true rfl⟩) (ci := 11) rfl, List.forall_mem_cons.mpr ⟨pm_cokV hbs hZ ⟨hx, hb, hml, hown, hts⟩ (kW_Pr_parseAddress l D base sa) (fun mc ms => cwV 3 hts (pw_gV (pw_in 1854 (w := .methodLink "RoutingField" 221 ⟨"RoutingField$Prefix", "parseAddress", "(LRoutingField$Bytes;II)Z"⟩) (by decide +kernel) rfl) (pw_in 772 (by decide +kernel) rfl) (pw_in 773 (by decide +kernel) rfl) (pw_in 4 (by decide +kernel) rfl) (pw_in 774 rfl rfl)) rfl rfl rfl (by decide +kernel) ⟨Nat.le_of_ble_eq_true rfl, Nat.le_of_ble_eq_true rfl⟩) (ci := 5) rfl, List.forall_mem_cons.mpr ⟨pm_cokV hbs hZ ⟨hx, hb, hml, hown, hts⟩ (kW_By_clear l D base sa) (fun mc ms => cwV 0 hts (pw_gV (pw_in 1224 (w := .methodLink "RoutingField" 119 ⟨"RoutingField$Bytes", "clear", "()V"⟩) (by decide +kernel) rfl) (pw_in 1124 (by decide +kernel) rfl) (pw_in 1125 (by decide +kernel) rfl) (pw_in 2 (by decide +kernel) rfl) (pw_in 1126 rfl rfl)) rfl rfl rfl (by decide +kernel) ⟨Nat.le_of_ble_eq_true rfl, Nat.le_of_ble_eq_true rfl⟩) (ci := 0) rfl, List.forall_mem_cons.mpr ⟨pm_cokV hbs hZ ⟨hx, hb, hml, hown, hts⟩ (kW_Rr_longestAlive l D base sa) (fun mc ms => cwV 1 hts (pw_gV (pw_in 1876 (w := .methodLink "RoutingField" 236 ⟨"RoutingField$Router", "longestAlive", "(LRoutingField$Prefix;)LRoutingField$Route;"⟩) (by decide +kernel) rfl) (pw_in 1877 (by decide +kernel) rfl) (pw_in 1878 (by decide +kernel) rfl) (pw_in 15 (by decide +kernel) rfl) (pw_in 1879 rfl rfl)) rfl rfl rfl (by decide +kernel) ⟨Nat.le_of_ble_eq_true rfl, Nat.le_of_ble_eq_true rfl⟩) (ci := 9) rfl, List.forall_mem_cons.mpr ⟨pm_cokV hbs hZ ⟨hx, hb, hml, hown, hts⟩ (kW_Rf_writeRoute l D base sa) (fun mc ms => cwV 1 hts (pw_gV (pw_in 1676 (w := .methodLink "RoutingField" 240 ⟨"RoutingField", "writeRoute", "(LRoutingField$Route;)V"⟩) (by decide +kernel) rfl) (pw_in 1678 (by decide +kernel) rfl) (pw_sel 89 (q := (⟨"RoutingField", "writeRoute", "(LRoutingField$Route;)V"⟩, 20)) (by decide +kernel)) (pw_in 1 (by decide +kernel) rfl) (pw_in 1679 rfl rfl)) rfl rfl rfl (by decide +kernel) ⟨Nat.le_of_ble_eq_true rfl, Nat.le_of_ble_eq_true rfl⟩) (ci := 11) rfl, fun _ h => absurd h List.not_mem_nil⟩⟩⟩⟩⟩),
    hZ, kst_ok ht hZ (kS_Rf_ok sa), knar_ok ht, ktx_ok (kE_Rf_ok sa)⟩
set_option maxRecDepth 100000 in
theorem kD_Rf_seen : ∀ q ∈ kC_Rf_seen, decode prog_1_method_15_code q.1 = .ok (q.2, pm_len q.1 q.2) := by decide +kernel
set_option maxRecDepth 100000 in
theorem kW_Rf_seen (l : Launch) (D : va_G) (base : Nat) (sa : Nat → Nat) : pm_Met l D kcl base (kZ sa) ⟨"RoutingField", "seen", "(I)I"⟩ (.code ⟨"RoutingField", "seen", "(I)I"⟩ prog_1_method_15_code 3 (some .int) :: pw_T) 2 46 (kP_Rf_seen base sa) := by
  refine pm_met (by decide) rfl rfl ?_
  intro mc ms p e s m args below meth c hx hb hml hown hnm hts hbs hZ
  have ht : ∀ w ∈ pw_T, w.before args s = true := fun w h => hts w (List.mem_cons_of_mem _ h)
  exact ⟨hx, hb, hown, hbs, pm_look_all kD_Rf_seen, kf_ok (init := false) ht hZ kF_Rf_ok (fun h => by cases h), km_ok ht kM_Rf_ok, kci_ok ht kI_Rf_ok, kli_ok ht kJ_Rf_ok, kar_ok ht hZ kA_Rf_ok,
    pm_look_all (List.forall_mem_cons.mpr ⟨pm_cokV hbs hZ ⟨hx, hb, hml, hown, hts⟩ (kW_Rf_linkAt l D base sa) (fun mc ms => cwV 1 hts (pw_gV (pw_in 1620 (w := .methodLink "RoutingField" 132 ⟨"RoutingField", "linkAt", "(I)LRoutingField$Link;"⟩) (by decide +kernel) rfl) (pw_in 765 (by decide +kernel) rfl) (pw_sel 15 (q := (⟨"RoutingField", "linkAt", "(I)LRoutingField$Link;"⟩, 20)) (by decide +kernel)) (pw_in 1 (by decide +kernel) rfl) (pw_in 766 rfl rfl)) rfl rfl rfl (by decide +kernel) ⟨Nat.le_of_ble_eq_true rfl, Nat.le_of_ble_eq_true rfl⟩) (ci := 11) rfl, List.forall_mem_cons.mpr ⟨pm_cokV hbs hZ ⟨hx, hb, hml, hown, hts⟩ (kW_By_clear l D base sa) (fun mc ms => cwV 0 hts (pw_gV (pw_in 1224 (w := .methodLink "RoutingField" 119 ⟨"RoutingField$Bytes", "clear", "()V"⟩) (by decide +kernel) rfl) (pw_in 1124 (by decide +kernel) rfl) (pw_in 1125 (by decide +kernel) rfl) (pw_in 2 (by decide +kernel) rfl) (pw_in 1126 rfl rfl)) rfl rfl rfl (by decide +kernel) ⟨Nat.le_of_ble_eq_true rfl, Nat.le_of_ble_eq_true rfl⟩) (ci := 0) rfl, List.forall_mem_cons.mpr ⟨pm_cokV hbs hZ ⟨hx, hb, hml, hown, hts⟩ (kW_By_addPart l D base sa) (fun mc ms => cwV 3 hts (pw_gV (pw_in 1225 (w := .methodLink "RoutingField" 168 ⟨"RoutingField$Bytes", "addPart", "(LRoutingField$Bytes;II)V"⟩) (by decide +kernel) rfl) (pw_in 1226 (by decide +kernel) rfl) (pw_in 1227 (by decide +kernel) rfl) (pw_in 2 (by decide +kernel) rfl) (pw_in 1228 rfl rfl)) rfl rfl rfl (by decide +kernel) ⟨Nat.le_of_ble_eq_true rfl, Nat.le_of_ble_eq_true rfl⟩) (ci := 0) rfl, fun _ h => absurd h List.not_mem_nil⟩⟩⟩),
    hZ, kst_ok ht hZ (kS_Rf_ok sa), knar_ok ht, ktx_ok (kE_Rf_ok sa)⟩
set_option maxRecDepth 100000 in
theorem kD_Rf_textAt : ∀ q ∈ kC_Rf_textAt, decode prog_1_method_16_code q.1 = .ok (q.2, pm_len q.1 q.2) := by decide +kernel
set_option maxRecDepth 100000 in
theorem kW_Rf_textAt (l : Launch) (D : va_G) (base : Nat) (sa : Nat → Nat) : pm_Met l D kcl base (kZ sa) ⟨"RoutingField", "textAt", "(I)I"⟩ (.code ⟨"RoutingField", "textAt", "(I)I"⟩ prog_1_method_16_code 2 (some .int) :: pw_T) 1 21 (kP_Rf_textAt base sa) := by
  refine pm_met (by decide) rfl rfl ?_
  intro mc ms p e s m args below meth c hx hb hml hown hnm hts hbs hZ
  have ht : ∀ w ∈ pw_T, w.before args s = true := fun w h => hts w (List.mem_cons_of_mem _ h)
  exact ⟨hx, hb, hown, hbs, pm_look_all kD_Rf_textAt, kf_ok (init := false) ht hZ kF_Rf_ok (fun h => by cases h), km_ok ht kM_Rf_ok, kci_ok ht kI_Rf_ok, kli_ok ht kJ_Rf_ok, kar_ok ht hZ kA_Rf_ok,
    pm_look_all (List.forall_mem_cons.mpr ⟨pm_cokV hbs hZ ⟨hx, hb, hml, hown, hts⟩ (kW_By_at l D base sa) (fun mc ms => cwV 1 hts (pw_gV (pw_in 384 (w := .methodLink "RoutingField" 111 ⟨"RoutingField$Bytes", "at", "(I)I"⟩) (by decide +kernel) rfl) (pw_in 385 (by decide +kernel) rfl) (pw_in 386 (by decide +kernel) rfl) (pw_in 2 (by decide +kernel) rfl) (pw_in 387 rfl rfl)) rfl rfl rfl (by decide +kernel) ⟨Nat.le_of_ble_eq_true rfl, Nat.le_of_ble_eq_true rfl⟩) (ci := 0) rfl, fun _ h => absurd h List.not_mem_nil⟩),
    hZ, kst_ok ht hZ (kS_Rf_ok sa), knar_ok ht, ktx_ok (kE_Rf_ok sa)⟩
set_option maxRecDepth 100000 in
theorem kD_Rf_count : ∀ q ∈ kC_Rf_count, decode prog_1_method_17_code q.1 = .ok (q.2, pm_len q.1 q.2) := by decide +kernel
set_option maxRecDepth 100000 in
theorem kW_Rf_count (l : Launch) (D : va_G) (base : Nat) (sa : Nat → Nat) : pm_Met l D kcl base (kZ sa) ⟨"RoutingField", "count", "(II)I"⟩ (.code ⟨"RoutingField", "count", "(II)I"⟩ prog_1_method_17_code 4 (some .int) :: pw_T) 1 21 (kP_Rf_count base sa) := by
  refine pm_met (by decide) rfl rfl ?_
  intro mc ms p e s m args below meth c hx hb hml hown hnm hts hbs hZ
  have ht : ∀ w ∈ pw_T, w.before args s = true := fun w h => hts w (List.mem_cons_of_mem _ h)
  exact ⟨hx, hb, hown, hbs, pm_look_all kD_Rf_count, kf_ok (init := false) ht hZ kF_Rf_ok (fun h => by cases h), km_ok ht kM_Rf_ok, kci_ok ht kI_Rf_ok, kli_ok ht kJ_Rf_ok, kar_ok ht hZ kA_Rf_ok,
    pm_look_all (List.forall_mem_cons.mpr ⟨pm_cokV hbs hZ ⟨hx, hb, hml, hown, hts⟩ (kW_Rf_routerAt l D base sa) (fun mc ms => cwV 1 hts (pw_gV (pw_in 1648 (w := .methodLink "RoutingField" 152 ⟨"RoutingField", "routerAt", "(I)LRoutingField$Router;"⟩) (by decide +kernel) rfl) (pw_in 1650 (by decide +kernel) rfl) (pw_sel 87 (q := (⟨"RoutingField", "routerAt", "(I)LRoutingField$Router;"⟩, 20)) (by decide +kernel)) (pw_in 1 (by decide +kernel) rfl) (pw_in 1651 rfl rfl)) rfl rfl rfl (by decide +kernel) ⟨Nat.le_of_ble_eq_true rfl, Nat.le_of_ble_eq_true rfl⟩) (ci := 11) rfl, fun _ h => absurd h List.not_mem_nil⟩),
    hZ, kst_ok ht hZ (kS_Rf_ok sa), knar_ok ht, ktx_ok (kE_Rf_ok sa)⟩
set_option maxRecDepth 100000 in
theorem kD_Rf_routes : ∀ q ∈ kC_Rf_routes, decode prog_1_method_18_code q.1 = .ok (q.2, pm_len q.1 q.2) := by decide +kernel
set_option maxRecDepth 100000 in
theorem kW_Rf_routes (l : Launch) (D : va_G) (base : Nat) (sa : Nat → Nat) : pm_Met l D kcl base (kZ sa) ⟨"RoutingField", "routes", "(I)I"⟩ (.code ⟨"RoutingField", "routes", "(I)I"⟩ prog_1_method_18_code 3 (some .int) :: pw_T) 1 21 (kP_Rf_routes base sa) := by
  refine pm_met (by decide) rfl rfl ?_
  intro mc ms p e s m args below meth c hx hb hml hown hnm hts hbs hZ
  have ht : ∀ w ∈ pw_T, w.before args s = true := fun w h => hts w (List.mem_cons_of_mem _ h)
  exact ⟨hx, hb, hown, hbs, pm_look_all kD_Rf_routes, kf_ok (init := false) ht hZ kF_Rf_ok (fun h => by cases h), km_ok ht kM_Rf_ok, kci_ok ht kI_Rf_ok, kli_ok ht kJ_Rf_ok, kar_ok ht hZ kA_Rf_ok,
    pm_look_all (List.forall_mem_cons.mpr ⟨pm_cokV hbs hZ ⟨hx, hb, hml, hown, hts⟩ (kW_Rf_routerAt l D base sa) (fun mc ms => cwV 1 hts (pw_gV (pw_in 1648 (w := .methodLink "RoutingField" 152 ⟨"RoutingField", "routerAt", "(I)LRoutingField$Router;"⟩) (by decide +kernel) rfl) (pw_in 1650 (by decide +kernel) rfl) (pw_sel 87 (q := (⟨"RoutingField", "routerAt", "(I)LRoutingField$Router;"⟩, 20)) (by decide +kernel)) (pw_in 1 (by decide +kernel) rfl) (pw_in 1651 rfl rfl)) rfl rfl rfl (by decide +kernel) ⟨Nat.le_of_ble_eq_true rfl, Nat.le_of_ble_eq_true rfl⟩) (ci := 11) rfl, fun _ h => absurd h List.not_mem_nil⟩),
    hZ, kst_ok ht hZ (kS_Rf_ok sa), knar_ok ht, ktx_ok (kE_Rf_ok sa)⟩
set_option maxRecDepth 100000 in
theorem kD_Rf_flying : ∀ q ∈ kC_Rf_flying, decode prog_1_method_19_code q.1 = .ok (q.2, pm_len q.1 q.2) := by decide +kernel
set_option maxRecDepth 100000 in
theorem kW_Rf_flying (l : Launch) (D : va_G) (base : Nat) (sa : Nat → Nat) : pm_Met l D kcl base (kZ sa) ⟨"RoutingField", "flying", "()I"⟩ (.code ⟨"RoutingField", "flying", "()I"⟩ prog_1_method_19_code 1 (some .int) :: pw_T) 0 0 (kP_Rf_flying base sa) := by
  refine pm_met (by decide) rfl rfl ?_
  intro mc ms p e s m args below meth c hx hb hml hown hnm hts hbs hZ
  have ht : ∀ w ∈ pw_T, w.before args s = true := fun w h => hts w (List.mem_cons_of_mem _ h)
  exact ⟨hx, hb, hown, hbs, pm_look_all kD_Rf_flying, kf_ok (init := false) ht hZ kF_Rf_ok (fun h => by cases h), km_ok ht kM_Rf_ok, kci_ok ht kI_Rf_ok, kli_ok ht kJ_Rf_ok, kar_ok ht hZ kA_Rf_ok,
    pm_look_all (fun _ h => absurd h List.not_mem_nil),
    hZ, kst_ok ht hZ (kS_Rf_ok sa), knar_ok ht, ktx_ok (kE_Rf_ok sa)⟩
set_option maxRecDepth 100000 in
theorem kD_Rf_now : ∀ q ∈ kC_Rf_now, decode prog_1_method_20_code q.1 = .ok (q.2, pm_len q.1 q.2) := by decide +kernel
set_option maxRecDepth 100000 in
theorem kW_Rf_now (l : Launch) (D : va_G) (base : Nat) (sa : Nat → Nat) : pm_Met l D kcl base (kZ sa) ⟨"RoutingField", "now", "()I"⟩ (.code ⟨"RoutingField", "now", "()I"⟩ prog_1_method_20_code 1 (some .int) :: pw_T) 0 0 (kP_Rf_now base sa) := by
  refine pm_met (by decide) rfl rfl ?_
  intro mc ms p e s m args below meth c hx hb hml hown hnm hts hbs hZ
  have ht : ∀ w ∈ pw_T, w.before args s = true := fun w h => hts w (List.mem_cons_of_mem _ h)
  exact ⟨hx, hb, hown, hbs, pm_look_all kD_Rf_now, kf_ok (init := false) ht hZ kF_Rf_ok (fun h => by cases h), km_ok ht kM_Rf_ok, kci_ok ht kI_Rf_ok, kli_ok ht kJ_Rf_ok, kar_ok ht hZ kA_Rf_ok,
    pm_look_all (fun _ h => absurd h List.not_mem_nil),
    hZ, kst_ok ht hZ (kS_Rf_ok sa), knar_ok ht, ktx_ok (kE_Rf_ok sa)⟩
