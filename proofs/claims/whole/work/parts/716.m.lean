set_option maxRecDepth 100000 in
theorem ki_Rf_oracle : Cond.instanceMethod ⟨"RoutingField", "oracle", "(I)I"⟩ ∈ pw_T := (pw_in 1851 (by decide +kernel) rfl)
set_option maxRecDepth 100000 in
theorem ks_Rf_oracle : Cond.selects "RoutingField" ⟨"RoutingField", "oracle", "(I)I"⟩ ⟨"RoutingField", "oracle", "(I)I"⟩ ∈ pw_T := (pw_in 1852 (by decide +kernel) rfl)
set_option maxRecDepth 100000 in
theorem ko_Rf_oracle : Cond.code ⟨"RoutingField", "oracle", "(I)I"⟩ prog_1_method_13_code 5 (some .int) ∈ pw_T := (pw_in 1853 rfl rfl)
set_option maxRecDepth 100000 in
theorem kD_Rf_oracle_0 : ∀ q ∈ kC_Rf_oracle_0, decode prog_1_method_13_code q.1 = .ok (q.2, pm_len q.1 q.2) := by decide +kernel
set_option maxRecDepth 100000 in
theorem kD_Rf_oracle_1 : ∀ q ∈ kC_Rf_oracle_1, decode prog_1_method_13_code q.1 = .ok (q.2, pm_len q.1 q.2) := by decide +kernel
theorem kD_Rf_oracle : ∀ q ∈ kC_Rf_oracle, decode prog_1_method_13_code q.1 = .ok (q.2, pm_len q.1 q.2) := List.forall_mem_append.mpr ⟨kD_Rf_oracle_0, kD_Rf_oracle_1⟩
set_option maxRecDepth 100000 in
theorem kW_Rf_oracle (l : Launch) (D : va_G) (base : Nat) (sa : Nat → Nat) : pm_Met l D kcl base (kZ sa) ⟨"RoutingField", "oracle", "(I)I"⟩ (.code ⟨"RoutingField", "oracle", "(I)I"⟩ prog_1_method_13_code 5 (some .int) :: pw_T) 5 116 (kP_Rf_oracle base sa) := by
  refine pm_met (by decide) rfl rfl ?_
  intro mc ms p e s m args below meth c hx hb hml hown hnm hts hbs hZ
  have ht : ∀ w ∈ pw_T, w.before args s = true := fun w h => hts w (List.mem_cons_of_mem _ h)
  exact ⟨hx, hb, hown, hbs, pm_look_all kD_Rf_oracle, kf_ok (init := false) ht hZ kF_Rf_ok (fun h => by cases h), km_ok ht kM_Rf_ok, kci_ok ht kI_Rf_ok, kli_ok ht kJ_Rf_ok, kar_ok ht hZ kA_Rf_ok,
    pm_look_all (List.forall_mem_cons.mpr ⟨pm_cokV hbs hZ ⟨hx, hb, hml, hown, hts⟩ (kW_Rf_routerAt l D base sa) (fun mc ms => cwV 1 hts (pw_gV (pw_in 1648 (w := .methodLink "RoutingField" 152 ⟨"RoutingField", "routerAt", "(I)LRoutingField$Router;"⟩) (by decide +kernel) rfl) ki_Rf_routerAt ks_Rf_routerAt kn_Rf ko_Rf_routerAt) rfl rfl rfl (by decide +kernel) ⟨Nat.le_of_ble_eq_true rfl, Nat.le_of_ble_eq_true rfl⟩) (ci := 11) rfl, List.forall_mem_cons.mpr ⟨pm_cokV hbs hZ ⟨hx, hb, hml, hown, hts⟩ (kW_Pr_parseAddress l D base sa) (fun mc ms => cwV 3 hts (pw_gV (pw_in 1854 (w := .methodLink "RoutingField" 221 ⟨"RoutingField$Prefix", "parseAddress", "(LRoutingField$Bytes;II)Z"⟩) (by decide +kernel) rfl) ki_Pr_parseAddress ks_Pr_parseAddress kn_Pr ko_Pr_parseAddress) rfl rfl rfl (by decide +kernel) ⟨Nat.le_of_ble_eq_true rfl, Nat.le_of_ble_eq_true rfl⟩) (ci := 5) rfl, List.forall_mem_cons.mpr ⟨pm_cokV hbs hZ ⟨hx, hb, hml, hown, hts⟩ (kW_By_clear l D base sa) (fun mc ms => cwV 0 hts (pw_gV (pw_in 1224 (w := .methodLink "RoutingField" 119 ⟨"RoutingField$Bytes", "clear", "()V"⟩) (by decide +kernel) rfl) ki_By_clear ks_By_clear kn_By ko_By_clear) rfl rfl rfl (by decide +kernel) ⟨Nat.le_of_ble_eq_true rfl, Nat.le_of_ble_eq_true rfl⟩) (ci := 0) rfl, List.forall_mem_cons.mpr ⟨pm_cokV hbs hZ ⟨hx, hb, hml, hown, hts⟩ (kW_Rr_findLongestOwn l D base sa) (fun mc ms => cwV 2 hts (pw_gV (pw_in 1855 (w := .methodLink "RoutingField" 226 ⟨"RoutingField$Router", "findLongestOwn", "(LRoutingField$Prefix;LRoutingField$Prefix;)V"⟩) (by decide +kernel) rfl) ki_Rr_findLongestOwn ks_Rr_findLongestOwn kn_Rr ko_Rr_findLongestOwn) rfl rfl rfl (by decide +kernel) ⟨Nat.le_of_ble_eq_true rfl, Nat.le_of_ble_eq_true rfl⟩) (ci := 9) rfl, List.forall_mem_cons.mpr ⟨pm_cokV hbs hZ ⟨hx, hb, hml, hown, hts⟩ (kW_Rf_leastSum l D base sa) (fun mc ms => cwV 1 hts (pw_gV (pw_in 1859 (w := .methodLink "RoutingField" 233 ⟨"RoutingField", "leastSum", "(I)I"⟩) (by decide +kernel) rfl) ki_Rf_leastSum ks_Rf_leastSum kn_Rf ko_Rf_leastSum) rfl rfl rfl (by decide +kernel) ⟨Nat.le_of_ble_eq_true rfl, Nat.le_of_ble_eq_true rfl⟩) (ci := 11) rfl, fun _ h => absurd h List.not_mem_nil⟩⟩⟩⟩⟩),
    hZ, kst_ok ht hZ (kS_Rf_ok sa), knar_ok ht, ktx_ok (kE_Rf_ok sa)⟩
set_option maxRecDepth 100000 in
theorem ki_Rr_longestAlive : Cond.instanceMethod ⟨"RoutingField$Router", "longestAlive", "(LRoutingField$Prefix;)LRoutingField$Route;"⟩ ∈ pw_T := (pw_in 1877 (by decide +kernel) rfl)
set_option maxRecDepth 100000 in
theorem ks_Rr_longestAlive : Cond.selects "RoutingField$Router" ⟨"RoutingField$Router", "longestAlive", "(LRoutingField$Prefix;)LRoutingField$Route;"⟩ ⟨"RoutingField$Router", "longestAlive", "(LRoutingField$Prefix;)LRoutingField$Route;"⟩ ∈ pw_T := (pw_in 1878 (by decide +kernel) rfl)
set_option maxRecDepth 100000 in
theorem ko_Rr_longestAlive : Cond.code ⟨"RoutingField$Router", "longestAlive", "(LRoutingField$Prefix;)LRoutingField$Route;"⟩ prog_11_method_39_code 5 (some (.object "RoutingField$Route")) ∈ pw_T := (pw_in 1879 rfl rfl)
set_option maxRecDepth 100000 in
theorem kD_Rr_longestAlive : ∀ q ∈ kC_Rr_longestAlive, decode prog_11_method_39_code q.1 = .ok (q.2, pm_len q.1 q.2) := by decide +kernel
set_option maxRecDepth 100000 in
theorem kW_Rr_longestAlive (l : Launch) (D : va_G) (base : Nat) (sa : Nat → Nat) : pm_Met l D kcl base (kZ sa) ⟨"RoutingField$Router", "longestAlive", "(LRoutingField$Prefix;)LRoutingField$Route;"⟩ (.code ⟨"RoutingField$Router", "longestAlive", "(LRoutingField$Prefix;)LRoutingField$Route;"⟩ prog_11_method_39_code 5 (some (.object "RoutingField$Route")) :: pw_T) 1 25 (kP_Rr_longestAlive base sa) := by
  refine pm_met (by decide) rfl rfl ?_
  intro mc ms p e s m args below meth c hx hb hml hown hnm hts hbs hZ
  have ht : ∀ w ∈ pw_T, w.before args s = true := fun w h => hts w (List.mem_cons_of_mem _ h)
  exact ⟨hx, hb, hown, hbs, pm_look_all kD_Rr_longestAlive, kf_ok (init := false) ht hZ kF_Rr_ok (fun h => by cases h), km_ok ht kM_Rr_ok, kci_ok ht kI_Rr_ok, kli_ok ht kJ_Rr_ok, kar_ok ht hZ kA_Rr_ok,
    pm_look_all (List.forall_mem_cons.mpr ⟨pm_cokV hbs hZ ⟨hx, hb, hml, hown, hts⟩ (kW_Pr_covers l D base sa) (fun mc ms => cwV 1 hts (pw_gV (pw_in 1394 (w := .methodLink "RoutingField$Router" 426 ⟨"RoutingField$Prefix", "covers", "(LRoutingField$Prefix;)Z"⟩) (by decide +kernel) rfl) ki_Pr_covers ks_Pr_covers kn_Pr ko_Pr_covers) rfl rfl rfl (by decide +kernel) ⟨Nat.le_of_ble_eq_true rfl, Nat.le_of_ble_eq_true rfl⟩) (ci := 5) rfl, fun _ h => absurd h List.not_mem_nil⟩),
    hZ, kst_ok ht hZ (kS_Rr_ok sa), knar_ok ht, ktx_ok (kE_Rr_ok sa)⟩
set_option maxRecDepth 100000 in
theorem ki_Rf_way : Cond.instanceMethod ⟨"RoutingField", "way", "(I)I"⟩ ∈ pw_T := (pw_in 1873 (by decide +kernel) rfl)
set_option maxRecDepth 100000 in
theorem ks_Rf_way : Cond.selects "RoutingField" ⟨"RoutingField", "way", "(I)I"⟩ ⟨"RoutingField", "way", "(I)I"⟩ ∈ pw_T := (pw_in 1874 (by decide +kernel) rfl)
set_option maxRecDepth 100000 in
theorem ko_Rf_way : Cond.code ⟨"RoutingField", "way", "(I)I"⟩ prog_1_method_14_code 5 (some .int) ∈ pw_T := (pw_in 1875 rfl rfl)
set_option maxRecDepth 100000 in
theorem kD_Rf_way : ∀ q ∈ kC_Rf_way, decode prog_1_method_14_code q.1 = .ok (q.2, pm_len q.1 q.2) := by decide +kernel
set_option maxRecDepth 100000 in
theorem kW_Rf_way (l : Launch) (D : va_G) (base : Nat) (sa : Nat → Nat) : pm_Met l D kcl base (kZ sa) ⟨"RoutingField", "way", "(I)I"⟩ (.code ⟨"RoutingField", "way", "(I)I"⟩ prog_1_method_14_code 5 (some .int) :: pw_T) 10 233 (kP_Rf_way base sa) := by
  refine pm_met (by decide) rfl rfl ?_
  intro mc ms p e s m args below meth c hx hb hml hown hnm hts hbs hZ
  have ht : ∀ w ∈ pw_T, w.before args s = true := fun w h => hts w (List.mem_cons_of_mem _ h)
  exact ⟨hx, hb, hown, hbs, pm_look_all kD_Rf_way, kf_ok (init := false) ht hZ kF_Rf_ok (fun h => by cases h), km_ok ht kM_Rf_ok, kci_ok ht kI_Rf_ok, kli_ok ht kJ_Rf_ok, kar_ok ht hZ kA_Rf_ok,
    pm_look_all (List.forall_mem_cons.mpr ⟨pm_cokV hbs hZ ⟨hx, hb, hml, hown, hts⟩ (kW_Rf_routerAt l D base sa) (fun mc ms => cwV 1 hts (pw_gV (pw_in 1648 (w := .methodLink "RoutingField" 152 ⟨"RoutingField", "routerAt", "(I)LRoutingField$Router;"⟩) (by decide +kernel) rfl) ki_Rf_routerAt ks_Rf_routerAt kn_Rf ko_Rf_routerAt) rfl rfl rfl (by decide +kernel) ⟨Nat.le_of_ble_eq_true rfl, Nat.le_of_ble_eq_true rfl⟩) (ci := 11) rfl, List.forall_mem_cons.mpr ⟨pm_cokV hbs hZ ⟨hx, hb, hml, hown, hts⟩ (kW_Pr_parseAddress l D base sa) (fun mc ms => cwV 3 hts (pw_gV (pw_in 1854 (w := .methodLink "RoutingField" 221 ⟨"RoutingField$Prefix", "parseAddress", "(LRoutingField$Bytes;II)Z"⟩) (by decide +kernel) rfl) ki_Pr_parseAddress ks_Pr_parseAddress kn_Pr ko_Pr_parseAddress) rfl rfl rfl (by decide +kernel) ⟨Nat.le_of_ble_eq_true rfl, Nat.le_of_ble_eq_true rfl⟩) (ci := 5) rfl, List.forall_mem_cons.mpr ⟨pm_cokV hbs hZ ⟨hx, hb, hml, hown, hts⟩ (kW_By_clear l D base sa) (fun mc ms => cwV 0 hts (pw_gV (pw_in 1224 (w := .methodLink "RoutingField" 119 ⟨"RoutingField$Bytes", "clear", "()V"⟩) (by decide +kernel) rfl) ki_By_clear ks_By_clear kn_By ko_By_clear) rfl rfl rfl (by decide +kernel) ⟨Nat.le_of_ble_eq_true rfl, Nat.le_of_ble_eq_true rfl⟩) (ci := 0) rfl, List.forall_mem_cons.mpr ⟨pm_cokV hbs hZ ⟨hx, hb, hml, hown, hts⟩ (kW_Rr_longestAlive l D base sa) (fun mc ms => cwV 1 hts (pw_gV (pw_in 1876 (w := .methodLink "RoutingField" 236 ⟨"RoutingField$Router", "longestAlive", "(LRoutingField$Prefix;)LRoutingField$Route;"⟩) (by decide +kernel) rfl) ki_Rr_longestAlive ks_Rr_longestAlive kn_Rr ko_Rr_longestAlive) rfl rfl rfl (by decide +kernel) ⟨Nat.le_of_ble_eq_true rfl, Nat.le_of_ble_eq_true rfl⟩) (ci := 9) rfl, List.forall_mem_cons.mpr ⟨pm_cokV hbs hZ ⟨hx, hb, hml, hown, hts⟩ (kW_Rf_writeRoute l D base sa) (fun mc ms => cwV 1 hts (pw_gV (pw_in 1676 (w := .methodLink "RoutingField" 240 ⟨"RoutingField", "writeRoute", "(LRoutingField$Route;)V"⟩) (by decide +kernel) rfl) ki_Rf_writeRoute ks_Rf_writeRoute kn_Rf ko_Rf_writeRoute) rfl rfl rfl (by decide +kernel) ⟨Nat.le_of_ble_eq_true rfl, Nat.le_of_ble_eq_true rfl⟩) (ci := 11) rfl, fun _ h => absurd h List.not_mem_nil⟩⟩⟩⟩⟩),
    hZ, kst_ok ht hZ (kS_Rf_ok sa), knar_ok ht, ktx_ok (kE_Rf_ok sa)⟩
set_option maxRecDepth 100000 in
theorem ki_Rf_seen : Cond.instanceMethod ⟨"RoutingField", "seen", "(I)I"⟩ ∈ pw_T := (pw_in 1881 (by decide +kernel) rfl)
set_option maxRecDepth 100000 in
theorem ks_Rf_seen : Cond.selects "RoutingField" ⟨"RoutingField", "seen", "(I)I"⟩ ⟨"RoutingField", "seen", "(I)I"⟩ ∈ pw_T := (pw_in 1882 (by decide +kernel) rfl)
set_option maxRecDepth 100000 in
theorem ko_Rf_seen : Cond.code ⟨"RoutingField", "seen", "(I)I"⟩ prog_1_method_15_code 3 (some .int) ∈ pw_T := (pw_in 1883 rfl rfl)
set_option maxRecDepth 100000 in
theorem kD_Rf_seen : ∀ q ∈ kC_Rf_seen, decode prog_1_method_15_code q.1 = .ok (q.2, pm_len q.1 q.2) := by decide +kernel
set_option maxRecDepth 100000 in
theorem kW_Rf_seen (l : Launch) (D : va_G) (base : Nat) (sa : Nat → Nat) : pm_Met l D kcl base (kZ sa) ⟨"RoutingField", "seen", "(I)I"⟩ (.code ⟨"RoutingField", "seen", "(I)I"⟩ prog_1_method_15_code 3 (some .int) :: pw_T) 2 55 (kP_Rf_seen base sa) := by
  refine pm_met (by decide) rfl rfl ?_
  intro mc ms p e s m args below meth c hx hb hml hown hnm hts hbs hZ
  have ht : ∀ w ∈ pw_T, w.before args s = true := fun w h => hts w (List.mem_cons_of_mem _ h)
  exact ⟨hx, hb, hown, hbs, pm_look_all kD_Rf_seen, kf_ok (init := false) ht hZ kF_Rf_ok (fun h => by cases h), km_ok ht kM_Rf_ok, kci_ok ht kI_Rf_ok, kli_ok ht kJ_Rf_ok, kar_ok ht hZ kA_Rf_ok,
    pm_look_all (List.forall_mem_cons.mpr ⟨pm_cokV hbs hZ ⟨hx, hb, hml, hown, hts⟩ (kW_Rf_linkAt l D base sa) (fun mc ms => cwV 1 hts (pw_gV (pw_in 1620 (w := .methodLink "RoutingField" 132 ⟨"RoutingField", "linkAt", "(I)LRoutingField$Link;"⟩) (by decide +kernel) rfl) ki_Rf_linkAt ks_Rf_linkAt kn_Rf ko_Rf_linkAt) rfl rfl rfl (by decide +kernel) ⟨Nat.le_of_ble_eq_true rfl, Nat.le_of_ble_eq_true rfl⟩) (ci := 11) rfl, List.forall_mem_cons.mpr ⟨pm_cokV hbs hZ ⟨hx, hb, hml, hown, hts⟩ (kW_By_clear l D base sa) (fun mc ms => cwV 0 hts (pw_gV (pw_in 1224 (w := .methodLink "RoutingField" 119 ⟨"RoutingField$Bytes", "clear", "()V"⟩) (by decide +kernel) rfl) ki_By_clear ks_By_clear kn_By ko_By_clear) rfl rfl rfl (by decide +kernel) ⟨Nat.le_of_ble_eq_true rfl, Nat.le_of_ble_eq_true rfl⟩) (ci := 0) rfl, List.forall_mem_cons.mpr ⟨pm_cokV hbs hZ ⟨hx, hb, hml, hown, hts⟩ (kW_By_addPart l D base sa) (fun mc ms => cwV 3 hts (pw_gV (pw_in 1225 (w := .methodLink "RoutingField" 168 ⟨"RoutingField$Bytes", "addPart", "(LRoutingField$Bytes;II)V"⟩) (by decide +kernel) rfl) ki_By_addPart ks_By_addPart kn_By ko_By_addPart) rfl rfl rfl (by decide +kernel) ⟨Nat.le_of_ble_eq_true rfl, Nat.le_of_ble_eq_true rfl⟩) (ci := 0) rfl, fun _ h => absurd h List.not_mem_nil⟩⟩⟩),
    hZ, kst_ok ht hZ (kS_Rf_ok sa), knar_ok ht, ktx_ok (kE_Rf_ok sa)⟩
set_option maxRecDepth 100000 in
theorem ki_Rf_textAt : Cond.instanceMethod ⟨"RoutingField", "textAt", "(I)I"⟩ ∈ pw_T := (pw_in 1905 (by decide +kernel) rfl)
set_option maxRecDepth 100000 in
theorem ks_Rf_textAt : Cond.selects "RoutingField" ⟨"RoutingField", "textAt", "(I)I"⟩ ⟨"RoutingField", "textAt", "(I)I"⟩ ∈ pw_T := (pw_in 1906 (by decide +kernel) rfl)
set_option maxRecDepth 100000 in
theorem ko_Rf_textAt : Cond.code ⟨"RoutingField", "textAt", "(I)I"⟩ prog_1_method_16_code 2 (some .int) ∈ pw_T := (pw_in 1907 rfl rfl)
set_option maxRecDepth 100000 in
theorem kD_Rf_textAt : ∀ q ∈ kC_Rf_textAt, decode prog_1_method_16_code q.1 = .ok (q.2, pm_len q.1 q.2) := by decide +kernel
set_option maxRecDepth 100000 in
theorem kW_Rf_textAt (l : Launch) (D : va_G) (base : Nat) (sa : Nat → Nat) : pm_Met l D kcl base (kZ sa) ⟨"RoutingField", "textAt", "(I)I"⟩ (.code ⟨"RoutingField", "textAt", "(I)I"⟩ prog_1_method_16_code 2 (some .int) :: pw_T) 1 21 (kP_Rf_textAt base sa) := by
  refine pm_met (by decide) rfl rfl ?_
  intro mc ms p e s m args below meth c hx hb hml hown hnm hts hbs hZ
  have ht : ∀ w ∈ pw_T, w.before args s = true := fun w h => hts w (List.mem_cons_of_mem _ h)
  exact ⟨hx, hb, hown, hbs, pm_look_all kD_Rf_textAt, kf_ok (init := false) ht hZ kF_Rf_ok (fun h => by cases h), km_ok ht kM_Rf_ok, kci_ok ht kI_Rf_ok, kli_ok ht kJ_Rf_ok, kar_ok ht hZ kA_Rf_ok,
    pm_look_all (List.forall_mem_cons.mpr ⟨pm_cokV hbs hZ ⟨hx, hb, hml, hown, hts⟩ (kW_By_at l D base sa) (fun mc ms => cwV 1 hts (pw_gV (pw_in 384 (w := .methodLink "RoutingField" 111 ⟨"RoutingField$Bytes", "at", "(I)I"⟩) (by decide +kernel) rfl) ki_By_at ks_By_at kn_By ko_By_at) rfl rfl rfl (by decide +kernel) ⟨Nat.le_of_ble_eq_true rfl, Nat.le_of_ble_eq_true rfl⟩) (ci := 0) rfl, fun _ h => absurd h List.not_mem_nil⟩),
    hZ, kst_ok ht hZ (kS_Rf_ok sa), knar_ok ht, ktx_ok (kE_Rf_ok sa)⟩
set_option maxRecDepth 100000 in
theorem ki_Rf_count : Cond.instanceMethod ⟨"RoutingField", "count", "(II)I"⟩ ∈ pw_T := (pw_in 1885 (by decide +kernel) rfl)
set_option maxRecDepth 100000 in
theorem ks_Rf_count : Cond.selects "RoutingField" ⟨"RoutingField", "count", "(II)I"⟩ ⟨"RoutingField", "count", "(II)I"⟩ ∈ pw_T := (pw_in 1886 (by decide +kernel) rfl)
set_option maxRecDepth 100000 in
theorem ko_Rf_count : Cond.code ⟨"RoutingField", "count", "(II)I"⟩ prog_1_method_17_code 4 (some .int) ∈ pw_T := (pw_in 1887 rfl rfl)
set_option maxRecDepth 100000 in
theorem kD_Rf_count : ∀ q ∈ kC_Rf_count, decode prog_1_method_17_code q.1 = .ok (q.2, pm_len q.1 q.2) := by decide +kernel
set_option maxRecDepth 100000 in
theorem kW_Rf_count (l : Launch) (D : va_G) (base : Nat) (sa : Nat → Nat) : pm_Met l D kcl base (kZ sa) ⟨"RoutingField", "count", "(II)I"⟩ (.code ⟨"RoutingField", "count", "(II)I"⟩ prog_1_method_17_code 4 (some .int) :: pw_T) 1 21 (kP_Rf_count base sa) := by
  refine pm_met (by decide) rfl rfl ?_
  intro mc ms p e s m args below meth c hx hb hml hown hnm hts hbs hZ
  have ht : ∀ w ∈ pw_T, w.before args s = true := fun w h => hts w (List.mem_cons_of_mem _ h)
  exact ⟨hx, hb, hown, hbs, pm_look_all kD_Rf_count, kf_ok (init := false) ht hZ kF_Rf_ok (fun h => by cases h), km_ok ht kM_Rf_ok, kci_ok ht kI_Rf_ok, kli_ok ht kJ_Rf_ok, kar_ok ht hZ kA_Rf_ok,
    pm_look_all (List.forall_mem_cons.mpr ⟨pm_cokV hbs hZ ⟨hx, hb, hml, hown, hts⟩ (kW_Rf_routerAt l D base sa) (fun mc ms => cwV 1 hts (pw_gV (pw_in 1648 (w := .methodLink "RoutingField" 152 ⟨"RoutingField", "routerAt", "(I)LRoutingField$Router;"⟩) (by decide +kernel) rfl) ki_Rf_routerAt ks_Rf_routerAt kn_Rf ko_Rf_routerAt) rfl rfl rfl (by decide +kernel) ⟨Nat.le_of_ble_eq_true rfl, Nat.le_of_ble_eq_true rfl⟩) (ci := 11) rfl, fun _ h => absurd h List.not_mem_nil⟩),
    hZ, kst_ok ht hZ (kS_Rf_ok sa), knar_ok ht, ktx_ok (kE_Rf_ok sa)⟩
set_option maxRecDepth 100000 in
theorem ki_Rf_routes : Cond.instanceMethod ⟨"RoutingField", "routes", "(I)I"⟩ ∈ pw_T := (pw_in 1889 (by decide +kernel) rfl)
set_option maxRecDepth 100000 in
theorem ks_Rf_routes : Cond.selects "RoutingField" ⟨"RoutingField", "routes", "(I)I"⟩ ⟨"RoutingField", "routes", "(I)I"⟩ ∈ pw_T := (pw_in 1890 (by decide +kernel) rfl)
set_option maxRecDepth 100000 in
theorem ko_Rf_routes : Cond.code ⟨"RoutingField", "routes", "(I)I"⟩ prog_1_method_18_code 3 (some .int) ∈ pw_T := (pw_in 1891 rfl rfl)
set_option maxRecDepth 100000 in
theorem kD_Rf_routes : ∀ q ∈ kC_Rf_routes, decode prog_1_method_18_code q.1 = .ok (q.2, pm_len q.1 q.2) := by decide +kernel
set_option maxRecDepth 100000 in
theorem kW_Rf_routes (l : Launch) (D : va_G) (base : Nat) (sa : Nat → Nat) : pm_Met l D kcl base (kZ sa) ⟨"RoutingField", "routes", "(I)I"⟩ (.code ⟨"RoutingField", "routes", "(I)I"⟩ prog_1_method_18_code 3 (some .int) :: pw_T) 1 21 (kP_Rf_routes base sa) := by
  refine pm_met (by decide) rfl rfl ?_
  intro mc ms p e s m args below meth c hx hb hml hown hnm hts hbs hZ
  have ht : ∀ w ∈ pw_T, w.before args s = true := fun w h => hts w (List.mem_cons_of_mem _ h)
  exact ⟨hx, hb, hown, hbs, pm_look_all kD_Rf_routes, kf_ok (init := false) ht hZ kF_Rf_ok (fun h => by cases h), km_ok ht kM_Rf_ok, kci_ok ht kI_Rf_ok, kli_ok ht kJ_Rf_ok, kar_ok ht hZ kA_Rf_ok,
    pm_look_all (List.forall_mem_cons.mpr ⟨pm_cokV hbs hZ ⟨hx, hb, hml, hown, hts⟩ (kW_Rf_routerAt l D base sa) (fun mc ms => cwV 1 hts (pw_gV (pw_in 1648 (w := .methodLink "RoutingField" 152 ⟨"RoutingField", "routerAt", "(I)LRoutingField$Router;"⟩) (by decide +kernel) rfl) ki_Rf_routerAt ks_Rf_routerAt kn_Rf ko_Rf_routerAt) rfl rfl rfl (by decide +kernel) ⟨Nat.le_of_ble_eq_true rfl, Nat.le_of_ble_eq_true rfl⟩) (ci := 11) rfl, fun _ h => absurd h List.not_mem_nil⟩),
    hZ, kst_ok ht hZ (kS_Rf_ok sa), knar_ok ht, ktx_ok (kE_Rf_ok sa)⟩
set_option maxRecDepth 100000 in
theorem ki_Rf_flying : Cond.instanceMethod ⟨"RoutingField", "flying", "()I"⟩ ∈ pw_T := (pw_in 1893 (by decide +kernel) rfl)
set_option maxRecDepth 100000 in
theorem ks_Rf_flying : Cond.selects "RoutingField" ⟨"RoutingField", "flying", "()I"⟩ ⟨"RoutingField", "flying", "()I"⟩ ∈ pw_T := (pw_in 1894 (by decide +kernel) rfl)
set_option maxRecDepth 100000 in
theorem ko_Rf_flying : Cond.code ⟨"RoutingField", "flying", "()I"⟩ prog_1_method_19_code 1 (some .int) ∈ pw_T := (pw_in 1895 rfl rfl)
set_option maxRecDepth 100000 in
theorem kD_Rf_flying : ∀ q ∈ kC_Rf_flying, decode prog_1_method_19_code q.1 = .ok (q.2, pm_len q.1 q.2) := by decide +kernel
set_option maxRecDepth 100000 in
theorem kW_Rf_flying (l : Launch) (D : va_G) (base : Nat) (sa : Nat → Nat) : pm_Met l D kcl base (kZ sa) ⟨"RoutingField", "flying", "()I"⟩ (.code ⟨"RoutingField", "flying", "()I"⟩ prog_1_method_19_code 1 (some .int) :: pw_T) 0 0 (kP_Rf_flying base sa) := by
  refine pm_met (by decide) rfl rfl ?_
  intro mc ms p e s m args below meth c hx hb hml hown hnm hts hbs hZ
  have ht : ∀ w ∈ pw_T, w.before args s = true := fun w h => hts w (List.mem_cons_of_mem _ h)
  exact ⟨hx, hb, hown, hbs, pm_look_all kD_Rf_flying, kf_ok (init := false) ht hZ kF_Rf_ok (fun h => by cases h), km_ok ht kM_Rf_ok, kci_ok ht kI_Rf_ok, kli_ok ht kJ_Rf_ok, kar_ok ht hZ kA_Rf_ok,
    pm_look_all (fun _ h => absurd h List.not_mem_nil),
    hZ, kst_ok ht hZ (kS_Rf_ok sa), knar_ok ht, ktx_ok (kE_Rf_ok sa)⟩
set_option maxRecDepth 100000 in
theorem ki_Rf_now : Cond.instanceMethod ⟨"RoutingField", "now", "()I"⟩ ∈ pw_T := (pw_in 1897 (by decide +kernel) rfl)
set_option maxRecDepth 100000 in
theorem ks_Rf_now : Cond.selects "RoutingField" ⟨"RoutingField", "now", "()I"⟩ ⟨"RoutingField", "now", "()I"⟩ ∈ pw_T := (pw_in 1898 (by decide +kernel) rfl)
set_option maxRecDepth 100000 in
theorem ko_Rf_now : Cond.code ⟨"RoutingField", "now", "()I"⟩ prog_1_method_20_code 1 (some .int) ∈ pw_T := (pw_in 1899 rfl rfl)
set_option maxRecDepth 100000 in
theorem kD_Rf_now : ∀ q ∈ kC_Rf_now, decode prog_1_method_20_code q.1 = .ok (q.2, pm_len q.1 q.2) := by decide +kernel
set_option maxRecDepth 100000 in
theorem kW_Rf_now (l : Launch) (D : va_G) (base : Nat) (sa : Nat → Nat) : pm_Met l D kcl base (kZ sa) ⟨"RoutingField", "now", "()I"⟩ (.code ⟨"RoutingField", "now", "()I"⟩ prog_1_method_20_code 1 (some .int) :: pw_T) 0 0 (kP_Rf_now base sa) := by
  refine pm_met (by decide) rfl rfl ?_
  intro mc ms p e s m args below meth c hx hb hml hown hnm hts hbs hZ
  have ht : ∀ w ∈ pw_T, w.before args s = true := fun w h => hts w (List.mem_cons_of_mem _ h)
  exact ⟨hx, hb, hown, hbs, pm_look_all kD_Rf_now, kf_ok (init := false) ht hZ kF_Rf_ok (fun h => by cases h), km_ok ht kM_Rf_ok, kci_ok ht kI_Rf_ok, kli_ok ht kJ_Rf_ok, kar_ok ht hZ kA_Rf_ok,
    pm_look_all (fun _ h => absurd h List.not_mem_nil),
    hZ, kst_ok ht hZ (kS_Rf_ok sa), knar_ok ht, ktx_ok (kE_Rf_ok sa)⟩
