set_option maxRecDepth 100000 in
theorem ki_Rr_hearAgain : Cond.instanceMethod ⟨"RoutingField$Router", "hearAgain", "(LRoutingField$Route;LRoutingField$Datagram;ILRoutingField$Port;I)V"⟩ ∈ pw_T := (pw_in 1577 (by decide +kernel) rfl)
set_option maxRecDepth 100000 in
theorem ks_Rr_hearAgain : Cond.selects "RoutingField$Router" ⟨"RoutingField$Router", "hearAgain", "(LRoutingField$Route;LRoutingField$Datagram;ILRoutingField$Port;I)V"⟩ ⟨"RoutingField$Router", "hearAgain", "(LRoutingField$Route;LRoutingField$Datagram;ILRoutingField$Port;I)V"⟩ ∈ pw_T := (pw_sel 77 (q := (⟨"RoutingField$Router", "hearAgain", "(LRoutingField$Route;LRoutingField$Datagram;ILRoutingField$Port;I)V"⟩, 20)) (by decide +kernel))
set_option maxRecDepth 100000 in
theorem ko_Rr_hearAgain : Cond.code ⟨"RoutingField$Router", "hearAgain", "(LRoutingField$Route;LRoutingField$Datagram;ILRoutingField$Port;I)V"⟩ prog_11_method_37_code 11 none ∈ pw_T := (pw_in 1578 rfl rfl)
set_option maxRecDepth 100000 in
theorem kD_Rr_hearAgain_0 : ∀ q ∈ kC_Rr_hearAgain_0, decode prog_11_method_37_code q.1 = .ok (q.2, pm_len q.1 q.2) := by decide +kernel
set_option maxRecDepth 100000 in
theorem kD_Rr_hearAgain_1 : ∀ q ∈ kC_Rr_hearAgain_1, decode prog_11_method_37_code q.1 = .ok (q.2, pm_len q.1 q.2) := by decide +kernel
set_option maxRecDepth 100000 in
theorem kD_Rr_hearAgain_2 : ∀ q ∈ kC_Rr_hearAgain_2, decode prog_11_method_37_code q.1 = .ok (q.2, pm_len q.1 q.2) := by decide +kernel
theorem kD_Rr_hearAgain : ∀ q ∈ kC_Rr_hearAgain, decode prog_11_method_37_code q.1 = .ok (q.2, pm_len q.1 q.2) := List.forall_mem_append.mpr ⟨kD_Rr_hearAgain_0, List.forall_mem_append.mpr ⟨kD_Rr_hearAgain_1, kD_Rr_hearAgain_2⟩⟩
set_option maxRecDepth 100000 in
theorem kW_Rr_hearAgain (l : Launch) (D : va_G) (base : Nat) (sa : Nat → Nat) : pm_Met l D kcl base (kZ sa) ⟨"RoutingField$Router", "hearAgain", "(LRoutingField$Route;LRoutingField$Datagram;ILRoutingField$Port;I)V"⟩ (.code ⟨"RoutingField$Router", "hearAgain", "(LRoutingField$Route;LRoutingField$Datagram;ILRoutingField$Port;I)V"⟩ prog_11_method_37_code 11 none :: pw_T) 3 72 (kP_Rr_hearAgain base sa) := by
  refine pm_met (by decide) rfl rfl ?_
  intro mc ms p e s m args below meth c hx hb hml hown hnm hts hbs hZ
  have ht : ∀ w ∈ pw_T, w.before args s = true := fun w h => hts w (List.mem_cons_of_mem _ h)
  exact ⟨hx, hb, hown, hbs, pm_look_all kD_Rr_hearAgain, kf_ok (init := false) ht hZ kF_Rr_ok (fun h => by cases h), km_ok ht kM_Rr_ok, kci_ok ht kI_Rr_ok, kli_ok ht kJ_Rr_ok, kar_ok ht hZ kA_Rr_ok,
    pm_look_all (List.forall_mem_cons.mpr ⟨pm_cokV hbs hZ ⟨hx, hb, hml, hown, hts⟩ (kW_Pr_sameAddress l D base sa) (fun mc ms => cwV 1 hts (pw_gV (pw_in 1386 (w := .methodLink "RoutingField$Router" 423 ⟨"RoutingField$Prefix", "sameAddress", "(LRoutingField$Prefix;)Z"⟩) (by decide +kernel) rfl) ki_Pr_sameAddress ks_Pr_sameAddress kn_Pr ko_Pr_sameAddress) rfl rfl rfl (by decide +kernel) ⟨Nat.le_of_ble_eq_true rfl, Nat.le_of_ble_eq_true rfl⟩) (ci := 5) rfl, List.forall_mem_cons.mpr ⟨pm_cokV hbs hZ ⟨hx, hb, hml, hown, hts⟩ (kW_Rr_startTimeout l D base sa) (fun mc ms => cwV 1 hts (pw_gV (pw_in 1579 (w := .methodLink "RoutingField$Router" 506 ⟨"RoutingField$Router", "startTimeout", "(LRoutingField$Route;)V"⟩) (by decide +kernel) rfl) ki_Rr_startTimeout ks_Rr_startTimeout kn_Rr ko_Rr_startTimeout) rfl rfl rfl (by decide +kernel) ⟨Nat.le_of_ble_eq_true rfl, Nat.le_of_ble_eq_true rfl⟩) (ci := 9) rfl, List.forall_mem_cons.mpr ⟨pm_cokV hbs hZ ⟨hx, hb, hml, hown, hts⟩ (kW_Rr_take l D base sa) (fun mc ms => cwV 5 hts (pw_gV (pw_in 1583 (w := .methodLink "RoutingField$Router" 499 ⟨"RoutingField$Router", "take", "(LRoutingField$Route;LRoutingField$Datagram;ILRoutingField$Port;I)V"⟩) (by decide +kernel) rfl) ki_Rr_take ks_Rr_take kn_Rr ko_Rr_take) rfl rfl rfl (by decide +kernel) ⟨Nat.le_of_ble_eq_true rfl, Nat.le_of_ble_eq_true rfl⟩) (ci := 9) rfl, fun _ h => absurd h List.not_mem_nil⟩⟩⟩),
    hZ, kst_ok ht hZ (kS_Rr_ok sa), knar_ok ht, ktx_ok (kE_Rr_ok sa)⟩
set_option maxRecDepth 100000 in
theorem ki_Ta_totalOf : Cond.instanceMethod ⟨"RoutingField$Table", "totalOf", "(I)I"⟩ ∈ pw_T := (pw_in 1592 (by decide +kernel) rfl)
set_option maxRecDepth 100000 in
theorem ks_Ta_totalOf : Cond.selects "RoutingField$Table" ⟨"RoutingField$Table", "totalOf", "(I)I"⟩ ⟨"RoutingField$Table", "totalOf", "(I)I"⟩ ∈ pw_T := (pw_in 1593 (by decide +kernel) rfl)
set_option maxRecDepth 100000 in
theorem ko_Ta_totalOf : Cond.code ⟨"RoutingField$Table", "totalOf", "(I)I"⟩ prog_12_method_8_code 4 (some .int) ∈ pw_T := (pw_in 1594 rfl rfl)
set_option maxRecDepth 100000 in
theorem kD_Ta_totalOf : ∀ q ∈ kC_Ta_totalOf, decode prog_12_method_8_code q.1 = .ok (q.2, pm_len q.1 q.2) := by decide +kernel
set_option maxRecDepth 100000 in
theorem kW_Ta_totalOf (l : Launch) (D : va_G) (base : Nat) (sa : Nat → Nat) : pm_Met l D kcl base (kZ sa) ⟨"RoutingField$Table", "totalOf", "(I)I"⟩ (.code ⟨"RoutingField$Table", "totalOf", "(I)I"⟩ prog_12_method_8_code 4 (some .int) :: pw_T) 0 0 (kP_Ta_totalOf base sa) := by
  refine pm_met (by decide) rfl rfl ?_
  intro mc ms p e s m args below meth c hx hb hml hown hnm hts hbs hZ
  have ht : ∀ w ∈ pw_T, w.before args s = true := fun w h => hts w (List.mem_cons_of_mem _ h)
  exact ⟨hx, hb, hown, hbs, pm_look_all kD_Ta_totalOf, kf_ok (init := false) ht hZ kF_Ta_ok (fun h => by cases h), km_ok ht kM_Ta_ok, kci_ok ht kI_Ta_ok, kli_ok ht kJ_Ta_ok, kar_ok ht hZ kA_Ta_ok,
    pm_look_all (fun _ h => absurd h List.not_mem_nil),
    hZ, kst_ok ht hZ (kS_Ta_ok sa), knar_ok ht, ktx_ok (kE_Ta_ok sa)⟩
set_option maxRecDepth 100000 in
theorem ki_Rr_hearEntry : Cond.instanceMethod ⟨"RoutingField$Router", "hearEntry", "(LRoutingField$Datagram;ILRoutingField$Port;)V"⟩ ∈ pw_T := (pw_in 1565 (by decide +kernel) rfl)
set_option maxRecDepth 100000 in
theorem ks_Rr_hearEntry : Cond.selects "RoutingField$Router" ⟨"RoutingField$Router", "hearEntry", "(LRoutingField$Datagram;ILRoutingField$Port;)V"⟩ ⟨"RoutingField$Router", "hearEntry", "(LRoutingField$Datagram;ILRoutingField$Port;)V"⟩ ∈ pw_T := (pw_sel 76 (q := (⟨"RoutingField$Router", "hearEntry", "(LRoutingField$Datagram;ILRoutingField$Port;)V"⟩, 20)) (by decide +kernel))
set_option maxRecDepth 100000 in
theorem ko_Rr_hearEntry : Cond.code ⟨"RoutingField$Router", "hearEntry", "(LRoutingField$Datagram;ILRoutingField$Port;)V"⟩ prog_11_method_36_code 9 none ∈ pw_T := (pw_in 1566 rfl rfl)
set_option maxRecDepth 100000 in
theorem kD_Rr_hearEntry_0 : ∀ q ∈ kC_Rr_hearEntry_0, decode prog_11_method_36_code q.1 = .ok (q.2, pm_len q.1 q.2) := by decide +kernel
set_option maxRecDepth 100000 in
theorem kD_Rr_hearEntry_1 : ∀ q ∈ kC_Rr_hearEntry_1, decode prog_11_method_36_code q.1 = .ok (q.2, pm_len q.1 q.2) := by decide +kernel
theorem kD_Rr_hearEntry : ∀ q ∈ kC_Rr_hearEntry, decode prog_11_method_36_code q.1 = .ok (q.2, pm_len q.1 q.2) := List.forall_mem_append.mpr ⟨kD_Rr_hearEntry_0, kD_Rr_hearEntry_1⟩
set_option maxRecDepth 100000 in
theorem kW_Rr_hearEntry (l : Launch) (D : va_G) (base : Nat) (sa : Nat → Nat) : pm_Met l D kcl base (kZ sa) ⟨"RoutingField$Router", "hearEntry", "(LRoutingField$Datagram;ILRoutingField$Port;)V"⟩ (.code ⟨"RoutingField$Router", "hearEntry", "(LRoutingField$Datagram;ILRoutingField$Port;)V"⟩ prog_11_method_36_code 9 none :: pw_T) 4 102 (kP_Rr_hearEntry base sa) := by
  refine pm_met (by decide) rfl rfl ?_
  intro mc ms p e s m args below meth c hx hb hml hown hnm hts hbs hZ
  have ht : ∀ w ∈ pw_T, w.before args s = true := fun w h => hts w (List.mem_cons_of_mem _ h)
  exact ⟨hx, hb, hown, hbs, pm_look_all kD_Rr_hearEntry, kf_ok (init := false) ht hZ kF_Rr_ok (fun h => by cases h), km_ok ht kM_Rr_ok, kci_ok ht kI_Rr_ok, kli_ok ht kJ_Rr_ok, kar_ok ht hZ kA_Rr_ok,
    pm_look_all (List.forall_mem_cons.mpr ⟨pm_cokV hbs hZ ⟨hx, hb, hml, hown, hts⟩ (kW_Da_metricAt l D base sa) (fun mc ms => cwV 1 hts (pw_gV (pw_in 1561 (w := .methodLink "RoutingField$Router" 474 ⟨"RoutingField$Datagram", "metricAt", "(I)J"⟩) (by decide +kernel) rfl) ki_Da_metricAt ks_Da_metricAt kn_Da ko_Da_metricAt) rfl rfl rfl (by decide +kernel) ⟨Nat.le_of_ble_eq_true rfl, Nat.le_of_ble_eq_true rfl⟩) (ci := 2) rfl, List.forall_mem_cons.mpr ⟨pm_cokV hbs hZ ⟨hx, hb, hml, hown, hts⟩ (kW_Da_takePrefix l D base sa) (fun mc ms => cwV 2 hts (pw_gV (pw_in 1532 (w := .methodLink "RoutingField$Router" 454 ⟨"RoutingField$Datagram", "takePrefix", "(ILRoutingField$Prefix;)Z"⟩) (by decide +kernel) rfl) ki_Da_takePrefix ks_Da_takePrefix kn_Da ko_Da_takePrefix) rfl rfl rfl (by decide +kernel) ⟨Nat.le_of_ble_eq_true rfl, Nat.le_of_ble_eq_true rfl⟩) (ci := 2) rfl, List.forall_mem_cons.mpr ⟨pm_cokV hbs hZ ⟨hx, hb, hml, hown, hts⟩ (kW_Pr_isForbidden l D base sa) (fun mc ms => cwV 0 hts (pw_gV (pw_in 1567 (w := .methodLink "RoutingField$Router" 489 ⟨"RoutingField$Prefix", "isForbidden", "()Z"⟩) (by decide +kernel) rfl) ki_Pr_isForbidden ks_Pr_isForbidden kn_Pr ko_Pr_isForbidden) rfl rfl rfl (by decide +kernel) ⟨Nat.le_of_ble_eq_true rfl, Nat.le_of_ble_eq_true rfl⟩) (ci := 5) rfl, List.forall_mem_cons.mpr ⟨pm_cokV hbs hZ ⟨hx, hb, hml, hown, hts⟩ (kW_Rr_refuses l D base sa) (fun mc ms => cwV 3 hts (pw_gV (pw_in 1477 (w := .methodLink "RoutingField$Router" 318 ⟨"RoutingField$Router", "refuses", "(ILRoutingField$Link;LRoutingField$Prefix;)Z"⟩) (by decide +kernel) rfl) ki_Rr_refuses ks_Rr_refuses kn_Rr ko_Rr_refuses) rfl rfl rfl (by decide +kernel) ⟨Nat.le_of_ble_eq_true rfl, Nat.le_of_ble_eq_true rfl⟩) (ci := 9) rfl, List.forall_mem_cons.mpr ⟨pm_cokV hbs hZ ⟨hx, hb, hml, hown, hts⟩ (kW_Rr_raised l D base sa) (fun mc ms => cwV 4 hts (pw_gV (pw_in 1491 (w := .methodLink "RoutingField$Router" 325 ⟨"RoutingField$Router", "raised", "(IILRoutingField$Link;LRoutingField$Prefix;)I"⟩) (by decide +kernel) rfl) ki_Rr_raised ks_Rr_raised kn_Rr ko_Rr_raised) rfl rfl rfl (by decide +kernel) ⟨Nat.le_of_ble_eq_true rfl, Nat.le_of_ble_eq_true rfl⟩) (ci := 9) rfl, List.forall_mem_cons.mpr ⟨pm_cokV hbs hZ ⟨hx, hb, hml, hown, hts⟩ (kW_Ta_find l D base sa) (fun mc ms => cwV 1 hts (pw_gV (pw_in 1000 (w := .methodLink "RoutingField$Router" 150 ⟨"RoutingField$Table", "find", "(LRoutingField$Prefix;)LRoutingField$Route;"⟩) (by decide +kernel) rfl) ki_Ta_find ks_Ta_find kn_Ta ko_Ta_find) rfl rfl rfl (by decide +kernel) ⟨Nat.le_of_ble_eq_true rfl, Nat.le_of_ble_eq_true rfl⟩) (ci := 10) rfl, List.forall_mem_cons.mpr ⟨pm_cokV hbs hZ ⟨hx, hb, hml, hown, hts⟩ (kW_Rr_hearAgain l D base sa) (fun mc ms => cwV 5 hts (pw_gV (pw_in 1575 (w := .methodLink "RoutingField$Router" 492 ⟨"RoutingField$Router", "hearAgain", "(LRoutingField$Route;LRoutingField$Datagram;ILRoutingField$Port;I)V"⟩) (by decide +kernel) rfl) ki_Rr_hearAgain ks_Rr_hearAgain kn_Rr ko_Rr_hearAgain) rfl rfl rfl (by decide +kernel) ⟨Nat.le_of_ble_eq_true rfl, Nat.le_of_ble_eq_true rfl⟩) (ci := 9) rfl, List.forall_mem_cons.mpr ⟨pm_cokV hbs hZ ⟨hx, hb, hml, hown, hts⟩ (kW_Ta_totalOf l D base sa) (fun mc ms => cwV 1 hts (pw_gV (pw_in 1591 (w := .methodLink "RoutingField$Router" 496 ⟨"RoutingField$Table", "totalOf", "(I)I"⟩) (by decide +kernel) rfl) ki_Ta_totalOf ks_Ta_totalOf kn_Ta ko_Ta_totalOf) rfl rfl rfl (by decide +kernel) ⟨Nat.le_of_ble_eq_true rfl, Nat.le_of_ble_eq_true rfl⟩) (ci := 10) rfl, List.forall_mem_cons.mpr ⟨pm_cokV hbs hZ ⟨hx, hb, hml, hown, hts⟩ (kW_Ta_add l D base sa) (fun mc ms => cwV 3 hts (pw_gV (pw_in 1029 (w := .methodLink "RoutingField$Router" 157 ⟨"RoutingField$Table", "add", "(LRoutingField$Prefix;II)LRoutingField$Route;"⟩) (by decide +kernel) rfl) ki_Ta_add ks_Ta_add kn_Ta ko_Ta_add) rfl rfl rfl (by decide +kernel) ⟨Nat.le_of_ble_eq_true rfl, Nat.le_of_ble_eq_true rfl⟩) (ci := 10) rfl, List.forall_mem_cons.mpr ⟨pm_cokV hbs hZ ⟨hx, hb, hml, hown, hts⟩ (kW_Rr_take l D base sa) (fun mc ms => cwV 5 hts (pw_gV (pw_in 1583 (w := .methodLink "RoutingField$Router" 499 ⟨"RoutingField$Router", "take", "(LRoutingField$Route;LRoutingField$Datagram;ILRoutingField$Port;I)V"⟩) (by decide +kernel) rfl) ki_Rr_take ks_Rr_take kn_Rr ko_Rr_take) rfl rfl rfl (by decide +kernel) ⟨Nat.le_of_ble_eq_true rfl, Nat.le_of_ble_eq_true rfl⟩) (ci := 9) rfl, fun _ h => absurd h List.not_mem_nil⟩⟩⟩⟩⟩⟩⟩⟩⟩⟩),
    hZ, kst_ok ht hZ (kS_Rr_ok sa), knar_ok ht, ktx_ok (kE_Rr_ok sa)⟩
set_option maxRecDepth 100000 in
theorem ki_Rr_hearResponse : Cond.instanceMethod ⟨"RoutingField$Router", "hearResponse", "(LRoutingField$Datagram;LRoutingField$Port;)V"⟩ ∈ pw_T := (pw_in 1552 (by decide +kernel) rfl)
set_option maxRecDepth 100000 in
theorem ks_Rr_hearResponse : Cond.selects "RoutingField$Router" ⟨"RoutingField$Router", "hearResponse", "(LRoutingField$Datagram;LRoutingField$Port;)V"⟩ ⟨"RoutingField$Router", "hearResponse", "(LRoutingField$Datagram;LRoutingField$Port;)V"⟩ ∈ pw_T := (pw_in 1553 (by decide +kernel) rfl)
set_option maxRecDepth 100000 in
theorem ko_Rr_hearResponse : Cond.code ⟨"RoutingField$Router", "hearResponse", "(LRoutingField$Datagram;LRoutingField$Port;)V"⟩ prog_11_method_34_code 4 none ∈ pw_T := (pw_in 1554 rfl rfl)
set_option maxRecDepth 100000 in
theorem kD_Rr_hearResponse : ∀ q ∈ kC_Rr_hearResponse, decode prog_11_method_34_code q.1 = .ok (q.2, pm_len q.1 q.2) := by decide +kernel
set_option maxRecDepth 100000 in
theorem kW_Rr_hearResponse (l : Launch) (D : va_G) (base : Nat) (sa : Nat → Nat) : pm_Met l D kcl base (kZ sa) ⟨"RoutingField$Router", "hearResponse", "(LRoutingField$Datagram;LRoutingField$Port;)V"⟩ (.code ⟨"RoutingField$Router", "hearResponse", "(LRoutingField$Datagram;LRoutingField$Port;)V"⟩ prog_11_method_34_code 4 none :: pw_T) 5 130 (kP_Rr_hearResponse base sa) := by
  refine pm_met (by decide) rfl rfl ?_
  intro mc ms p e s m args below meth c hx hb hml hown hnm hts hbs hZ
  have ht : ∀ w ∈ pw_T, w.before args s = true := fun w h => hts w (List.mem_cons_of_mem _ h)
  exact ⟨hx, hb, hown, hbs, pm_look_all kD_Rr_hearResponse, kf_ok (init := false) ht hZ kF_Rr_ok (fun h => by cases h), km_ok ht kM_Rr_ok, kci_ok ht kI_Rr_ok, kli_ok ht kJ_Rr_ok, kar_ok ht hZ kA_Rr_ok,
    pm_look_all (List.forall_mem_cons.mpr ⟨pm_cokV hbs hZ ⟨hx, hb, hml, hown, hts⟩ (kW_Pr_copy l D base sa) (fun mc ms => cwV 1 hts (pw_gV (pw_in 979 (w := .methodLink "RoutingField$Router" 185 ⟨"RoutingField$Prefix", "copy", "(LRoutingField$Prefix;)V"⟩) (by decide +kernel) rfl) ki_Pr_copy ks_Pr_copy kn_Pr ko_Pr_copy) rfl rfl rfl (by decide +kernel) ⟨Nat.le_of_ble_eq_true rfl, Nat.le_of_ble_eq_true rfl⟩) (ci := 5) rfl, List.forall_mem_cons.mpr ⟨pm_cokV hbs hZ ⟨hx, hb, hml, hown, hts⟩ (kW_Rr_takeHop l D base sa) (fun mc ms => cwV 3 hts (pw_gV (pw_in 1555 (w := .methodLink "RoutingField$Router" 470 ⟨"RoutingField$Router", "takeHop", "(LRoutingField$Datagram;ILRoutingField$Port;)V"⟩) (by decide +kernel) rfl) ki_Rr_takeHop ks_Rr_takeHop kn_Rr ko_Rr_takeHop) rfl rfl rfl (by decide +kernel) ⟨Nat.le_of_ble_eq_true rfl, Nat.le_of_ble_eq_true rfl⟩) (ci := 9) rfl, List.forall_mem_cons.mpr ⟨pm_cokV hbs hZ ⟨hx, hb, hml, hown, hts⟩ (kW_Da_metricAt l D base sa) (fun mc ms => cwV 1 hts (pw_gV (pw_in 1561 (w := .methodLink "RoutingField$Router" 474 ⟨"RoutingField$Datagram", "metricAt", "(I)J"⟩) (by decide +kernel) rfl) ki_Da_metricAt ks_Da_metricAt kn_Da ko_Da_metricAt) rfl rfl rfl (by decide +kernel) ⟨Nat.le_of_ble_eq_true rfl, Nat.le_of_ble_eq_true rfl⟩) (ci := 2) rfl, List.forall_mem_cons.mpr ⟨pm_cokV hbs hZ ⟨hx, hb, hml, hown, hts⟩ (kW_Rr_hearEntry l D base sa) (fun mc ms => cwV 3 hts (pw_gV (pw_in 1563 (w := .methodLink "RoutingField$Router" 480 ⟨"RoutingField$Router", "hearEntry", "(LRoutingField$Datagram;ILRoutingField$Port;)V"⟩) (by decide +kernel) rfl) ki_Rr_hearEntry ks_Rr_hearEntry kn_Rr ko_Rr_hearEntry) rfl rfl rfl (by decide +kernel) ⟨Nat.le_of_ble_eq_true rfl, Nat.le_of_ble_eq_true rfl⟩) (ci := 9) rfl, fun _ h => absurd h List.not_mem_nil⟩⟩⟩⟩),
    hZ, kst_ok ht hZ (kS_Rr_ok sa), knar_ok ht, ktx_ok (kE_Rr_ok sa)⟩
set_option maxRecDepth 100000 in
theorem ki_Rf_giveBack : Cond.instanceMethod ⟨"RoutingField", "giveBack", "(LRoutingField$Datagram;)V"⟩ ∈ pw_T := (pw_in 1597 (by decide +kernel) rfl)
set_option maxRecDepth 100000 in
theorem ks_Rf_giveBack : Cond.selects "RoutingField" ⟨"RoutingField", "giveBack", "(LRoutingField$Datagram;)V"⟩ ⟨"RoutingField", "giveBack", "(LRoutingField$Datagram;)V"⟩ ∈ pw_T := (pw_sel 80 (q := (⟨"RoutingField", "giveBack", "(LRoutingField$Datagram;)V"⟩, 20)) (by decide +kernel))
set_option maxRecDepth 100000 in
theorem ko_Rf_giveBack : Cond.code ⟨"RoutingField", "giveBack", "(LRoutingField$Datagram;)V"⟩ prog_1_method_26_code 2 none ∈ pw_T := (pw_in 1598 rfl rfl)
set_option maxRecDepth 100000 in
theorem kD_Rf_giveBack : ∀ q ∈ kC_Rf_giveBack, decode prog_1_method_26_code q.1 = .ok (q.2, pm_len q.1 q.2) := by decide +kernel
set_option maxRecDepth 100000 in
theorem kW_Rf_giveBack (l : Launch) (D : va_G) (base : Nat) (sa : Nat → Nat) : pm_Met l D kcl base (kZ sa) ⟨"RoutingField", "giveBack", "(LRoutingField$Datagram;)V"⟩ (.code ⟨"RoutingField", "giveBack", "(LRoutingField$Datagram;)V"⟩ prog_1_method_26_code 2 none :: pw_T) 0 0 (kP_Rf_giveBack base sa) := by
  refine pm_met (by decide) rfl rfl ?_
  intro mc ms p e s m args below meth c hx hb hml hown hnm hts hbs hZ
  have ht : ∀ w ∈ pw_T, w.before args s = true := fun w h => hts w (List.mem_cons_of_mem _ h)
  exact ⟨hx, hb, hown, hbs, pm_look_all kD_Rf_giveBack, kf_ok (init := false) ht hZ kF_Rf_ok (fun h => by cases h), km_ok ht kM_Rf_ok, kci_ok ht kI_Rf_ok, kli_ok ht kJ_Rf_ok, kar_ok ht hZ kA_Rf_ok,
    pm_look_all (fun _ h => absurd h List.not_mem_nil),
    hZ, kst_ok ht hZ (kS_Rf_ok sa), knar_ok ht, ktx_ok (kE_Rf_ok sa)⟩
set_option maxRecDepth 100000 in
theorem ki_Rf_bringDue : Cond.instanceMethod ⟨"RoutingField", "bringDue", "()V"⟩ ∈ pw_T := (pw_in 1375 (by decide +kernel) rfl)
set_option maxRecDepth 100000 in
theorem ks_Rf_bringDue : Cond.selects "RoutingField" ⟨"RoutingField", "bringDue", "()V"⟩ ⟨"RoutingField", "bringDue", "()V"⟩ ∈ pw_T := (pw_sel 62 (q := (⟨"RoutingField", "bringDue", "()V"⟩, 20)) (by decide +kernel))
set_option maxRecDepth 100000 in
theorem ko_Rf_bringDue : Cond.code ⟨"RoutingField", "bringDue", "()V"⟩ prog_1_method_28_code 9 none ∈ pw_T := (pw_in 1376 rfl rfl)
set_option maxRecDepth 100000 in
theorem kD_Rf_bringDue_0 : ∀ q ∈ kC_Rf_bringDue_0, decode prog_1_method_28_code q.1 = .ok (q.2, pm_len q.1 q.2) := by decide +kernel
set_option maxRecDepth 100000 in
theorem kD_Rf_bringDue_1 : ∀ q ∈ kC_Rf_bringDue_1, decode prog_1_method_28_code q.1 = .ok (q.2, pm_len q.1 q.2) := by decide +kernel
theorem kD_Rf_bringDue : ∀ q ∈ kC_Rf_bringDue, decode prog_1_method_28_code q.1 = .ok (q.2, pm_len q.1 q.2) := List.forall_mem_append.mpr ⟨kD_Rf_bringDue_0, kD_Rf_bringDue_1⟩
set_option maxRecDepth 100000 in
theorem kW_Rf_bringDue (l : Launch) (D : va_G) (base : Nat) (sa : Nat → Nat) : pm_Met l D kcl base (kZ sa) ⟨"RoutingField", "bringDue", "()V"⟩ (.code ⟨"RoutingField", "bringDue", "()V"⟩ prog_1_method_28_code 9 none :: pw_T) 7 164 (kP_Rf_bringDue base sa) := by
  refine pm_met (by decide) rfl rfl ?_
  intro mc ms p e s m args below meth c hx hb hml hown hnm hts hbs hZ
  have ht : ∀ w ∈ pw_T, w.before args s = true := fun w h => hts w (List.mem_cons_of_mem _ h)
  exact ⟨hx, hb, hown, hbs, pm_look_all kD_Rf_bringDue, kf_ok (init := false) ht hZ kF_Rf_ok (fun h => by cases h), km_ok ht kM_Rf_ok, kci_ok ht kI_Rf_ok, kli_ok ht kJ_Rf_ok, kar_ok ht hZ kA_Rf_ok,
    pm_look_all (List.forall_mem_cons.mpr ⟨pm_cokV hbs hZ ⟨hx, hb, hml, hown, hts⟩ (kW_Rf_takeOut l D base sa) (fun mc ms => cwV 1 hts (pw_gV (pw_in 1377 (w := .methodLink "RoutingField" 301 ⟨"RoutingField", "takeOut", "(I)V"⟩) (by decide +kernel) rfl) ki_Rf_takeOut ks_Rf_takeOut kn_Rf ko_Rf_takeOut) rfl rfl rfl (by decide +kernel) ⟨Nat.le_of_ble_eq_true rfl, Nat.le_of_ble_eq_true rfl⟩) (ci := 11) rfl, List.forall_mem_cons.mpr ⟨pm_cokV hbs hZ ⟨hx, hb, hml, hown, hts⟩ (kW_Rr_hearer l D base sa) (fun mc ms => cwV 1 hts (pw_gV (pw_in 1381 (w := .methodLink "RoutingField" 304 ⟨"RoutingField$Router", "hearer", "(LRoutingField$Datagram;)LRoutingField$Port;"⟩) (by decide +kernel) rfl) ki_Rr_hearer ks_Rr_hearer kn_Rr ko_Rr_hearer) rfl rfl rfl (by decide +kernel) ⟨Nat.le_of_ble_eq_true rfl, Nat.le_of_ble_eq_true rfl⟩) (ci := 9) rfl, List.forall_mem_cons.mpr ⟨pm_cokV hbs hZ ⟨hx, hb, hml, hown, hts⟩ (kW_Rr_judge l D base sa) (fun mc ms => cwV 2 hts (pw_gV (pw_in 1390 (w := .methodLink "RoutingField" 308 ⟨"RoutingField$Router", "judge", "(LRoutingField$Datagram;LRoutingField$Port;)I"⟩) (by decide +kernel) rfl) ki_Rr_judge ks_Rr_judge kn_Rr ko_Rr_judge) rfl rfl rfl (by decide +kernel) ⟨Nat.le_of_ble_eq_true rfl, Nat.le_of_ble_eq_true rfl⟩) (ci := 9) rfl, List.forall_mem_cons.mpr ⟨pm_cokV hbs hZ ⟨hx, hb, hml, hown, hts⟩ (kW_By_at l D base sa) (fun mc ms => cwV 1 hts (pw_gV (pw_in 384 (w := .methodLink "RoutingField" 111 ⟨"RoutingField$Bytes", "at", "(I)I"⟩) (by decide +kernel) rfl) ki_By_at ks_By_at kn_By ko_By_at) rfl rfl rfl (by decide +kernel) ⟨Nat.le_of_ble_eq_true rfl, Nat.le_of_ble_eq_true rfl⟩) (ci := 0) rfl, List.forall_mem_cons.mpr ⟨pm_cokV hbs hZ ⟨hx, hb, hml, hown, hts⟩ (kW_Rr_answer l D base sa) (fun mc ms => cwV 2 hts (pw_gV (pw_in 1447 (w := .methodLink "RoutingField" 312 ⟨"RoutingField$Router", "answer", "(LRoutingField$Datagram;LRoutingField$Port;)V"⟩) (by decide +kernel) rfl) ki_Rr_answer ks_Rr_answer kn_Rr ko_Rr_answer) rfl rfl rfl (by decide +kernel) ⟨Nat.le_of_ble_eq_true rfl, Nat.le_of_ble_eq_true rfl⟩) (ci := 9) rfl, List.forall_mem_cons.mpr ⟨pm_cokV hbs hZ ⟨hx, hb, hml, hown, hts⟩ (kW_Rr_hearResponse l D base sa) (fun mc ms => cwV 2 hts (pw_gV (pw_in 1551 (w := .methodLink "RoutingField" 316 ⟨"RoutingField$Router", "hearResponse", "(LRoutingField$Datagram;LRoutingField$Port;)V"⟩) (by decide +kernel) rfl) ki_Rr_hearResponse ks_Rr_hearResponse kn_Rr ko_Rr_hearResponse) rfl rfl rfl (by decide +kernel) ⟨Nat.le_of_ble_eq_true rfl, Nat.le_of_ble_eq_true rfl⟩) (ci := 9) rfl, List.forall_mem_cons.mpr ⟨pm_cokV hbs hZ ⟨hx, hb, hml, hown, hts⟩ (kW_Rf_giveBack l D base sa) (fun mc ms => cwV 1 hts (pw_gV (pw_in 1595 (w := .methodLink "RoutingField" 283 ⟨"RoutingField", "giveBack", "(LRoutingField$Datagram;)V"⟩) (by decide +kernel) rfl) ki_Rf_giveBack ks_Rf_giveBack kn_Rf ko_Rf_giveBack) rfl rfl rfl (by decide +kernel) ⟨Nat.le_of_ble_eq_true rfl, Nat.le_of_ble_eq_true rfl⟩) (ci := 11) rfl, fun _ h => absurd h List.not_mem_nil⟩⟩⟩⟩⟩⟩⟩),
    hZ, kst_ok ht hZ (kS_Rf_ok sa), knar_ok ht, ktx_ok (kE_Rf_ok sa)⟩
set_option maxRecDepth 100000 in
theorem ki_Rr_age : Cond.instanceMethod ⟨"RoutingField$Router", "age", "()V"⟩ ∈ pw_T := (pw_in 1605 (by decide +kernel) rfl)
set_option maxRecDepth 100000 in
theorem ks_Rr_age : Cond.selects "RoutingField$Router" ⟨"RoutingField$Router", "age", "()V"⟩ ⟨"RoutingField$Router", "age", "()V"⟩ ∈ pw_T := (pw_sel 81 (q := (⟨"RoutingField$Router", "age", "()V"⟩, 20)) (by decide +kernel))
set_option maxRecDepth 100000 in
theorem ko_Rr_age : Cond.code ⟨"RoutingField$Router", "age", "()V"⟩ prog_11_method_16_code 6 none ∈ pw_T := (pw_in 1606 rfl rfl)
set_option maxRecDepth 100000 in
theorem kD_Rr_age_0 : ∀ q ∈ kC_Rr_age_0, decode prog_11_method_16_code q.1 = .ok (q.2, pm_len q.1 q.2) := by decide +kernel
set_option maxRecDepth 100000 in
theorem kD_Rr_age_1 : ∀ q ∈ kC_Rr_age_1, decode prog_11_method_16_code q.1 = .ok (q.2, pm_len q.1 q.2) := by decide +kernel
theorem kD_Rr_age : ∀ q ∈ kC_Rr_age, decode prog_11_method_16_code q.1 = .ok (q.2, pm_len q.1 q.2) := List.forall_mem_append.mpr ⟨kD_Rr_age_0, kD_Rr_age_1⟩
set_option maxRecDepth 100000 in
theorem kW_Rr_age (l : Launch) (D : va_G) (base : Nat) (sa : Nat → Nat) : pm_Met l D kcl base (kZ sa) ⟨"RoutingField$Router", "age", "()V"⟩ (.code ⟨"RoutingField$Router", "age", "()V"⟩ prog_11_method_16_code 6 none :: pw_T) 2 43 (kP_Rr_age base sa) := by
  refine pm_met (by decide) rfl rfl ?_
  intro mc ms p e s m args below meth c hx hb hml hown hnm hts hbs hZ
  have ht : ∀ w ∈ pw_T, w.before args s = true := fun w h => hts w (List.mem_cons_of_mem _ h)
  exact ⟨hx, hb, hown, hbs, pm_look_all kD_Rr_age, kf_ok (init := false) ht hZ kF_Rr_ok (fun h => by cases h), km_ok ht kM_Rr_ok, kci_ok ht kI_Rr_ok, kli_ok ht kJ_Rr_ok, kar_ok ht hZ kA_Rr_ok,
    pm_look_all (List.forall_mem_cons.mpr ⟨pm_cokV hbs hZ ⟨hx, hb, hml, hown, hts⟩ (kW_Ta_remove l D base sa) (fun mc ms => cwV 1 hts (pw_gV (pw_in 1607 (w := .methodLink "RoutingField$Router" 226 ⟨"RoutingField$Table", "remove", "(I)V"⟩) (by decide +kernel) rfl) ki_Ta_remove ks_Ta_remove kn_Ta ko_Ta_remove) rfl rfl rfl (by decide +kernel) ⟨Nat.le_of_ble_eq_true rfl, Nat.le_of_ble_eq_true rfl⟩) (ci := 10) rfl, List.forall_mem_cons.mpr ⟨pm_cokV hbs hZ ⟨hx, hb, hml, hown, hts⟩ (kW_Rr_die l D base sa) (fun mc ms => cwV 1 hts (pw_gV (pw_in 1017 (w := .methodLink "RoutingField$Router" 178 ⟨"RoutingField$Router", "die", "(LRoutingField$Route;)V"⟩) (by decide +kernel) rfl) ki_Rr_die ks_Rr_die kn_Rr ko_Rr_die) rfl rfl rfl (by decide +kernel) ⟨Nat.le_of_ble_eq_true rfl, Nat.le_of_ble_eq_true rfl⟩) (ci := 9) rfl, List.forall_mem_cons.mpr ⟨pm_cokMn hx hb hml hown (ht _ (pw_in 1495 (w := .methodLink "RoutingField$Router" 229 ⟨"java/lang/Math", "min", "(II)I"⟩) (by decide +kernel) rfl)) (ht _ (pw_in 1160 (by decide +kernel) rfl)) (ht _ (pw_in 14 (by decide +kernel) rfl)) (ht _ (pw_in 1161 rfl rfl)) (Nat.le_of_ble_eq_true rfl) (Nat.le_of_ble_eq_true rfl), fun _ h => absurd h List.not_mem_nil⟩⟩⟩),
    hZ, kst_ok ht hZ (kS_Rr_ok sa), knar_ok ht, ktx_ok (kE_Rr_ok sa)⟩
set_option maxRecDepth 100000 in
theorem ki_Rr_tell : Cond.instanceMethod ⟨"RoutingField$Router", "tell", "(I)V"⟩ ∈ pw_T := (pw_in 1610 (by decide +kernel) rfl)
set_option maxRecDepth 100000 in
theorem ks_Rr_tell : Cond.selects "RoutingField$Router" ⟨"RoutingField$Router", "tell", "(I)V"⟩ ⟨"RoutingField$Router", "tell", "(I)V"⟩ ∈ pw_T := (pw_sel 82 (q := (⟨"RoutingField$Router", "tell", "(I)V"⟩, 20)) (by decide +kernel))
set_option maxRecDepth 100000 in
theorem ko_Rr_tell : Cond.code ⟨"RoutingField$Router", "tell", "(I)V"⟩ prog_11_method_21_code 6 none ∈ pw_T := (pw_in 1611 rfl rfl)
set_option maxRecDepth 100000 in
theorem kD_Rr_tell_0 : ∀ q ∈ kC_Rr_tell_0, decode prog_11_method_21_code q.1 = .ok (q.2, pm_len q.1 q.2) := by decide +kernel
set_option maxRecDepth 100000 in
theorem kD_Rr_tell_1 : ∀ q ∈ kC_Rr_tell_1, decode prog_11_method_21_code q.1 = .ok (q.2, pm_len q.1 q.2) := by decide +kernel
theorem kD_Rr_tell : ∀ q ∈ kC_Rr_tell, decode prog_11_method_21_code q.1 = .ok (q.2, pm_len q.1 q.2) := List.forall_mem_append.mpr ⟨kD_Rr_tell_0, kD_Rr_tell_1⟩
set_option maxRecDepth 100000 in
theorem kW_Rr_tell (l : Launch) (D : va_G) (base : Nat) (sa : Nat → Nat) : pm_Met l D kcl base (kZ sa) ⟨"RoutingField$Router", "tell", "(I)V"⟩ (.code ⟨"RoutingField$Router", "tell", "(I)V"⟩ prog_11_method_21_code 6 none :: pw_T) 6 142 (kP_Rr_tell base sa) := by
  refine pm_met (by decide) rfl rfl ?_
  intro mc ms p e s m args below meth c hx hb hml hown hnm hts hbs hZ
  have ht : ∀ w ∈ pw_T, w.before args s = true := fun w h => hts w (List.mem_cons_of_mem _ h)
  exact ⟨hx, hb, hown, hbs, pm_look_all kD_Rr_tell, kf_ok (init := false) ht hZ kF_Rr_ok (fun h => by cases h), km_ok ht kM_Rr_ok, kci_ok ht kI_Rr_ok, kli_ok ht kJ_Rr_ok, kar_ok ht hZ kA_Rr_ok,
    pm_look_all (List.forall_mem_cons.mpr ⟨pm_cokV hbs hZ ⟨hx, hb, hml, hown, hts⟩ (kW_Po_addressOf l D base sa) (fun mc ms => cwV 1 hts (pw_gV (pw_in 978 (w := .methodLink "RoutingField$Router" 133 ⟨"RoutingField$Port", "addressOf", "(I)LRoutingField$Prefix;"⟩) (by decide +kernel) rfl) ki_Po_addressOf ks_Po_addressOf kn_Po ko_Po_addressOf) rfl rfl rfl (by decide +kernel) ⟨Nat.le_of_ble_eq_true rfl, Nat.le_of_ble_eq_true rfl⟩) (ci := 4) rfl, List.forall_mem_cons.mpr ⟨pm_cokV hbs hZ ⟨hx, hb, hml, hown, hts⟩ (kW_Rr_gather l D base sa) (fun mc ms => cwV 3 hts (pw_gV (pw_in 1461 (w := .methodLink "RoutingField$Router" 250 ⟨"RoutingField$Router", "gather", "(LRoutingField$Port;II)V"⟩) (by decide +kernel) rfl) ki_Rr_gather ks_Rr_gather kn_Rr ko_Rr_gather) rfl rfl rfl (by decide +kernel) ⟨Nat.le_of_ble_eq_true rfl, Nat.le_of_ble_eq_true rfl⟩) (ci := 9) rfl, List.forall_mem_cons.mpr ⟨pm_cokV hbs hZ ⟨hx, hb, hml, hown, hts⟩ (kW_Rr_sendTold l D base sa) (fun mc ms => cwV 3 hts (pw_gV (pw_in 1511 (w := .methodLink "RoutingField$Router" 257 ⟨"RoutingField$Router", "sendTold", "(LRoutingField$Port;ILRoutingField$Prefix;)V"⟩) (by decide +kernel) rfl) ki_Rr_sendTold ks_Rr_sendTold kn_Rr ko_Rr_sendTold) rfl rfl rfl (by decide +kernel) ⟨Nat.le_of_ble_eq_true rfl, Nat.le_of_ble_eq_true rfl⟩) (ci := 9) rfl, fun _ h => absurd h List.not_mem_nil⟩⟩⟩),
    hZ, kst_ok ht hZ (kS_Rr_ok sa), knar_ok ht, ktx_ok (kE_Rr_ok sa)⟩
set_option maxRecDepth 100000 in
theorem ki_Rr_forgetChanges : Cond.instanceMethod ⟨"RoutingField$Router", "forgetChanges", "()V"⟩ ∈ pw_T := (pw_in 1614 (by decide +kernel) rfl)
set_option maxRecDepth 100000 in
theorem ks_Rr_forgetChanges : Cond.selects "RoutingField$Router" ⟨"RoutingField$Router", "forgetChanges", "()V"⟩ ⟨"RoutingField$Router", "forgetChanges", "()V"⟩ ∈ pw_T := (pw_sel 83 (q := (⟨"RoutingField$Router", "forgetChanges", "()V"⟩, 20)) (by decide +kernel))
set_option maxRecDepth 100000 in
theorem ko_Rr_forgetChanges : Cond.code ⟨"RoutingField$Router", "forgetChanges", "()V"⟩ prog_11_method_17_code 2 none ∈ pw_T := (pw_in 1615 rfl rfl)
set_option maxRecDepth 100000 in
theorem kD_Rr_forgetChanges : ∀ q ∈ kC_Rr_forgetChanges, decode prog_11_method_17_code q.1 = .ok (q.2, pm_len q.1 q.2) := by decide +kernel
set_option maxRecDepth 100000 in
theorem kW_Rr_forgetChanges (l : Launch) (D : va_G) (base : Nat) (sa : Nat → Nat) : pm_Met l D kcl base (kZ sa) ⟨"RoutingField$Router", "forgetChanges", "()V"⟩ (.code ⟨"RoutingField$Router", "forgetChanges", "()V"⟩ prog_11_method_17_code 2 none :: pw_T) 0 0 (kP_Rr_forgetChanges base sa) := by
  refine pm_met (by decide) rfl rfl ?_
  intro mc ms p e s m args below meth c hx hb hml hown hnm hts hbs hZ
  have ht : ∀ w ∈ pw_T, w.before args s = true := fun w h => hts w (List.mem_cons_of_mem _ h)
  exact ⟨hx, hb, hown, hbs, pm_look_all kD_Rr_forgetChanges, kf_ok (init := false) ht hZ kF_Rr_ok (fun h => by cases h), km_ok ht kM_Rr_ok, kci_ok ht kI_Rr_ok, kli_ok ht kJ_Rr_ok, kar_ok ht hZ kA_Rr_ok,
    pm_look_all (fun _ h => absurd h List.not_mem_nil),
    hZ, kst_ok ht hZ (kS_Rr_ok sa), knar_ok ht, ktx_ok (kE_Rr_ok sa)⟩
set_option maxRecDepth 100000 in
theorem ki_Rr_takeTurn : Cond.instanceMethod ⟨"RoutingField$Router", "takeTurn", "()V"⟩ ∈ pw_T := (pw_in 1600 (by decide +kernel) rfl)
set_option maxRecDepth 100000 in
theorem ks_Rr_takeTurn : Cond.selects "RoutingField$Router" ⟨"RoutingField$Router", "takeTurn", "()V"⟩ ⟨"RoutingField$Router", "takeTurn", "()V"⟩ ∈ pw_T := (pw_in 1601 (by decide +kernel) rfl)
set_option maxRecDepth 100000 in
theorem ko_Rr_takeTurn : Cond.code ⟨"RoutingField$Router", "takeTurn", "()V"⟩ prog_11_method_15_code 1 none ∈ pw_T := (pw_in 1602 rfl rfl)
set_option maxRecDepth 100000 in
theorem kD_Rr_takeTurn : ∀ q ∈ kC_Rr_takeTurn, decode prog_11_method_15_code q.1 = .ok (q.2, pm_len q.1 q.2) := by decide +kernel
set_option maxRecDepth 100000 in
theorem kW_Rr_takeTurn (l : Launch) (D : va_G) (base : Nat) (sa : Nat → Nat) : pm_Met l D kcl base (kZ sa) ⟨"RoutingField$Router", "takeTurn", "()V"⟩ (.code ⟨"RoutingField$Router", "takeTurn", "()V"⟩ prog_11_method_15_code 1 none :: pw_T) 7 167 (kP_Rr_takeTurn base sa) := by
  refine pm_met (by decide) rfl rfl ?_
  intro mc ms p e s m args below meth c hx hb hml hown hnm hts hbs hZ
  have ht : ∀ w ∈ pw_T, w.before args s = true := fun w h => hts w (List.mem_cons_of_mem _ h)
  exact ⟨hx, hb, hown, hbs, pm_look_all kD_Rr_takeTurn, kf_ok (init := false) ht hZ kF_Rr_ok (fun h => by cases h), km_ok ht kM_Rr_ok, kci_ok ht kI_Rr_ok, kli_ok ht kJ_Rr_ok, kar_ok ht hZ kA_Rr_ok,
    pm_look_all (List.forall_mem_cons.mpr ⟨pm_cokV hbs hZ ⟨hx, hb, hml, hown, hts⟩ (kW_Rr_age l D base sa) (fun mc ms => cwV 0 hts (pw_gV (pw_in 1603 (w := .methodLink "RoutingField$Router" 220 ⟨"RoutingField$Router", "age", "()V"⟩) (by decide +kernel) rfl) ki_Rr_age ks_Rr_age kn_Rr ko_Rr_age) rfl rfl rfl (by decide +kernel) ⟨Nat.le_of_ble_eq_true rfl, Nat.le_of_ble_eq_true rfl⟩) (ci := 9) rfl, List.forall_mem_cons.mpr ⟨pm_cokV hbs hZ ⟨hx, hb, hml, hown, hts⟩ (kW_Rr_tell l D base sa) (fun mc ms => cwV 1 hts (pw_gV (pw_in 1608 (w := .methodLink "RoutingField$Router" 213 ⟨"RoutingField$Router", "tell", "(I)V"⟩) (by decide +kernel) rfl) ki_Rr_tell ks_Rr_tell kn_Rr ko_Rr_tell) rfl rfl rfl (by decide +kernel) ⟨Nat.le_of_ble_eq_true rfl, Nat.le_of_ble_eq_true rfl⟩) (ci := 9) rfl, List.forall_mem_cons.mpr ⟨pm_cokV hbs hZ ⟨hx, hb, hml, hown, hts⟩ (kW_Rr_forgetChanges l D base sa) (fun mc ms => cwV 0 hts (pw_gV (pw_in 1612 (w := .methodLink "RoutingField$Router" 223 ⟨"RoutingField$Router", "forgetChanges", "()V"⟩) (by decide +kernel) rfl) ki_Rr_forgetChanges ks_Rr_forgetChanges kn_Rr ko_Rr_forgetChanges) rfl rfl rfl (by decide +kernel) ⟨Nat.le_of_ble_eq_true rfl, Nat.le_of_ble_eq_true rfl⟩) (ci := 9) rfl, fun _ h => absurd h List.not_mem_nil⟩⟩⟩),
    hZ, kst_ok ht hZ (kS_Rr_ok sa), knar_ok ht, ktx_ok (kE_Rr_ok sa)⟩
set_option maxRecDepth 100000 in
theorem ki_Rf_ticks : Cond.instanceMethod ⟨"RoutingField", "ticks", "(I)I"⟩ ∈ pw_T := (pw_in 1370 (by decide +kernel) rfl)
set_option maxRecDepth 100000 in
theorem ks_Rf_ticks : Cond.selects "RoutingField" ⟨"RoutingField", "ticks", "(I)I"⟩ ⟨"RoutingField", "ticks", "(I)I"⟩ ∈ pw_T := (pw_in 1371 (by decide +kernel) rfl)
set_option maxRecDepth 100000 in
theorem ko_Rf_ticks : Cond.code ⟨"RoutingField", "ticks", "(I)I"⟩ prog_1_method_6_code 4 (some .int) ∈ pw_T := (pw_in 1372 rfl rfl)
set_option maxRecDepth 100000 in
theorem kD_Rf_ticks : ∀ q ∈ kC_Rf_ticks, decode prog_1_method_6_code q.1 = .ok (q.2, pm_len q.1 q.2) := by decide +kernel
set_option maxRecDepth 100000 in
theorem kW_Rf_ticks (l : Launch) (D : va_G) (base : Nat) (sa : Nat → Nat) : pm_Met l D kcl base (kZ sa) ⟨"RoutingField", "ticks", "(I)I"⟩ (.code ⟨"RoutingField", "ticks", "(I)I"⟩ prog_1_method_6_code 4 (some .int) :: pw_T) 8 192 (kP_Rf_ticks base sa) := by
  refine pm_met (by decide) rfl rfl ?_
  intro mc ms p e s m args below meth c hx hb hml hown hnm hts hbs hZ
  have ht : ∀ w ∈ pw_T, w.before args s = true := fun w h => hts w (List.mem_cons_of_mem _ h)
  exact ⟨hx, hb, hown, hbs, pm_look_all kD_Rf_ticks, kf_ok (init := false) ht hZ kF_Rf_ok (fun h => by cases h), km_ok ht kM_Rf_ok, kci_ok ht kI_Rf_ok, kli_ok ht kJ_Rf_ok, kar_ok ht hZ kA_Rf_ok,
    pm_look_all (List.forall_mem_cons.mpr ⟨pm_cokV hbs hZ ⟨hx, hb, hml, hown, hts⟩ (kW_Rf_bringDue l D base sa) (fun mc ms => cwV 0 hts (pw_gV (pw_in 1373 (w := .methodLink "RoutingField" 122 ⟨"RoutingField", "bringDue", "()V"⟩) (by decide +kernel) rfl) ki_Rf_bringDue ks_Rf_bringDue kn_Rf ko_Rf_bringDue) rfl rfl rfl (by decide +kernel) ⟨Nat.le_of_ble_eq_true rfl, Nat.le_of_ble_eq_true rfl⟩) (ci := 11) rfl, List.forall_mem_cons.mpr ⟨pm_cokV hbs hZ ⟨hx, hb, hml, hown, hts⟩ (kW_Rr_takeTurn l D base sa) (fun mc ms => cwV 0 hts (pw_gV (pw_in 1599 (w := .methodLink "RoutingField" 129 ⟨"RoutingField$Router", "takeTurn", "()V"⟩) (by decide +kernel) rfl) ki_Rr_takeTurn ks_Rr_takeTurn kn_Rr ko_Rr_takeTurn) rfl rfl rfl (by decide +kernel) ⟨Nat.le_of_ble_eq_true rfl, Nat.le_of_ble_eq_true rfl⟩) (ci := 9) rfl, fun _ h => absurd h List.not_mem_nil⟩⟩),
    hZ, kst_ok ht hZ (kS_Rf_ok sa), knar_ok ht, ktx_ok (kE_Rf_ok sa)⟩
