set_option maxRecDepth 100000 in
theorem ki_Rf_raise : Cond.instanceMethod ⟨"RoutingField", "raise", "(LRoutingField$Link;)V"⟩ ∈ pw_T := (pw_in 1623 (by decide +kernel) rfl)
set_option maxRecDepth 100000 in
theorem ks_Rf_raise : Cond.selects "RoutingField" ⟨"RoutingField", "raise", "(LRoutingField$Link;)V"⟩ ⟨"RoutingField", "raise", "(LRoutingField$Link;)V"⟩ ∈ pw_T := (pw_sel 84 (q := (⟨"RoutingField", "raise", "(LRoutingField$Link;)V"⟩, 20)) (by decide +kernel))
set_option maxRecDepth 100000 in
theorem ko_Rf_raise : Cond.code ⟨"RoutingField", "raise", "(LRoutingField$Link;)V"⟩ prog_1_method_23_code 4 none ∈ pw_T := (pw_in 1624 rfl rfl)
set_option maxRecDepth 100000 in
theorem kD_Rf_raise_0 : ∀ q ∈ kC_Rf_raise_0, decode prog_1_method_23_code q.1 = .ok (q.2, pm_len q.1 q.2) := by decide +kernel
set_option maxRecDepth 100000 in
theorem kD_Rf_raise_1 : ∀ q ∈ kC_Rf_raise_1, decode prog_1_method_23_code q.1 = .ok (q.2, pm_len q.1 q.2) := by decide +kernel
theorem kD_Rf_raise : ∀ q ∈ kC_Rf_raise, decode prog_1_method_23_code q.1 = .ok (q.2, pm_len q.1 q.2) := List.forall_mem_append.mpr ⟨kD_Rf_raise_0, kD_Rf_raise_1⟩
set_option maxRecDepth 100000 in
theorem kW_Rf_raise (l : Launch) (D : va_G) (base : Nat) (sa : Nat → Nat) : pm_Met l D kcl base (kZ sa) ⟨"RoutingField", "raise", "(LRoutingField$Link;)V"⟩ (.code ⟨"RoutingField", "raise", "(LRoutingField$Link;)V"⟩ prog_1_method_23_code 4 none :: pw_T) 6 134 (kP_Rf_raise base sa) := by
  refine pm_met (by decide) rfl rfl ?_
  intro mc ms p e s m args below meth c hx hb hml hown hnm hts hbs hZ
  have ht : ∀ w ∈ pw_T, w.before args s = true := fun w h => hts w (List.mem_cons_of_mem _ h)
  exact ⟨hx, hb, hown, hbs, pm_look_all kD_Rf_raise, kf_ok (init := false) ht hZ kF_Rf_ok (fun h => by cases h), km_ok ht kM_Rf_ok, kci_ok ht kI_Rf_ok, kli_ok ht kJ_Rf_ok, kar_ok ht hZ kA_Rf_ok,
    pm_look_all (List.forall_mem_cons.mpr ⟨pm_cokV hbs hZ ⟨hx, hb, hml, hown, hts⟩ (kW_Rr_portOn l D base sa) (fun mc ms => cwV 1 hts (pw_gV (pw_in 1625 (w := .methodLink "RoutingField" 264 ⟨"RoutingField$Router", "portOn", "(LRoutingField$Link;)LRoutingField$Port;"⟩) (by decide +kernel) rfl) ki_Rr_portOn ks_Rr_portOn kn_Rr ko_Rr_portOn) rfl rfl rfl (by decide +kernel) ⟨Nat.le_of_ble_eq_true rfl, Nat.le_of_ble_eq_true rfl⟩) (ci := 9) rfl, List.forall_mem_cons.mpr ⟨pm_cokV hbs hZ ⟨hx, hb, hml, hown, hts⟩ (kW_Rr_settlePort l D base sa) (fun mc ms => cwV 1 hts (pw_gV (pw_in 1626 (w := .methodLink "RoutingField" 268 ⟨"RoutingField$Router", "settlePort", "(LRoutingField$Port;)V"⟩) (by decide +kernel) rfl) ki_Rr_settlePort ks_Rr_settlePort kn_Rr ko_Rr_settlePort) rfl rfl rfl (by decide +kernel) ⟨Nat.le_of_ble_eq_true rfl, Nat.le_of_ble_eq_true rfl⟩) (ci := 9) rfl, List.forall_mem_cons.mpr ⟨pm_cokV hbs hZ ⟨hx, hb, hml, hown, hts⟩ (kW_Rr_ask l D base sa) (fun mc ms => cwV 2 hts (pw_gV (pw_in 1627 (w := .methodLink "RoutingField" 272 ⟨"RoutingField$Router", "ask", "(LRoutingField$Port;I)V"⟩) (by decide +kernel) rfl) ki_Rr_ask ks_Rr_ask kn_Rr ko_Rr_ask) rfl rfl rfl (by decide +kernel) ⟨Nat.le_of_ble_eq_true rfl, Nat.le_of_ble_eq_true rfl⟩) (ci := 9) rfl, fun _ h => absurd h List.not_mem_nil⟩⟩⟩),
    hZ, kst_ok ht hZ (kS_Rf_ok sa), knar_ok ht, ktx_ok (kE_Rf_ok sa)⟩
set_option maxRecDepth 100000 in
theorem ki_Rf_dropFlights : Cond.instanceMethod ⟨"RoutingField", "dropFlights", "(LRoutingField$Link;)V"⟩ ∈ pw_T := (pw_in 1630 (by decide +kernel) rfl)
set_option maxRecDepth 100000 in
theorem ks_Rf_dropFlights : Cond.selects "RoutingField" ⟨"RoutingField", "dropFlights", "(LRoutingField$Link;)V"⟩ ⟨"RoutingField", "dropFlights", "(LRoutingField$Link;)V"⟩ ∈ pw_T := (pw_sel 85 (q := (⟨"RoutingField", "dropFlights", "(LRoutingField$Link;)V"⟩, 20)) (by decide +kernel))
set_option maxRecDepth 100000 in
theorem ko_Rf_dropFlights : Cond.code ⟨"RoutingField", "dropFlights", "(LRoutingField$Link;)V"⟩ prog_1_method_25_code 4 none ∈ pw_T := (pw_in 1631 rfl rfl)
set_option maxRecDepth 100000 in
theorem kD_Rf_dropFlights : ∀ q ∈ kC_Rf_dropFlights, decode prog_1_method_25_code q.1 = .ok (q.2, pm_len q.1 q.2) := by decide +kernel
set_option maxRecDepth 100000 in
theorem kW_Rf_dropFlights (l : Launch) (D : va_G) (base : Nat) (sa : Nat → Nat) : pm_Met l D kcl base (kZ sa) ⟨"RoutingField", "dropFlights", "(LRoutingField$Link;)V"⟩ (.code ⟨"RoutingField", "dropFlights", "(LRoutingField$Link;)V"⟩ prog_1_method_25_code 4 none :: pw_T) 1 21 (kP_Rf_dropFlights base sa) := by
  refine pm_met (by decide) rfl rfl ?_
  intro mc ms p e s m args below meth c hx hb hml hown hnm hts hbs hZ
  have ht : ∀ w ∈ pw_T, w.before args s = true := fun w h => hts w (List.mem_cons_of_mem _ h)
  exact ⟨hx, hb, hown, hbs, pm_look_all kD_Rf_dropFlights, kf_ok (init := false) ht hZ kF_Rf_ok (fun h => by cases h), km_ok ht kM_Rf_ok, kci_ok ht kI_Rf_ok, kli_ok ht kJ_Rf_ok, kar_ok ht hZ kA_Rf_ok,
    pm_look_all (List.forall_mem_cons.mpr ⟨pm_cokV hbs hZ ⟨hx, hb, hml, hown, hts⟩ (kW_Rf_giveBack l D base sa) (fun mc ms => cwV 1 hts (pw_gV (pw_in 1595 (w := .methodLink "RoutingField" 283 ⟨"RoutingField", "giveBack", "(LRoutingField$Datagram;)V"⟩) (by decide +kernel) rfl) ki_Rf_giveBack ks_Rf_giveBack kn_Rf ko_Rf_giveBack) rfl rfl rfl (by decide +kernel) ⟨Nat.le_of_ble_eq_true rfl, Nat.le_of_ble_eq_true rfl⟩) (ci := 11) rfl, fun _ h => absurd h List.not_mem_nil⟩),
    hZ, kst_ok ht hZ (kS_Rf_ok sa), knar_ok ht, ktx_ok (kE_Rf_ok sa)⟩
set_option maxRecDepth 100000 in
theorem ki_Rr_loseLearned : Cond.instanceMethod ⟨"RoutingField$Router", "loseLearned", "(LRoutingField$Port;)V"⟩ ∈ pw_T := (pw_in 1637 (by decide +kernel) rfl)
set_option maxRecDepth 100000 in
theorem ks_Rr_loseLearned : Cond.selects "RoutingField$Router" ⟨"RoutingField$Router", "loseLearned", "(LRoutingField$Port;)V"⟩ ⟨"RoutingField$Router", "loseLearned", "(LRoutingField$Port;)V"⟩ ∈ pw_T := (pw_in 1638 (by decide +kernel) rfl)
set_option maxRecDepth 100000 in
theorem ko_Rr_loseLearned : Cond.code ⟨"RoutingField$Router", "loseLearned", "(LRoutingField$Port;)V"⟩ prog_11_method_12_code 4 none ∈ pw_T := (pw_in 1639 rfl rfl)
set_option maxRecDepth 100000 in
theorem kD_Rr_loseLearned : ∀ q ∈ kC_Rr_loseLearned, decode prog_11_method_12_code q.1 = .ok (q.2, pm_len q.1 q.2) := by decide +kernel
set_option maxRecDepth 100000 in
theorem kW_Rr_loseLearned (l : Launch) (D : va_G) (base : Nat) (sa : Nat → Nat) : pm_Met l D kcl base (kZ sa) ⟨"RoutingField$Router", "loseLearned", "(LRoutingField$Port;)V"⟩ (.code ⟨"RoutingField$Router", "loseLearned", "(LRoutingField$Port;)V"⟩ prog_11_method_12_code 4 none :: pw_T) 2 43 (kP_Rr_loseLearned base sa) := by
  refine pm_met (by decide) rfl rfl ?_
  intro mc ms p e s m args below meth c hx hb hml hown hnm hts hbs hZ
  have ht : ∀ w ∈ pw_T, w.before args s = true := fun w h => hts w (List.mem_cons_of_mem _ h)
  exact ⟨hx, hb, hown, hbs, pm_look_all kD_Rr_loseLearned, kf_ok (init := false) ht hZ kF_Rr_ok (fun h => by cases h), km_ok ht kM_Rr_ok, kci_ok ht kI_Rr_ok, kli_ok ht kJ_Rr_ok, kar_ok ht hZ kA_Rr_ok,
    pm_look_all (List.forall_mem_cons.mpr ⟨pm_cokV hbs hZ ⟨hx, hb, hml, hown, hts⟩ (kW_Rr_die l D base sa) (fun mc ms => cwV 1 hts (pw_gV (pw_in 1017 (w := .methodLink "RoutingField$Router" 178 ⟨"RoutingField$Router", "die", "(LRoutingField$Route;)V"⟩) (by decide +kernel) rfl) ki_Rr_die ks_Rr_die kn_Rr ko_Rr_die) rfl rfl rfl (by decide +kernel) ⟨Nat.le_of_ble_eq_true rfl, Nat.le_of_ble_eq_true rfl⟩) (ci := 9) rfl, fun _ h => absurd h List.not_mem_nil⟩),
    hZ, kst_ok ht hZ (kS_Rr_ok sa), knar_ok ht, ktx_ok (kE_Rr_ok sa)⟩
set_option maxRecDepth 100000 in
theorem ki_Rf_lower : Cond.instanceMethod ⟨"RoutingField", "lower", "(LRoutingField$Link;)V"⟩ ∈ pw_T := (pw_in 1634 (by decide +kernel) rfl)
set_option maxRecDepth 100000 in
theorem ks_Rf_lower : Cond.selects "RoutingField" ⟨"RoutingField", "lower", "(LRoutingField$Link;)V"⟩ ⟨"RoutingField", "lower", "(LRoutingField$Link;)V"⟩ ∈ pw_T := (pw_sel 86 (q := (⟨"RoutingField", "lower", "(LRoutingField$Link;)V"⟩, 20)) (by decide +kernel))
set_option maxRecDepth 100000 in
theorem ko_Rf_lower : Cond.code ⟨"RoutingField", "lower", "(LRoutingField$Link;)V"⟩ prog_1_method_24_code 4 none ∈ pw_T := (pw_in 1635 rfl rfl)
set_option maxRecDepth 100000 in
theorem kD_Rf_lower : ∀ q ∈ kC_Rf_lower, decode prog_1_method_24_code q.1 = .ok (q.2, pm_len q.1 q.2) := by decide +kernel
set_option maxRecDepth 100000 in
theorem kW_Rf_lower (l : Launch) (D : va_G) (base : Nat) (sa : Nat → Nat) : pm_Met l D kcl base (kZ sa) ⟨"RoutingField", "lower", "(LRoutingField$Link;)V"⟩ (.code ⟨"RoutingField", "lower", "(LRoutingField$Link;)V"⟩ prog_1_method_24_code 4 none :: pw_T) 6 134 (kP_Rf_lower base sa) := by
  refine pm_met (by decide) rfl rfl ?_
  intro mc ms p e s m args below meth c hx hb hml hown hnm hts hbs hZ
  have ht : ∀ w ∈ pw_T, w.before args s = true := fun w h => hts w (List.mem_cons_of_mem _ h)
  exact ⟨hx, hb, hown, hbs, pm_look_all kD_Rf_lower, kf_ok (init := false) ht hZ kF_Rf_ok (fun h => by cases h), km_ok ht kM_Rf_ok, kci_ok ht kI_Rf_ok, kli_ok ht kJ_Rf_ok, kar_ok ht hZ kA_Rf_ok,
    pm_look_all (List.forall_mem_cons.mpr ⟨pm_cokV hbs hZ ⟨hx, hb, hml, hown, hts⟩ (kW_Rr_portOn l D base sa) (fun mc ms => cwV 1 hts (pw_gV (pw_in 1625 (w := .methodLink "RoutingField" 264 ⟨"RoutingField$Router", "portOn", "(LRoutingField$Link;)LRoutingField$Port;"⟩) (by decide +kernel) rfl) ki_Rr_portOn ks_Rr_portOn kn_Rr ko_Rr_portOn) rfl rfl rfl (by decide +kernel) ⟨Nat.le_of_ble_eq_true rfl, Nat.le_of_ble_eq_true rfl⟩) (ci := 9) rfl, List.forall_mem_cons.mpr ⟨pm_cokV hbs hZ ⟨hx, hb, hml, hown, hts⟩ (kW_Rr_loseLearned l D base sa) (fun mc ms => cwV 1 hts (pw_gV (pw_in 1636 (w := .methodLink "RoutingField" 276 ⟨"RoutingField$Router", "loseLearned", "(LRoutingField$Port;)V"⟩) (by decide +kernel) rfl) ki_Rr_loseLearned ks_Rr_loseLearned kn_Rr ko_Rr_loseLearned) rfl rfl rfl (by decide +kernel) ⟨Nat.le_of_ble_eq_true rfl, Nat.le_of_ble_eq_true rfl⟩) (ci := 9) rfl, List.forall_mem_cons.mpr ⟨pm_cokV hbs hZ ⟨hx, hb, hml, hown, hts⟩ (kW_Rr_settlePort l D base sa) (fun mc ms => cwV 1 hts (pw_gV (pw_in 1626 (w := .methodLink "RoutingField" 268 ⟨"RoutingField$Router", "settlePort", "(LRoutingField$Port;)V"⟩) (by decide +kernel) rfl) ki_Rr_settlePort ks_Rr_settlePort kn_Rr ko_Rr_settlePort) rfl rfl rfl (by decide +kernel) ⟨Nat.le_of_ble_eq_true rfl, Nat.le_of_ble_eq_true rfl⟩) (ci := 9) rfl, fun _ h => absurd h List.not_mem_nil⟩⟩⟩),
    hZ, kst_ok ht hZ (kS_Rf_ok sa), knar_ok ht, ktx_ok (kE_Rf_ok sa)⟩
set_option maxRecDepth 100000 in
theorem ki_Rf_link : Cond.instanceMethod ⟨"RoutingField", "link", "(IZ)Z"⟩ ∈ pw_T := (pw_in 1617 (by decide +kernel) rfl)
set_option maxRecDepth 100000 in
theorem ks_Rf_link : Cond.selects "RoutingField" ⟨"RoutingField", "link", "(IZ)Z"⟩ ⟨"RoutingField", "link", "(IZ)Z"⟩ ∈ pw_T := (pw_in 1618 (by decide +kernel) rfl)
set_option maxRecDepth 100000 in
theorem ko_Rf_link : Cond.code ⟨"RoutingField", "link", "(IZ)Z"⟩ prog_1_method_7_code 4 (some .boolean) ∈ pw_T := (pw_in 1619 rfl rfl)
set_option maxRecDepth 100000 in
theorem kD_Rf_link : ∀ q ∈ kC_Rf_link, decode prog_1_method_7_code q.1 = .ok (q.2, pm_len q.1 q.2) := by decide +kernel
set_option maxRecDepth 100000 in
theorem kW_Rf_link (l : Launch) (D : va_G) (base : Nat) (sa : Nat → Nat) : pm_Met l D kcl base (kZ sa) ⟨"RoutingField", "link", "(IZ)Z"⟩ (.code ⟨"RoutingField", "link", "(IZ)Z"⟩ prog_1_method_7_code 4 (some .boolean) :: pw_T) 7 157 (kP_Rf_link base sa) := by
  refine pm_met (by decide) rfl rfl ?_
  intro mc ms p e s m args below meth c hx hb hml hown hnm hts hbs hZ
  have ht : ∀ w ∈ pw_T, w.before args s = true := fun w h => hts w (List.mem_cons_of_mem _ h)
  exact ⟨hx, hb, hown, hbs, pm_look_all kD_Rf_link, kf_ok (init := false) ht hZ kF_Rf_ok (fun h => by cases h), km_ok ht kM_Rf_ok, kci_ok ht kI_Rf_ok, kli_ok ht kJ_Rf_ok, kar_ok ht hZ kA_Rf_ok,
    pm_look_all (List.forall_mem_cons.mpr ⟨pm_cokV hbs hZ ⟨hx, hb, hml, hown, hts⟩ (kW_Rf_linkAt l D base sa) (fun mc ms => cwV 1 hts (pw_gV (pw_in 1620 (w := .methodLink "RoutingField" 132 ⟨"RoutingField", "linkAt", "(I)LRoutingField$Link;"⟩) (by decide +kernel) rfl) ki_Rf_linkAt ks_Rf_linkAt kn_Rf ko_Rf_linkAt) rfl rfl rfl (by decide +kernel) ⟨Nat.le_of_ble_eq_true rfl, Nat.le_of_ble_eq_true rfl⟩) (ci := 11) rfl, List.forall_mem_cons.mpr ⟨pm_cokV hbs hZ ⟨hx, hb, hml, hown, hts⟩ (kW_Rf_raise l D base sa) (fun mc ms => cwV 1 hts (pw_gV (pw_in 1621 (w := .methodLink "RoutingField" 139 ⟨"RoutingField", "raise", "(LRoutingField$Link;)V"⟩) (by decide +kernel) rfl) ki_Rf_raise ks_Rf_raise kn_Rf ko_Rf_raise) rfl rfl rfl (by decide +kernel) ⟨Nat.le_of_ble_eq_true rfl, Nat.le_of_ble_eq_true rfl⟩) (ci := 11) rfl, List.forall_mem_cons.mpr ⟨pm_cokV hbs hZ ⟨hx, hb, hml, hown, hts⟩ (kW_Rf_dropFlights l D base sa) (fun mc ms => cwV 1 hts (pw_gV (pw_in 1628 (w := .methodLink "RoutingField" 143 ⟨"RoutingField", "dropFlights", "(LRoutingField$Link;)V"⟩) (by decide +kernel) rfl) ki_Rf_dropFlights ks_Rf_dropFlights kn_Rf ko_Rf_dropFlights) rfl rfl rfl (by decide +kernel) ⟨Nat.le_of_ble_eq_true rfl, Nat.le_of_ble_eq_true rfl⟩) (ci := 11) rfl, List.forall_mem_cons.mpr ⟨pm_cokV hbs hZ ⟨hx, hb, hml, hown, hts⟩ (kW_Rf_lower l D base sa) (fun mc ms => cwV 1 hts (pw_gV (pw_in 1632 (w := .methodLink "RoutingField" 146 ⟨"RoutingField", "lower", "(LRoutingField$Link;)V"⟩) (by decide +kernel) rfl) ki_Rf_lower ks_Rf_lower kn_Rf ko_Rf_lower) rfl rfl rfl (by decide +kernel) ⟨Nat.le_of_ble_eq_true rfl, Nat.le_of_ble_eq_true rfl⟩) (ci := 11) rfl, fun _ h => absurd h List.not_mem_nil⟩⟩⟩⟩),
    hZ, kst_ok ht hZ (kS_Rf_ok sa), knar_ok ht, ktx_ok (kE_Rf_ok sa)⟩
set_option maxRecDepth 100000 in
theorem ki_Rf_lose : Cond.instanceMethod ⟨"RoutingField", "lose", "(II)Z"⟩ ∈ pw_T := (pw_in 1641 (by decide +kernel) rfl)
set_option maxRecDepth 100000 in
theorem ks_Rf_lose : Cond.selects "RoutingField" ⟨"RoutingField", "lose", "(II)Z"⟩ ⟨"RoutingField", "lose", "(II)Z"⟩ ∈ pw_T := (pw_in 1642 (by decide +kernel) rfl)
set_option maxRecDepth 100000 in
theorem ko_Rf_lose : Cond.code ⟨"RoutingField", "lose", "(II)Z"⟩ prog_1_method_8_code 4 (some .boolean) ∈ pw_T := (pw_in 1643 rfl rfl)
set_option maxRecDepth 100000 in
theorem kD_Rf_lose : ∀ q ∈ kC_Rf_lose, decode prog_1_method_8_code q.1 = .ok (q.2, pm_len q.1 q.2) := by decide +kernel
set_option maxRecDepth 100000 in
theorem kW_Rf_lose (l : Launch) (D : va_G) (base : Nat) (sa : Nat → Nat) : pm_Met l D kcl base (kZ sa) ⟨"RoutingField", "lose", "(II)Z"⟩ (.code ⟨"RoutingField", "lose", "(II)Z"⟩ prog_1_method_8_code 4 (some .boolean) :: pw_T) 1 21 (kP_Rf_lose base sa) := by
  refine pm_met (by decide) rfl rfl ?_
  intro mc ms p e s m args below meth c hx hb hml hown hnm hts hbs hZ
  have ht : ∀ w ∈ pw_T, w.before args s = true := fun w h => hts w (List.mem_cons_of_mem _ h)
  exact ⟨hx, hb, hown, hbs, pm_look_all kD_Rf_lose, kf_ok (init := false) ht hZ kF_Rf_ok (fun h => by cases h), km_ok ht kM_Rf_ok, kci_ok ht kI_Rf_ok, kli_ok ht kJ_Rf_ok, kar_ok ht hZ kA_Rf_ok,
    pm_look_all (List.forall_mem_cons.mpr ⟨pm_cokV hbs hZ ⟨hx, hb, hml, hown, hts⟩ (kW_Rf_linkAt l D base sa) (fun mc ms => cwV 1 hts (pw_gV (pw_in 1620 (w := .methodLink "RoutingField" 132 ⟨"RoutingField", "linkAt", "(I)LRoutingField$Link;"⟩) (by decide +kernel) rfl) ki_Rf_linkAt ks_Rf_linkAt kn_Rf ko_Rf_linkAt) rfl rfl rfl (by decide +kernel) ⟨Nat.le_of_ble_eq_true rfl, Nat.le_of_ble_eq_true rfl⟩) (ci := 11) rfl, fun _ h => absurd h List.not_mem_nil⟩),
    hZ, kst_ok ht hZ (kS_Rf_ok sa), knar_ok ht, ktx_ok (kE_Rf_ok sa)⟩
set_option maxRecDepth 100000 in
theorem ki_Rf_routerAt : Cond.instanceMethod ⟨"RoutingField", "routerAt", "(I)LRoutingField$Router;"⟩ ∈ pw_T := (pw_in 1650 (by decide +kernel) rfl)
set_option maxRecDepth 100000 in
theorem ks_Rf_routerAt : Cond.selects "RoutingField" ⟨"RoutingField", "routerAt", "(I)LRoutingField$Router;"⟩ ⟨"RoutingField", "routerAt", "(I)LRoutingField$Router;"⟩ ∈ pw_T := (pw_sel 87 (q := (⟨"RoutingField", "routerAt", "(I)LRoutingField$Router;"⟩, 20)) (by decide +kernel))
set_option maxRecDepth 100000 in
theorem ko_Rf_routerAt : Cond.code ⟨"RoutingField", "routerAt", "(I)LRoutingField$Router;"⟩ prog_1_method_22_code 2 (some (.object "RoutingField$Router")) ∈ pw_T := (pw_in 1651 rfl rfl)
set_option maxRecDepth 100000 in
theorem kD_Rf_routerAt : ∀ q ∈ kC_Rf_routerAt, decode prog_1_method_22_code q.1 = .ok (q.2, pm_len q.1 q.2) := by decide +kernel
set_option maxRecDepth 100000 in
theorem kW_Rf_routerAt (l : Launch) (D : va_G) (base : Nat) (sa : Nat → Nat) : pm_Met l D kcl base (kZ sa) ⟨"RoutingField", "routerAt", "(I)LRoutingField$Router;"⟩ (.code ⟨"RoutingField", "routerAt", "(I)LRoutingField$Router;"⟩ prog_1_method_22_code 2 (some (.object "RoutingField$Router")) :: pw_T) 0 0 (kP_Rf_routerAt base sa) := by
  refine pm_met (by decide) rfl rfl ?_
  intro mc ms p e s m args below meth c hx hb hml hown hnm hts hbs hZ
  have ht : ∀ w ∈ pw_T, w.before args s = true := fun w h => hts w (List.mem_cons_of_mem _ h)
  exact ⟨hx, hb, hown, hbs, pm_look_all kD_Rf_routerAt, kf_ok (init := false) ht hZ kF_Rf_ok (fun h => by cases h), km_ok ht kM_Rf_ok, kci_ok ht kI_Rf_ok, kli_ok ht kJ_Rf_ok, kar_ok ht hZ kA_Rf_ok,
    pm_look_all (fun _ h => absurd h List.not_mem_nil),
    hZ, kst_ok ht hZ (kS_Rf_ok sa), knar_ok ht, ktx_ok (kE_Rf_ok sa)⟩
set_option maxRecDepth 100000 in
theorem ki_Rr_start : Cond.instanceMethod ⟨"RoutingField$Router", "start", "()V"⟩ ∈ pw_T := (pw_in 1653 (by decide +kernel) rfl)
set_option maxRecDepth 100000 in
theorem ks_Rr_start : Cond.selects "RoutingField$Router" ⟨"RoutingField$Router", "start", "()V"⟩ ⟨"RoutingField$Router", "start", "()V"⟩ ∈ pw_T := (pw_in 1654 (by decide +kernel) rfl)
set_option maxRecDepth 100000 in
theorem ko_Rr_start : Cond.code ⟨"RoutingField$Router", "start", "()V"⟩ prog_11_method_13_code 2 none ∈ pw_T := (pw_in 1655 rfl rfl)
set_option maxRecDepth 100000 in
theorem kD_Rr_start_0 : ∀ q ∈ kC_Rr_start_0, decode prog_11_method_13_code q.1 = .ok (q.2, pm_len q.1 q.2) := by decide +kernel
set_option maxRecDepth 100000 in
theorem kD_Rr_start_1 : ∀ q ∈ kC_Rr_start_1, decode prog_11_method_13_code q.1 = .ok (q.2, pm_len q.1 q.2) := by decide +kernel
theorem kD_Rr_start : ∀ q ∈ kC_Rr_start, decode prog_11_method_13_code q.1 = .ok (q.2, pm_len q.1 q.2) := List.forall_mem_append.mpr ⟨kD_Rr_start_0, kD_Rr_start_1⟩
set_option maxRecDepth 100000 in
theorem kW_Rr_start (l : Launch) (D : va_G) (base : Nat) (sa : Nat → Nat) : pm_Met l D kcl base (kZ sa) ⟨"RoutingField$Router", "start", "()V"⟩ (.code ⟨"RoutingField$Router", "start", "()V"⟩ prog_11_method_13_code 2 none :: pw_T) 6 134 (kP_Rr_start base sa) := by
  refine pm_met (by decide) rfl rfl ?_
  intro mc ms p e s m args below meth c hx hb hml hown hnm hts hbs hZ
  have ht : ∀ w ∈ pw_T, w.before args s = true := fun w h => hts w (List.mem_cons_of_mem _ h)
  exact ⟨hx, hb, hown, hbs, pm_look_all kD_Rr_start, kf_ok (init := false) ht hZ kF_Rr_ok (fun h => by cases h), km_ok ht kM_Rr_ok, kci_ok ht kI_Rr_ok, kli_ok ht kJ_Rr_ok, kar_ok ht hZ kA_Rr_ok,
    pm_look_all (List.forall_mem_cons.mpr ⟨pm_cokV hbs hZ ⟨hx, hb, hml, hown, hts⟩ (kW_Rr_settlePort l D base sa) (fun mc ms => cwV 1 hts (pw_gV (pw_in 1656 (w := .methodLink "RoutingField$Router" 202 ⟨"RoutingField$Router", "settlePort", "(LRoutingField$Port;)V"⟩) (by decide +kernel) rfl) ki_Rr_settlePort ks_Rr_settlePort kn_Rr ko_Rr_settlePort) rfl rfl rfl (by decide +kernel) ⟨Nat.le_of_ble_eq_true rfl, Nat.le_of_ble_eq_true rfl⟩) (ci := 9) rfl, List.forall_mem_cons.mpr ⟨pm_cokV hbs hZ ⟨hx, hb, hml, hown, hts⟩ (kW_Rr_settle l D base sa) (fun mc ms => cwV 1 hts (pw_gV (pw_in 984 (w := .methodLink "RoutingField$Router" 192 ⟨"RoutingField$Router", "settle", "(LRoutingField$Prefix;)V"⟩) (by decide +kernel) rfl) ki_Rr_settle ks_Rr_settle kn_Rr ko_Rr_settle) rfl rfl rfl (by decide +kernel) ⟨Nat.le_of_ble_eq_true rfl, Nat.le_of_ble_eq_true rfl⟩) (ci := 9) rfl, List.forall_mem_cons.mpr ⟨pm_cokV hbs hZ ⟨hx, hb, hml, hown, hts⟩ (kW_Rr_ask l D base sa) (fun mc ms => cwV 2 hts (pw_gV (pw_in 1657 (w := .methodLink "RoutingField$Router" 209 ⟨"RoutingField$Router", "ask", "(LRoutingField$Port;I)V"⟩) (by decide +kernel) rfl) ki_Rr_ask ks_Rr_ask kn_Rr ko_Rr_ask) rfl rfl rfl (by decide +kernel) ⟨Nat.le_of_ble_eq_true rfl, Nat.le_of_ble_eq_true rfl⟩) (ci := 9) rfl, fun _ h => absurd h List.not_mem_nil⟩⟩⟩),
    hZ, kst_ok ht hZ (kS_Rr_ok sa), knar_ok ht, ktx_ok (kE_Rr_ok sa)⟩
set_option maxRecDepth 100000 in
theorem ki_Rr_stop : Cond.instanceMethod ⟨"RoutingField$Router", "stop", "()V"⟩ ∈ pw_T := (pw_in 1659 (by decide +kernel) rfl)
set_option maxRecDepth 100000 in
theorem ks_Rr_stop : Cond.selects "RoutingField$Router" ⟨"RoutingField$Router", "stop", "()V"⟩ ⟨"RoutingField$Router", "stop", "()V"⟩ ∈ pw_T := (pw_in 1660 (by decide +kernel) rfl)
set_option maxRecDepth 100000 in
theorem ko_Rr_stop : Cond.code ⟨"RoutingField$Router", "stop", "()V"⟩ prog_11_method_14_code 1 none ∈ pw_T := (pw_in 1661 rfl rfl)
set_option maxRecDepth 100000 in
theorem kD_Rr_stop : ∀ q ∈ kC_Rr_stop, decode prog_11_method_14_code q.1 = .ok (q.2, pm_len q.1 q.2) := by decide +kernel
set_option maxRecDepth 100000 in
theorem kW_Rr_stop (l : Launch) (D : va_G) (base : Nat) (sa : Nat → Nat) : pm_Met l D kcl base (kZ sa) ⟨"RoutingField$Router", "stop", "()V"⟩ (.code ⟨"RoutingField$Router", "stop", "()V"⟩ prog_11_method_14_code 1 none :: pw_T) 7 167 (kP_Rr_stop base sa) := by
  refine pm_met (by decide) rfl rfl ?_
  intro mc ms p e s m args below meth c hx hb hml hown hnm hts hbs hZ
  have ht : ∀ w ∈ pw_T, w.before args s = true := fun w h => hts w (List.mem_cons_of_mem _ h)
  exact ⟨hx, hb, hown, hbs, pm_look_all kD_Rr_stop, kf_ok (init := false) ht hZ kF_Rr_ok (fun h => by cases h), km_ok ht kM_Rr_ok, kci_ok ht kI_Rr_ok, kli_ok ht kJ_Rr_ok, kar_ok ht hZ kA_Rr_ok,
    pm_look_all (List.forall_mem_cons.mpr ⟨pm_cokV hbs hZ ⟨hx, hb, hml, hown, hts⟩ (kW_Rr_tell l D base sa) (fun mc ms => cwV 1 hts (pw_gV (pw_in 1608 (w := .methodLink "RoutingField$Router" 213 ⟨"RoutingField$Router", "tell", "(I)V"⟩) (by decide +kernel) rfl) ki_Rr_tell ks_Rr_tell kn_Rr ko_Rr_tell) rfl rfl rfl (by decide +kernel) ⟨Nat.le_of_ble_eq_true rfl, Nat.le_of_ble_eq_true rfl⟩) (ci := 9) rfl, List.forall_mem_cons.mpr ⟨pm_cokV hbs hZ ⟨hx, hb, hml, hown, hts⟩ (kW_Ta_clear l D base sa) (fun mc ms => cwV 0 hts (pw_gV (pw_in 1465 (w := .methodLink "RoutingField$Router" 217 ⟨"RoutingField$Table", "clear", "()V"⟩) (by decide +kernel) rfl) ki_Ta_clear ks_Ta_clear kn_Ta ko_Ta_clear) rfl rfl rfl (by decide +kernel) ⟨Nat.le_of_ble_eq_true rfl, Nat.le_of_ble_eq_true rfl⟩) (ci := 10) rfl, fun _ h => absurd h List.not_mem_nil⟩⟩),
    hZ, kst_ok ht hZ (kS_Rr_ok sa), knar_ok ht, ktx_ok (kE_Rr_ok sa)⟩
set_option maxRecDepth 100000 in
theorem ki_Rf_run : Cond.instanceMethod ⟨"RoutingField", "run", "(IZ)Z"⟩ ∈ pw_T := (pw_in 1645 (by decide +kernel) rfl)
set_option maxRecDepth 100000 in
theorem ks_Rf_run : Cond.selects "RoutingField" ⟨"RoutingField", "run", "(IZ)Z"⟩ ⟨"RoutingField", "run", "(IZ)Z"⟩ ∈ pw_T := (pw_in 1646 (by decide +kernel) rfl)
set_option maxRecDepth 100000 in
theorem ko_Rf_run : Cond.code ⟨"RoutingField", "run", "(IZ)Z"⟩ prog_1_method_9_code 4 (some .boolean) ∈ pw_T := (pw_in 1647 rfl rfl)
set_option maxRecDepth 100000 in
theorem kD_Rf_run : ∀ q ∈ kC_Rf_run, decode prog_1_method_9_code q.1 = .ok (q.2, pm_len q.1 q.2) := by decide +kernel
set_option maxRecDepth 100000 in
theorem kW_Rf_run (l : Launch) (D : va_G) (base : Nat) (sa : Nat → Nat) : pm_Met l D kcl base (kZ sa) ⟨"RoutingField", "run", "(IZ)Z"⟩ (.code ⟨"RoutingField", "run", "(IZ)Z"⟩ prog_1_method_9_code 4 (some .boolean) :: pw_T) 8 187 (kP_Rf_run base sa) := by
  refine pm_met (by decide) rfl rfl ?_
  intro mc ms p e s m args below meth c hx hb hml hown hnm hts hbs hZ
  have ht : ∀ w ∈ pw_T, w.before args s = true := fun w h => hts w (List.mem_cons_of_mem _ h)
  exact ⟨hx, hb, hown, hbs, pm_look_all kD_Rf_run, kf_ok (init := false) ht hZ kF_Rf_ok (fun h => by cases h), km_ok ht kM_Rf_ok, kci_ok ht kI_Rf_ok, kli_ok ht kJ_Rf_ok, kar_ok ht hZ kA_Rf_ok,
    pm_look_all (List.forall_mem_cons.mpr ⟨pm_cokV hbs hZ ⟨hx, hb, hml, hown, hts⟩ (kW_Rf_routerAt l D base sa) (fun mc ms => cwV 1 hts (pw_gV (pw_in 1648 (w := .methodLink "RoutingField" 152 ⟨"RoutingField", "routerAt", "(I)LRoutingField$Router;"⟩) (by decide +kernel) rfl) ki_Rf_routerAt ks_Rf_routerAt kn_Rf ko_Rf_routerAt) rfl rfl rfl (by decide +kernel) ⟨Nat.le_of_ble_eq_true rfl, Nat.le_of_ble_eq_true rfl⟩) (ci := 11) rfl, List.forall_mem_cons.mpr ⟨pm_cokV hbs hZ ⟨hx, hb, hml, hown, hts⟩ (kW_Rr_start l D base sa) (fun mc ms => cwV 0 hts (pw_gV (pw_in 1652 (w := .methodLink "RoutingField" 156 ⟨"RoutingField$Router", "start", "()V"⟩) (by decide +kernel) rfl) ki_Rr_start ks_Rr_start kn_Rr ko_Rr_start) rfl rfl rfl (by decide +kernel) ⟨Nat.le_of_ble_eq_true rfl, Nat.le_of_ble_eq_true rfl⟩) (ci := 9) rfl, List.forall_mem_cons.mpr ⟨pm_cokV hbs hZ ⟨hx, hb, hml, hown, hts⟩ (kW_Rr_stop l D base sa) (fun mc ms => cwV 0 hts (pw_gV (pw_in 1658 (w := .methodLink "RoutingField" 159 ⟨"RoutingField$Router", "stop", "()V"⟩) (by decide +kernel) rfl) ki_Rr_stop ks_Rr_stop kn_Rr ko_Rr_stop) rfl rfl rfl (by decide +kernel) ⟨Nat.le_of_ble_eq_true rfl, Nat.le_of_ble_eq_true rfl⟩) (ci := 9) rfl, fun _ h => absurd h List.not_mem_nil⟩⟩⟩),
    hZ, kst_ok ht hZ (kS_Rf_ok sa), knar_ok ht, ktx_ok (kE_Rf_ok sa)⟩
set_option maxRecDepth 100000 in
theorem ki_Rf_put : Cond.instanceMethod ⟨"RoutingField", "put", "(IIII)Z"⟩ ∈ pw_T := (pw_in 1663 (by decide +kernel) rfl)
set_option maxRecDepth 100000 in
theorem ks_Rf_put : Cond.selects "RoutingField" ⟨"RoutingField", "put", "(IIII)Z"⟩ ⟨"RoutingField", "put", "(IIII)Z"⟩ ∈ pw_T := (pw_in 1664 (by decide +kernel) rfl)
set_option maxRecDepth 100000 in
theorem ko_Rf_put : Cond.code ⟨"RoutingField", "put", "(IIII)Z"⟩ prog_1_method_10_code 9 (some .boolean) ∈ pw_T := (pw_in 1665 rfl rfl)
set_option maxRecDepth 100000 in
theorem kD_Rf_put_0 : ∀ q ∈ kC_Rf_put_0, decode prog_1_method_10_code q.1 = .ok (q.2, pm_len q.1 q.2) := by decide +kernel
set_option maxRecDepth 100000 in
theorem kD_Rf_put_1 : ∀ q ∈ kC_Rf_put_1, decode prog_1_method_10_code q.1 = .ok (q.2, pm_len q.1 q.2) := by decide +kernel
theorem kD_Rf_put : ∀ q ∈ kC_Rf_put, decode prog_1_method_10_code q.1 = .ok (q.2, pm_len q.1 q.2) := List.forall_mem_append.mpr ⟨kD_Rf_put_0, kD_Rf_put_1⟩
set_option maxRecDepth 100000 in
theorem kW_Rf_put (l : Launch) (D : va_G) (base : Nat) (sa : Nat → Nat) : pm_Met l D kcl base (kZ sa) ⟨"RoutingField", "put", "(IIII)Z"⟩ (.code ⟨"RoutingField", "put", "(IIII)Z"⟩ prog_1_method_10_code 9 (some .boolean) :: pw_T) 4 83 (kP_Rf_put base sa) := by
  refine pm_met (by decide) rfl rfl ?_
  intro mc ms p e s m args below meth c hx hb hml hown hnm hts hbs hZ
  have ht : ∀ w ∈ pw_T, w.before args s = true := fun w h => hts w (List.mem_cons_of_mem _ h)
  exact ⟨hx, hb, hown, hbs, pm_look_all kD_Rf_put, kf_ok (init := false) ht hZ kF_Rf_ok (fun h => by cases h), km_ok ht kM_Rf_ok, kci_ok ht kI_Rf_ok, kli_ok ht kJ_Rf_ok, kar_ok ht hZ kA_Rf_ok,
    pm_look_all (List.forall_mem_cons.mpr ⟨pm_cokV hbs hZ ⟨hx, hb, hml, hown, hts⟩ (kW_Rf_linkAt l D base sa) (fun mc ms => cwV 1 hts (pw_gV (pw_in 1620 (w := .methodLink "RoutingField" 132 ⟨"RoutingField", "linkAt", "(I)LRoutingField$Link;"⟩) (by decide +kernel) rfl) ki_Rf_linkAt ks_Rf_linkAt kn_Rf ko_Rf_linkAt) rfl rfl rfl (by decide +kernel) ⟨Nat.le_of_ble_eq_true rfl, Nat.le_of_ble_eq_true rfl⟩) (ci := 11) rfl, List.forall_mem_cons.mpr ⟨pm_cokV hbs hZ ⟨hx, hb, hml, hown, hts⟩ (kW_By_clear l D base sa) (fun mc ms => cwV 0 hts (pw_gV (pw_in 1224 (w := .methodLink "RoutingField" 119 ⟨"RoutingField$Bytes", "clear", "()V"⟩) (by decide +kernel) rfl) ki_By_clear ks_By_clear kn_By ko_By_clear) rfl rfl rfl (by decide +kernel) ⟨Nat.le_of_ble_eq_true rfl, Nat.le_of_ble_eq_true rfl⟩) (ci := 0) rfl, List.forall_mem_cons.mpr ⟨pm_cokV hbs hZ ⟨hx, hb, hml, hown, hts⟩ (kW_By_addPart l D base sa) (fun mc ms => cwV 3 hts (pw_gV (pw_in 1225 (w := .methodLink "RoutingField" 168 ⟨"RoutingField$Bytes", "addPart", "(LRoutingField$Bytes;II)V"⟩) (by decide +kernel) rfl) ki_By_addPart ks_By_addPart kn_By ko_By_addPart) rfl rfl rfl (by decide +kernel) ⟨Nat.le_of_ble_eq_true rfl, Nat.le_of_ble_eq_true rfl⟩) (ci := 0) rfl, List.forall_mem_cons.mpr ⟨pm_cokV hbs hZ ⟨hx, hb, hml, hown, hts⟩ (kW_Pr_takeBytes l D base sa) (fun mc ms => cwV 3 hts (pw_gV (pw_in 1666 (w := .methodLink "RoutingField" 175 ⟨"RoutingField$Prefix", "takeBytes", "(LRoutingField$Bytes;II)V"⟩) (by decide +kernel) rfl) ki_Pr_takeBytes ks_Pr_takeBytes kn_Pr ko_Pr_takeBytes) rfl rfl rfl (by decide +kernel) ⟨Nat.le_of_ble_eq_true rfl, Nat.le_of_ble_eq_true rfl⟩) (ci := 5) rfl, List.forall_mem_cons.mpr ⟨pm_cokV hbs hZ ⟨hx, hb, hml, hown, hts⟩ (kW_Rf_launch l D base sa) (fun mc ms => cwV 1 hts (pw_gV (pw_in 1667 (w := .methodLink "RoutingField" 194 ⟨"RoutingField", "launch", "(LRoutingField$Link;)V"⟩) (by decide +kernel) rfl) ki_Rf_launch ks_Rf_launch kn_Rf ko_Rf_launch) rfl rfl rfl (by decide +kernel) ⟨Nat.le_of_ble_eq_true rfl, Nat.le_of_ble_eq_true rfl⟩) (ci := 11) rfl, fun _ h => absurd h List.not_mem_nil⟩⟩⟩⟩⟩),
    hZ, kst_ok ht hZ (kS_Rf_ok sa), knar_ok ht, ktx_ok (kE_Rf_ok sa)⟩
set_option maxRecDepth 100000 in
theorem ki_By_addText : Cond.instanceMethod ⟨"RoutingField$Bytes", "addText", "(Ljava/lang/String;)V"⟩ ∈ pw_T := (pw_in 1686 (by decide +kernel) rfl)
set_option maxRecDepth 100000 in
theorem ks_By_addText : Cond.selects "RoutingField$Bytes" ⟨"RoutingField$Bytes", "addText", "(Ljava/lang/String;)V"⟩ ⟨"RoutingField$Bytes", "addText", "(Ljava/lang/String;)V"⟩ ∈ pw_T := (pw_in 1687 (by decide +kernel) rfl)
set_option maxRecDepth 100000 in
theorem ko_By_addText : Cond.code ⟨"RoutingField$Bytes", "addText", "(Ljava/lang/String;)V"⟩ prog_2_method_14_code 3 none ∈ pw_T := (pw_in 1688 rfl rfl)
set_option maxRecDepth 100000 in
theorem kD_By_addText : ∀ q ∈ kC_By_addText, decode prog_2_method_14_code q.1 = .ok (q.2, pm_len q.1 q.2) := by decide +kernel
set_option maxRecDepth 100000 in
theorem kW_By_addText (l : Launch) (D : va_G) (base : Nat) (sa : Nat → Nat) : pm_Met l D kcl base (kZ sa) ⟨"RoutingField$Bytes", "addText", "(Ljava/lang/String;)V"⟩ (.code ⟨"RoutingField$Bytes", "addText", "(Ljava/lang/String;)V"⟩ prog_2_method_14_code 3 none :: pw_T) 5 122 (kP_By_addText base sa) := by
  refine pm_met (by decide) rfl rfl ?_
  intro mc ms p e s m args below meth c hx hb hml hown hnm hts hbs hZ
  have ht : ∀ w ∈ pw_T, w.before args s = true := fun w h => hts w (List.mem_cons_of_mem _ h)
  exact ⟨hx, hb, hown, hbs, pm_look_all kD_By_addText, kf_ok (init := false) ht hZ kF_By_ok (fun h => by cases h), km_ok ht kM_By_ok, kci_ok ht kI_By_ok, kli_ok ht kJ_By_ok, kar_ok ht hZ kA_By_ok,
    pm_look_all (List.forall_mem_cons.mpr ⟨pm_cokV hbs hZ ⟨hx, hb, hml, hown, hts⟩ (kW_St_length l D base sa) (fun mc ms => cwV 0 hts (pw_gV (pw_in 1689 (w := .methodLink "RoutingField$Bytes" 51 ⟨"java/lang/String", "length", "()I"⟩) (by decide +kernel) rfl) ki_St_length ks_St_length kn_St ko_St_length) rfl rfl rfl (by decide +kernel) ⟨Nat.le_of_ble_eq_true rfl, Nat.le_of_ble_eq_true rfl⟩) (ci := 13) rfl, List.forall_mem_cons.mpr ⟨pm_cokV hbs hZ ⟨hx, hb, hml, hown, hts⟩ (kW_St_charAt l D base sa) (fun mc ms => cwV 1 hts (pw_gV (pw_in 1690 (w := .methodLink "RoutingField$Bytes" 56 ⟨"java/lang/String", "charAt", "(I)C"⟩) (by decide +kernel) rfl) ki_St_charAt ks_St_charAt kn_St ko_St_charAt) rfl rfl rfl (by decide +kernel) ⟨Nat.le_of_ble_eq_true rfl, Nat.le_of_ble_eq_true rfl⟩) (ci := 13) rfl, List.forall_mem_cons.mpr ⟨pm_cokV hbs hZ ⟨hx, hb, hml, hown, hts⟩ (kW_By_add l D base sa) (fun mc ms => cwV 1 hts (pw_gV (pw_in 269 (w := .methodLink "RoutingField$Bytes" 23 ⟨"RoutingField$Bytes", "add", "(I)V"⟩) (by decide +kernel) rfl) ki_By_add ks_By_add kn_By ko_By_add) rfl rfl rfl (by decide +kernel) ⟨Nat.le_of_ble_eq_true rfl, Nat.le_of_ble_eq_true rfl⟩) (ci := 0) rfl, fun _ h => absurd h List.not_mem_nil⟩⟩⟩),
    hZ, kst_ok ht hZ (kS_By_ok sa), knar_ok ht, ktx_ok (kE_By_ok sa)⟩
set_option maxRecDepth 100000 in
theorem ki_By_word : Cond.instanceMethod ⟨"RoutingField$Bytes", "word", "(Ljava/lang/String;)V"⟩ ∈ pw_T := (pw_in 1682 (by decide +kernel) rfl)
set_option maxRecDepth 100000 in
theorem ks_By_word : Cond.selects "RoutingField$Bytes" ⟨"RoutingField$Bytes", "word", "(Ljava/lang/String;)V"⟩ ⟨"RoutingField$Bytes", "word", "(Ljava/lang/String;)V"⟩ ∈ pw_T := (pw_in 1683 (by decide +kernel) rfl)
set_option maxRecDepth 100000 in
theorem ko_By_word : Cond.code ⟨"RoutingField$Bytes", "word", "(Ljava/lang/String;)V"⟩ prog_2_method_11_code 2 none ∈ pw_T := (pw_in 1684 rfl rfl)
set_option maxRecDepth 100000 in
theorem kD_By_word : ∀ q ∈ kC_By_word, decode prog_2_method_11_code q.1 = .ok (q.2, pm_len q.1 q.2) := by decide +kernel
set_option maxRecDepth 100000 in
theorem kW_By_word (l : Launch) (D : va_G) (base : Nat) (sa : Nat → Nat) : pm_Met l D kcl base (kZ sa) ⟨"RoutingField$Bytes", "word", "(Ljava/lang/String;)V"⟩ (.code ⟨"RoutingField$Bytes", "word", "(Ljava/lang/String;)V"⟩ prog_2_method_11_code 2 none :: pw_T) 6 144 (kP_By_word base sa) := by
  refine pm_met (by decide) rfl rfl ?_
  intro mc ms p e s m args below meth c hx hb hml hown hnm hts hbs hZ
  have ht : ∀ w ∈ pw_T, w.before args s = true := fun w h => hts w (List.mem_cons_of_mem _ h)
  exact ⟨hx, hb, hown, hbs, pm_look_all kD_By_word, kf_ok (init := false) ht hZ kF_By_ok (fun h => by cases h), km_ok ht kM_By_ok, kci_ok ht kI_By_ok, kli_ok ht kJ_By_ok, kar_ok ht hZ kA_By_ok,
    pm_look_all (List.forall_mem_cons.mpr ⟨pm_cokV hbs hZ ⟨hx, hb, hml, hown, hts⟩ (kW_By_add l D base sa) (fun mc ms => cwV 1 hts (pw_gV (pw_in 269 (w := .methodLink "RoutingField$Bytes" 23 ⟨"RoutingField$Bytes", "add", "(I)V"⟩) (by decide +kernel) rfl) ki_By_add ks_By_add kn_By ko_By_add) rfl rfl rfl (by decide +kernel) ⟨Nat.le_of_ble_eq_true rfl, Nat.le_of_ble_eq_true rfl⟩) (ci := 0) rfl, List.forall_mem_cons.mpr ⟨pm_cokV hbs hZ ⟨hx, hb, hml, hown, hts⟩ (kW_By_addText l D base sa) (fun mc ms => cwV 1 hts (pw_gV (pw_in 1685 (w := .methodLink "RoutingField$Bytes" 39 ⟨"RoutingField$Bytes", "addText", "(Ljava/lang/String;)V"⟩) (by decide +kernel) rfl) ki_By_addText ks_By_addText kn_By ko_By_addText) rfl rfl rfl (by decide +kernel) ⟨Nat.le_of_ble_eq_true rfl, Nat.le_of_ble_eq_true rfl⟩) (ci := 0) rfl, fun _ h => absurd h List.not_mem_nil⟩⟩),
    hZ, kst_ok ht hZ (kS_By_ok sa), knar_ok ht, ktx_ok (kE_By_ok sa)⟩
set_option maxRecDepth 100000 in
theorem ki_Pr_part : Cond.instanceMethod ⟨"RoutingField$Prefix", "part", "(I)I"⟩ ∈ pw_T := (pw_in 1704 (by decide +kernel) rfl)
set_option maxRecDepth 100000 in
theorem ks_Pr_part : Cond.selects "RoutingField$Prefix" ⟨"RoutingField$Prefix", "part", "(I)I"⟩ ⟨"RoutingField$Prefix", "part", "(I)I"⟩ ∈ pw_T := (pw_in 1705 (by decide +kernel) rfl)
set_option maxRecDepth 100000 in
theorem ko_Pr_part : Cond.code ⟨"RoutingField$Prefix", "part", "(I)I"⟩ prog_7_method_8_code 2 (some .int) ∈ pw_T := (pw_in 1706 rfl rfl)
set_option maxRecDepth 100000 in
theorem kD_Pr_part : ∀ q ∈ kC_Pr_part, decode prog_7_method_8_code q.1 = .ok (q.2, pm_len q.1 q.2) := by decide +kernel
set_option maxRecDepth 100000 in
theorem kW_Pr_part (l : Launch) (D : va_G) (base : Nat) (sa : Nat → Nat) : pm_Met l D kcl base (kZ sa) ⟨"RoutingField$Prefix", "part", "(I)I"⟩ (.code ⟨"RoutingField$Prefix", "part", "(I)I"⟩ prog_7_method_8_code 2 (some .int) :: pw_T) 0 0 (kP_Pr_part base sa) := by
  refine pm_met (by decide) rfl rfl ?_
  intro mc ms p e s m args below meth c hx hb hml hown hnm hts hbs hZ
  have ht : ∀ w ∈ pw_T, w.before args s = true := fun w h => hts w (List.mem_cons_of_mem _ h)
  exact ⟨hx, hb, hown, hbs, pm_look_all kD_Pr_part, kf_ok (init := false) ht hZ kF_Pr_ok (fun h => by cases h), km_ok ht kM_Pr_ok, kci_ok ht kI_Pr_ok, kli_ok ht kJ_Pr_ok, kar_ok ht hZ kA_Pr_ok,
    pm_look_all (fun _ h => absurd h List.not_mem_nil),
    hZ, kst_ok ht hZ (kS_Pr_ok sa), knar_ok ht, ktx_ok (kE_Pr_ok sa)⟩
set_option maxRecDepth 100000 in
theorem ki_By_addHex : Cond.instanceMethod ⟨"RoutingField$Bytes", "addHex", "(I)V"⟩ ∈ pw_T := (pw_in 1711 (by decide +kernel) rfl)
set_option maxRecDepth 100000 in
theorem ks_By_addHex : Cond.selects "RoutingField$Bytes" ⟨"RoutingField$Bytes", "addHex", "(I)V"⟩ ⟨"RoutingField$Bytes", "addHex", "(I)V"⟩ ∈ pw_T := (pw_sel 91 (q := (⟨"RoutingField$Bytes", "addHex", "(I)V"⟩, 2)) (by decide +kernel))
set_option maxRecDepth 100000 in
theorem ko_By_addHex : Cond.code ⟨"RoutingField$Bytes", "addHex", "(I)V"⟩ prog_2_method_20_code 4 none ∈ pw_T := (pw_in 1712 rfl rfl)
set_option maxRecDepth 100000 in
theorem kD_By_addHex : ∀ q ∈ kC_By_addHex, decode prog_2_method_20_code q.1 = .ok (q.2, pm_len q.1 q.2) := by decide +kernel
set_option maxRecDepth 100000 in
theorem kW_By_addHex (l : Launch) (D : va_G) (base : Nat) (sa : Nat → Nat) : pm_Met l D kcl base (kZ sa) ⟨"RoutingField$Bytes", "addHex", "(I)V"⟩ (.code ⟨"RoutingField$Bytes", "addHex", "(I)V"⟩ prog_2_method_20_code 4 none :: pw_T) 1 23 (kP_By_addHex base sa) := by
  refine pm_met (by decide) rfl rfl ?_
  intro mc ms p e s m args below meth c hx hb hml hown hnm hts hbs hZ
  have ht : ∀ w ∈ pw_T, w.before args s = true := fun w h => hts w (List.mem_cons_of_mem _ h)
  exact ⟨hx, hb, hown, hbs, pm_look_all kD_By_addHex, kf_ok (init := false) ht hZ kF_By_ok (fun h => by cases h), km_ok ht kM_By_ok, kci_ok ht kI_By_ok, kli_ok ht kJ_By_ok, kar_ok ht hZ kA_By_ok,
    pm_look_all (List.forall_mem_cons.mpr ⟨pm_cokV hbs hZ ⟨hx, hb, hml, hown, hts⟩ (kW_By_add l D base sa) (fun mc ms => cwV 1 hts (pw_gV (pw_in 269 (w := .methodLink "RoutingField$Bytes" 23 ⟨"RoutingField$Bytes", "add", "(I)V"⟩) (by decide +kernel) rfl) ki_By_add ks_By_add kn_By ko_By_add) rfl rfl rfl (by decide +kernel) ⟨Nat.le_of_ble_eq_true rfl, Nat.le_of_ble_eq_true rfl⟩) (ci := 0) rfl, fun _ h => absurd h List.not_mem_nil⟩),
    hZ, kst_ok ht hZ (kS_By_ok sa), knar_ok ht, ktx_ok (kE_By_ok sa)⟩
set_option maxRecDepth 100000 in
theorem ki_By_addSix : Cond.instanceMethod ⟨"RoutingField$Bytes", "addSix", "(LRoutingField$Prefix;)V"⟩ ∈ pw_T := (pw_in 1701 (by decide +kernel) rfl)
set_option maxRecDepth 100000 in
theorem ks_By_addSix : Cond.selects "RoutingField$Bytes" ⟨"RoutingField$Bytes", "addSix", "(LRoutingField$Prefix;)V"⟩ ⟨"RoutingField$Bytes", "addSix", "(LRoutingField$Prefix;)V"⟩ ∈ pw_T := (pw_sel 90 (q := (⟨"RoutingField$Bytes", "addSix", "(LRoutingField$Prefix;)V"⟩, 2)) (by decide +kernel))
set_option maxRecDepth 100000 in
theorem ko_By_addSix : Cond.code ⟨"RoutingField$Bytes", "addSix", "(LRoutingField$Prefix;)V"⟩ prog_2_method_19_code 6 none ∈ pw_T := (pw_in 1702 rfl rfl)
set_option maxRecDepth 100000 in
theorem kD_By_addSix_0 : ∀ q ∈ kC_By_addSix_0, decode prog_2_method_19_code q.1 = .ok (q.2, pm_len q.1 q.2) := by decide +kernel
set_option maxRecDepth 100000 in
theorem kD_By_addSix_1 : ∀ q ∈ kC_By_addSix_1, decode prog_2_method_19_code q.1 = .ok (q.2, pm_len q.1 q.2) := by decide +kernel
theorem kD_By_addSix : ∀ q ∈ kC_By_addSix, decode prog_2_method_19_code q.1 = .ok (q.2, pm_len q.1 q.2) := List.forall_mem_append.mpr ⟨kD_By_addSix_0, kD_By_addSix_1⟩
set_option maxRecDepth 100000 in
theorem kW_By_addSix (l : Launch) (D : va_G) (base : Nat) (sa : Nat → Nat) : pm_Met l D kcl base (kZ sa) ⟨"RoutingField$Bytes", "addSix", "(LRoutingField$Prefix;)V"⟩ (.code ⟨"RoutingField$Bytes", "addSix", "(LRoutingField$Prefix;)V"⟩ prog_2_method_19_code 6 none :: pw_T) 6 144 (kP_By_addSix base sa) := by
  refine pm_met (by decide) rfl rfl ?_
  intro mc ms p e s m args below meth c hx hb hml hown hnm hts hbs hZ
  have ht : ∀ w ∈ pw_T, w.before args s = true := fun w h => hts w (List.mem_cons_of_mem _ h)
  exact ⟨hx, hb, hown, hbs, pm_look_all kD_By_addSix, kf_ok (init := false) ht hZ kF_By_ok (fun h => by cases h), km_ok ht kM_By_ok, kci_ok ht kI_By_ok, kli_ok ht kJ_By_ok, kar_ok ht hZ kA_By_ok,
    pm_look_all (List.forall_mem_cons.mpr ⟨pm_cokV hbs hZ ⟨hx, hb, hml, hown, hts⟩ (kW_Pr_part l D base sa) (fun mc ms => cwV 1 hts (pw_gV (pw_in 1703 (w := .methodLink "RoutingField$Bytes" 79 ⟨"RoutingField$Prefix", "part", "(I)I"⟩) (by decide +kernel) rfl) ki_Pr_part ks_Pr_part kn_Pr ko_Pr_part) rfl rfl rfl (by decide +kernel) ⟨Nat.le_of_ble_eq_true rfl, Nat.le_of_ble_eq_true rfl⟩) (ci := 5) rfl, List.forall_mem_cons.mpr ⟨pm_cokV hbs hZ ⟨hx, hb, hml, hown, hts⟩ (kW_By_addText l D base sa) (fun mc ms => cwV 1 hts (pw_gV (pw_in 1685 (w := .methodLink "RoutingField$Bytes" 39 ⟨"RoutingField$Bytes", "addText", "(Ljava/lang/String;)V"⟩) (by decide +kernel) rfl) ki_By_addText ks_By_addText kn_By ko_By_addText) rfl rfl rfl (by decide +kernel) ⟨Nat.le_of_ble_eq_true rfl, Nat.le_of_ble_eq_true rfl⟩) (ci := 0) rfl, List.forall_mem_cons.mpr ⟨pm_cokV hbs hZ ⟨hx, hb, hml, hown, hts⟩ (kW_By_add l D base sa) (fun mc ms => cwV 1 hts (pw_gV (pw_in 269 (w := .methodLink "RoutingField$Bytes" 23 ⟨"RoutingField$Bytes", "add", "(I)V"⟩) (by decide +kernel) rfl) ki_By_add ks_By_add kn_By ko_By_add) rfl rfl rfl (by decide +kernel) ⟨Nat.le_of_ble_eq_true rfl, Nat.le_of_ble_eq_true rfl⟩) (ci := 0) rfl, List.forall_mem_cons.mpr ⟨pm_cokV hbs hZ ⟨hx, hb, hml, hown, hts⟩ (kW_By_addHex l D base sa) (fun mc ms => cwV 1 hts (pw_gV (pw_in 1709 (w := .methodLink "RoutingField$Bytes" 84 ⟨"RoutingField$Bytes", "addHex", "(I)V"⟩) (by decide +kernel) rfl) ki_By_addHex ks_By_addHex kn_By ko_By_addHex) rfl rfl rfl (by decide +kernel) ⟨Nat.le_of_ble_eq_true rfl, Nat.le_of_ble_eq_true rfl⟩) (ci := 0) rfl, fun _ h => absurd h List.not_mem_nil⟩⟩⟩⟩),
    hZ, kst_ok ht hZ (kS_By_ok sa), knar_ok ht, ktx_ok (kE_By_ok sa)⟩
set_option maxRecDepth 100000 in
theorem ki_By_addDecimal : Cond.instanceMethod ⟨"RoutingField$Bytes", "addDecimal", "(I)V"⟩ ∈ pw_T := (pw_in 1715 (by decide +kernel) rfl)
set_option maxRecDepth 100000 in
theorem ks_By_addDecimal : Cond.selects "RoutingField$Bytes" ⟨"RoutingField$Bytes", "addDecimal", "(I)V"⟩ ⟨"RoutingField$Bytes", "addDecimal", "(I)V"⟩ ∈ pw_T := (pw_in 1716 (by decide +kernel) rfl)
set_option maxRecDepth 100000 in
theorem ko_By_addDecimal : Cond.code ⟨"RoutingField$Bytes", "addDecimal", "(I)V"⟩ prog_2_method_15_code 4 none ∈ pw_T := (pw_in 1717 rfl rfl)
set_option maxRecDepth 100000 in
theorem kD_By_addDecimal : ∀ q ∈ kC_By_addDecimal, decode prog_2_method_15_code q.1 = .ok (q.2, pm_len q.1 q.2) := by decide +kernel
set_option maxRecDepth 100000 in
theorem kW_By_addDecimal (l : Launch) (D : va_G) (base : Nat) (sa : Nat → Nat) : pm_Met l D kcl base (kZ sa) ⟨"RoutingField$Bytes", "addDecimal", "(I)V"⟩ (.code ⟨"RoutingField$Bytes", "addDecimal", "(I)V"⟩ prog_2_method_15_code 4 none :: pw_T) 1 23 (kP_By_addDecimal base sa) := by
  refine pm_met (by decide) rfl rfl ?_
  intro mc ms p e s m args below meth c hx hb hml hown hnm hts hbs hZ
  have ht : ∀ w ∈ pw_T, w.before args s = true := fun w h => hts w (List.mem_cons_of_mem _ h)
  exact ⟨hx, hb, hown, hbs, pm_look_all kD_By_addDecimal, kf_ok (init := false) ht hZ kF_By_ok (fun h => by cases h), km_ok ht kM_By_ok, kci_ok ht kI_By_ok, kli_ok ht kJ_By_ok, kar_ok ht hZ kA_By_ok,
    pm_look_all (List.forall_mem_cons.mpr ⟨pm_cokV hbs hZ ⟨hx, hb, hml, hown, hts⟩ (kW_By_add l D base sa) (fun mc ms => cwV 1 hts (pw_gV (pw_in 269 (w := .methodLink "RoutingField$Bytes" 23 ⟨"RoutingField$Bytes", "add", "(I)V"⟩) (by decide +kernel) rfl) ki_By_add ks_By_add kn_By ko_By_add) rfl rfl rfl (by decide +kernel) ⟨Nat.le_of_ble_eq_true rfl, Nat.le_of_ble_eq_true rfl⟩) (ci := 0) rfl, fun _ h => absurd h List.not_mem_nil⟩),
    hZ, kst_ok ht hZ (kS_By_ok sa), knar_ok ht, ktx_ok (kE_By_ok sa)⟩
set_option maxRecDepth 100000 in
theorem ki_By_addAddress : Cond.instanceMethod ⟨"RoutingField$Bytes", "addAddress", "(LRoutingField$Prefix;)V"⟩ ∈ pw_T := (pw_in 1696 (by decide +kernel) rfl)
set_option maxRecDepth 100000 in
theorem ks_By_addAddress : Cond.selects "RoutingField$Bytes" ⟨"RoutingField$Bytes", "addAddress", "(LRoutingField$Prefix;)V"⟩ ⟨"RoutingField$Bytes", "addAddress", "(LRoutingField$Prefix;)V"⟩ ∈ pw_T := (pw_in 1697 (by decide +kernel) rfl)
set_option maxRecDepth 100000 in
theorem ko_By_addAddress : Cond.code ⟨"RoutingField$Bytes", "addAddress", "(LRoutingField$Prefix;)V"⟩ prog_2_method_18_code 3 none ∈ pw_T := (pw_in 1698 rfl rfl)
set_option maxRecDepth 100000 in
theorem kD_By_addAddress : ∀ q ∈ kC_By_addAddress, decode prog_2_method_18_code q.1 = .ok (q.2, pm_len q.1 q.2) := by decide +kernel
set_option maxRecDepth 100000 in
theorem kW_By_addAddress (l : Launch) (D : va_G) (base : Nat) (sa : Nat → Nat) : pm_Met l D kcl base (kZ sa) ⟨"RoutingField$Bytes", "addAddress", "(LRoutingField$Prefix;)V"⟩ (.code ⟨"RoutingField$Bytes", "addAddress", "(LRoutingField$Prefix;)V"⟩ prog_2_method_18_code 3 none :: pw_T) 7 169 (kP_By_addAddress base sa) := by
  refine pm_met (by decide) rfl rfl ?_
  intro mc ms p e s m args below meth c hx hb hml hown hnm hts hbs hZ
  have ht : ∀ w ∈ pw_T, w.before args s = true := fun w h => hts w (List.mem_cons_of_mem _ h)
  exact ⟨hx, hb, hown, hbs, pm_look_all kD_By_addAddress, kf_ok (init := false) ht hZ kF_By_ok (fun h => by cases h), km_ok ht kM_By_ok, kci_ok ht kI_By_ok, kli_ok ht kJ_By_ok, kar_ok ht hZ kA_By_ok,
    pm_look_all (List.forall_mem_cons.mpr ⟨pm_cokV hbs hZ ⟨hx, hb, hml, hown, hts⟩ (kW_By_addSix l D base sa) (fun mc ms => cwV 1 hts (pw_gV (pw_in 1699 (w := .methodLink "RoutingField$Bytes" 70 ⟨"RoutingField$Bytes", "addSix", "(LRoutingField$Prefix;)V"⟩) (by decide +kernel) rfl) ki_By_addSix ks_By_addSix kn_By ko_By_addSix) rfl rfl rfl (by decide +kernel) ⟨Nat.le_of_ble_eq_true rfl, Nat.le_of_ble_eq_true rfl⟩) (ci := 0) rfl, List.forall_mem_cons.mpr ⟨pm_cokV hbs hZ ⟨hx, hb, hml, hown, hts⟩ (kW_By_addDecimal l D base sa) (fun mc ms => cwV 1 hts (pw_gV (pw_in 1714 (w := .methodLink "RoutingField$Bytes" 48 ⟨"RoutingField$Bytes", "addDecimal", "(I)V"⟩) (by decide +kernel) rfl) ki_By_addDecimal ks_By_addDecimal kn_By ko_By_addDecimal) rfl rfl rfl (by decide +kernel) ⟨Nat.le_of_ble_eq_true rfl, Nat.le_of_ble_eq_true rfl⟩) (ci := 0) rfl, List.forall_mem_cons.mpr ⟨pm_cokV hbs hZ ⟨hx, hb, hml, hown, hts⟩ (kW_By_add l D base sa) (fun mc ms => cwV 1 hts (pw_gV (pw_in 269 (w := .methodLink "RoutingField$Bytes" 23 ⟨"RoutingField$Bytes", "add", "(I)V"⟩) (by decide +kernel) rfl) ki_By_add ks_By_add kn_By ko_By_add) rfl rfl rfl (by decide +kernel) ⟨Nat.le_of_ble_eq_true rfl, Nat.le_of_ble_eq_true rfl⟩) (ci := 0) rfl, fun _ h => absurd h List.not_mem_nil⟩⟩⟩),
    hZ, kst_ok ht hZ (kS_By_ok sa), knar_ok ht, ktx_ok (kE_By_ok sa)⟩
set_option maxRecDepth 100000 in
theorem ki_By_addPrefix : Cond.instanceMethod ⟨"RoutingField$Bytes", "addPrefix", "(LRoutingField$Prefix;)V"⟩ ∈ pw_T := (pw_in 1692 (by decide +kernel) rfl)
set_option maxRecDepth 100000 in
theorem ks_By_addPrefix : Cond.selects "RoutingField$Bytes" ⟨"RoutingField$Bytes", "addPrefix", "(LRoutingField$Prefix;)V"⟩ ⟨"RoutingField$Bytes", "addPrefix", "(LRoutingField$Prefix;)V"⟩ ∈ pw_T := (pw_in 1693 (by decide +kernel) rfl)
set_option maxRecDepth 100000 in
theorem ko_By_addPrefix : Cond.code ⟨"RoutingField$Bytes", "addPrefix", "(LRoutingField$Prefix;)V"⟩ prog_2_method_17_code 2 none ∈ pw_T := (pw_in 1694 rfl rfl)
set_option maxRecDepth 100000 in
theorem kD_By_addPrefix : ∀ q ∈ kC_By_addPrefix, decode prog_2_method_17_code q.1 = .ok (q.2, pm_len q.1 q.2) := by decide +kernel
set_option maxRecDepth 100000 in
theorem kW_By_addPrefix (l : Launch) (D : va_G) (base : Nat) (sa : Nat → Nat) : pm_Met l D kcl base (kZ sa) ⟨"RoutingField$Bytes", "addPrefix", "(LRoutingField$Prefix;)V"⟩ (.code ⟨"RoutingField$Bytes", "addPrefix", "(LRoutingField$Prefix;)V"⟩ prog_2_method_17_code 2 none :: pw_T) 8 191 (kP_By_addPrefix base sa) := by
  refine pm_met (by decide) rfl rfl ?_
  intro mc ms p e s m args below meth c hx hb hml hown hnm hts hbs hZ
  have ht : ∀ w ∈ pw_T, w.before args s = true := fun w h => hts w (List.mem_cons_of_mem _ h)
  exact ⟨hx, hb, hown, hbs, pm_look_all kD_By_addPrefix, kf_ok (init := false) ht hZ kF_By_ok (fun h => by cases h), km_ok ht kM_By_ok, kci_ok ht kI_By_ok, kli_ok ht kJ_By_ok, kar_ok ht hZ kA_By_ok,
    pm_look_all (List.forall_mem_cons.mpr ⟨pm_cokV hbs hZ ⟨hx, hb, hml, hown, hts⟩ (kW_By_addAddress l D base sa) (fun mc ms => cwV 1 hts (pw_gV (pw_in 1695 (w := .methodLink "RoutingField$Bytes" 60 ⟨"RoutingField$Bytes", "addAddress", "(LRoutingField$Prefix;)V"⟩) (by decide +kernel) rfl) ki_By_addAddress ks_By_addAddress kn_By ko_By_addAddress) rfl rfl rfl (by decide +kernel) ⟨Nat.le_of_ble_eq_true rfl, Nat.le_of_ble_eq_true rfl⟩) (ci := 0) rfl, List.forall_mem_cons.mpr ⟨pm_cokV hbs hZ ⟨hx, hb, hml, hown, hts⟩ (kW_By_add l D base sa) (fun mc ms => cwV 1 hts (pw_gV (pw_in 269 (w := .methodLink "RoutingField$Bytes" 23 ⟨"RoutingField$Bytes", "add", "(I)V"⟩) (by decide +kernel) rfl) ki_By_add ks_By_add kn_By ko_By_add) rfl rfl rfl (by decide +kernel) ⟨Nat.le_of_ble_eq_true rfl, Nat.le_of_ble_eq_true rfl⟩) (ci := 0) rfl, List.forall_mem_cons.mpr ⟨pm_cokV hbs hZ ⟨hx, hb, hml, hown, hts⟩ (kW_By_addDecimal l D base sa) (fun mc ms => cwV 1 hts (pw_gV (pw_in 1714 (w := .methodLink "RoutingField$Bytes" 48 ⟨"RoutingField$Bytes", "addDecimal", "(I)V"⟩) (by decide +kernel) rfl) ki_By_addDecimal ks_By_addDecimal kn_By ko_By_addDecimal) rfl rfl rfl (by decide +kernel) ⟨Nat.le_of_ble_eq_true rfl, Nat.le_of_ble_eq_true rfl⟩) (ci := 0) rfl, fun _ h => absurd h List.not_mem_nil⟩⟩⟩),
    hZ, kst_ok ht hZ (kS_By_ok sa), knar_ok ht, ktx_ok (kE_By_ok sa)⟩
set_option maxRecDepth 100000 in
theorem ki_By_wordNumber : Cond.instanceMethod ⟨"RoutingField$Bytes", "wordNumber", "(I)V"⟩ ∈ pw_T := (pw_in 1719 (by decide +kernel) rfl)
set_option maxRecDepth 100000 in
theorem ks_By_wordNumber : Cond.selects "RoutingField$Bytes" ⟨"RoutingField$Bytes", "wordNumber", "(I)V"⟩ ⟨"RoutingField$Bytes", "wordNumber", "(I)V"⟩ ∈ pw_T := (pw_in 1720 (by decide +kernel) rfl)
set_option maxRecDepth 100000 in
theorem ko_By_wordNumber : Cond.code ⟨"RoutingField$Bytes", "wordNumber", "(I)V"⟩ prog_2_method_12_code 2 none ∈ pw_T := (pw_in 1721 rfl rfl)
set_option maxRecDepth 100000 in
theorem kD_By_wordNumber : ∀ q ∈ kC_By_wordNumber, decode prog_2_method_12_code q.1 = .ok (q.2, pm_len q.1 q.2) := by decide +kernel
set_option maxRecDepth 100000 in
theorem kW_By_wordNumber (l : Launch) (D : va_G) (base : Nat) (sa : Nat → Nat) : pm_Met l D kcl base (kZ sa) ⟨"RoutingField$Bytes", "wordNumber", "(I)V"⟩ (.code ⟨"RoutingField$Bytes", "wordNumber", "(I)V"⟩ prog_2_method_12_code 2 none :: pw_T) 7 165 (kP_By_wordNumber base sa) := by
  refine pm_met (by decide) rfl rfl ?_
  intro mc ms p e s m args below meth c hx hb hml hown hnm hts hbs hZ
  have ht : ∀ w ∈ pw_T, w.before args s = true := fun w h => hts w (List.mem_cons_of_mem _ h)
  exact ⟨hx, hb, hown, hbs, pm_look_all kD_By_wordNumber, kf_ok (init := false) ht hZ kF_By_ok (fun h => by cases h), km_ok ht kM_By_ok, kci_ok ht kI_By_ok, kli_ok ht kJ_By_ok, kar_ok ht hZ kA_By_ok,
    pm_look_all (List.forall_mem_cons.mpr ⟨pm_cokV hbs hZ ⟨hx, hb, hml, hown, hts⟩ (kW_By_word l D base sa) (fun mc ms => cwV 1 hts (pw_gV (pw_in 1723 (w := .methodLink "RoutingField$Bytes" 45 ⟨"RoutingField$Bytes", "word", "(Ljava/lang/String;)V"⟩) (by decide +kernel) rfl) ki_By_word ks_By_word kn_By ko_By_word) rfl rfl rfl (by decide +kernel) ⟨Nat.le_of_ble_eq_true rfl, Nat.le_of_ble_eq_true rfl⟩) (ci := 0) rfl, List.forall_mem_cons.mpr ⟨pm_cokV hbs hZ ⟨hx, hb, hml, hown, hts⟩ (kW_By_addDecimal l D base sa) (fun mc ms => cwV 1 hts (pw_gV (pw_in 1714 (w := .methodLink "RoutingField$Bytes" 48 ⟨"RoutingField$Bytes", "addDecimal", "(I)V"⟩) (by decide +kernel) rfl) ki_By_addDecimal ks_By_addDecimal kn_By ko_By_addDecimal) rfl rfl rfl (by decide +kernel) ⟨Nat.le_of_ble_eq_true rfl, Nat.le_of_ble_eq_true rfl⟩) (ci := 0) rfl, fun _ h => absurd h List.not_mem_nil⟩⟩),
    hZ, kst_ok ht hZ (kS_By_ok sa), knar_ok ht, ktx_ok (kE_By_ok sa)⟩
