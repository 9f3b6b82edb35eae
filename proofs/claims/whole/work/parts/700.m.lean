set_option maxRecDepth 100000 in
theorem ki_By_init : Cond.instanceMethod ⟨"RoutingField$Bytes", "<init>", "(I)V"⟩ ∈ pw_T := (pw_in 36 (by decide +kernel) rfl)
set_option maxRecDepth 100000 in
theorem ko_By_init : Cond.code ⟨"RoutingField$Bytes", "<init>", "(I)V"⟩ prog_2_method_1_code 2 none ∈ pw_T := (pw_in 37 rfl rfl)
set_option maxRecDepth 100000 in
theorem kD_By_init : ∀ q ∈ kC_By_init, decode prog_2_method_1_code q.1 = .ok (q.2, pm_len q.1 q.2) := by decide +kernel
set_option maxRecDepth 100000 in
theorem kW_By_init (l : Launch) (D : va_G) (base : Nat) (sa : Nat → Nat) : pm_Met l D kcl base (kZ sa) ⟨"RoutingField$Bytes", "<init>", "(I)V"⟩ (.code ⟨"RoutingField$Bytes", "<init>", "(I)V"⟩ prog_2_method_1_code 2 none :: pw_T) 1 20 (kP_By_init base sa) := by
  refine pm_met (by decide) rfl rfl ?_
  intro mc ms p e s m args below meth c hx hb hml hown hnm hts hbs hZ
  have ht : ∀ w ∈ pw_T, w.before args s = true := fun w h => hts w (List.mem_cons_of_mem _ h)
  exact ⟨hx, hb, hown, hbs, pm_look_all kD_By_init, kf_ok (init := true) ht hZ kF_By_ok (fun _ => hnm), km_ok ht kM_By_ok, kci_ok ht kI_By_ok, kli_ok ht kJ_By_ok, kar_ok ht hZ kA_By_ok,
    pm_look_all (List.forall_mem_cons.mpr ⟨pm_cokO hx hb hml hown (ht _ (pw_in 38 (by decide +kernel) rfl)) (ht _ (pw_in 31 (by decide +kernel) rfl)) (ht _ (pw_in 32 rfl rfl)) (Nat.le_of_ble_eq_true rfl) (Nat.le_of_ble_eq_true rfl), fun _ h => absurd h List.not_mem_nil⟩),
    hZ, kst_ok ht hZ (kS_By_ok sa), knar_ok ht, ktx_ok (kE_By_ok sa)⟩
set_option maxRecDepth 100000 in
theorem ki_Pr_init : Cond.instanceMethod ⟨"RoutingField$Prefix", "<init>", "()V"⟩ ∈ pw_T := (pw_in 71 (by decide +kernel) rfl)
set_option maxRecDepth 100000 in
theorem ko_Pr_init : Cond.code ⟨"RoutingField$Prefix", "<init>", "()V"⟩ prog_7_method_1_code 1 none ∈ pw_T := (pw_in 72 rfl rfl)
set_option maxRecDepth 100000 in
theorem kD_Pr_init : ∀ q ∈ kC_Pr_init, decode prog_7_method_1_code q.1 = .ok (q.2, pm_len q.1 q.2) := by decide +kernel
set_option maxRecDepth 100000 in
theorem kW_Pr_init (l : Launch) (D : va_G) (base : Nat) (sa : Nat → Nat) : pm_Met l D kcl base (kZ sa) ⟨"RoutingField$Prefix", "<init>", "()V"⟩ (.code ⟨"RoutingField$Prefix", "<init>", "()V"⟩ prog_7_method_1_code 1 none :: pw_T) 1 20 (kP_Pr_init base sa) := by
  refine pm_met (by decide) rfl rfl ?_
  intro mc ms p e s m args below meth c hx hb hml hown hnm hts hbs hZ
  have ht : ∀ w ∈ pw_T, w.before args s = true := fun w h => hts w (List.mem_cons_of_mem _ h)
  exact ⟨hx, hb, hown, hbs, pm_look_all kD_Pr_init, kf_ok (init := true) ht hZ kF_Pr_ok (fun _ => hnm), km_ok ht kM_Pr_ok, kci_ok ht kI_Pr_ok, kli_ok ht kJ_Pr_ok, kar_ok ht hZ kA_Pr_ok,
    pm_look_all (List.forall_mem_cons.mpr ⟨pm_cokO hx hb hml hown (ht _ (pw_in 73 (by decide +kernel) rfl)) (ht _ (pw_in 31 (by decide +kernel) rfl)) (ht _ (pw_in 32 rfl rfl)) (Nat.le_of_ble_eq_true rfl) (Nat.le_of_ble_eq_true rfl), fun _ h => absurd h List.not_mem_nil⟩),
    hZ, kst_ok ht hZ (kS_Pr_ok sa), knar_ok ht, ktx_ok (kE_Pr_ok sa)⟩
set_option maxRecDepth 100000 in
theorem ki_Da_init : Cond.instanceMethod ⟨"RoutingField$Datagram", "<init>", "()V"⟩ ∈ pw_T := (pw_in 63 (by decide +kernel) rfl)
set_option maxRecDepth 100000 in
theorem ko_Da_init : Cond.code ⟨"RoutingField$Datagram", "<init>", "()V"⟩ prog_4_method_1_code 1 none ∈ pw_T := (pw_in 64 rfl rfl)
set_option maxRecDepth 100000 in
theorem kD_Da_init : ∀ q ∈ kC_Da_init, decode prog_4_method_1_code q.1 = .ok (q.2, pm_len q.1 q.2) := by decide +kernel
set_option maxRecDepth 100000 in
theorem kW_Da_init (l : Launch) (D : va_G) (base : Nat) (sa : Nat → Nat) : pm_Met l D kcl base (kZ sa) ⟨"RoutingField$Datagram", "<init>", "()V"⟩ (.code ⟨"RoutingField$Datagram", "<init>", "()V"⟩ prog_4_method_1_code 1 none :: pw_T) 2 41 (kP_Da_init base sa) := by
  refine pm_met (by decide) rfl rfl ?_
  intro mc ms p e s m args below meth c hx hb hml hown hnm hts hbs hZ
  have ht : ∀ w ∈ pw_T, w.before args s = true := fun w h => hts w (List.mem_cons_of_mem _ h)
  exact ⟨hx, hb, hown, hbs, pm_look_all kD_Da_init, kf_ok (init := true) ht hZ kF_Da_ok (fun _ => hnm), km_ok ht kM_Da_ok, kci_ok ht kI_Da_ok, kli_ok ht kJ_Da_ok, kar_ok ht hZ kA_Da_ok,
    pm_look_all (List.forall_mem_cons.mpr ⟨pm_cokO hx hb hml hown (ht _ (pw_in 65 (by decide +kernel) rfl)) (ht _ (pw_in 31 (by decide +kernel) rfl)) (ht _ (pw_in 32 rfl rfl)) (Nat.le_of_ble_eq_true rfl) (Nat.le_of_ble_eq_true rfl), List.forall_mem_cons.mpr ⟨pm_cokI hbs hZ ⟨hx, hb, hml, hown, hts⟩ (kW_By_init l D base sa) (fun mc ms => cwI 1 hts (pw_gC ko_By_init) rfl rfl rfl (ht _ kn_By) (ht _ (pw_in 67 (w := .methodLink "RoutingField$Datagram" 11 ⟨"RoutingField$Bytes", "<init>", "(I)V"⟩) (by decide +kernel) rfl)) (ht _ ki_By_init) rfl (by decide +kernel) ⟨Nat.le_of_ble_eq_true rfl, Nat.le_of_ble_eq_true rfl⟩), List.forall_mem_cons.mpr ⟨pm_cokI hbs hZ ⟨hx, hb, hml, hown, hts⟩ (kW_Pr_init l D base sa) (fun mc ms => cwI 0 hts (pw_gC ko_Pr_init) rfl rfl rfl (ht _ kn_Pr) (ht _ (pw_in 70 (w := .methodLink "RoutingField$Datagram" 22 ⟨"RoutingField$Prefix", "<init>", "()V"⟩) (by decide +kernel) rfl)) (ht _ ki_Pr_init) rfl (by decide +kernel) ⟨Nat.le_of_ble_eq_true rfl, Nat.le_of_ble_eq_true rfl⟩), fun _ h => absurd h List.not_mem_nil⟩⟩⟩),
    hZ, kst_ok ht hZ (kS_Da_ok sa), knar_ok ht, ktx_ok (kE_Da_ok sa)⟩
set_option maxRecDepth 100000 in
theorem ki_Ta_init : Cond.instanceMethod ⟨"RoutingField$Table", "<init>", "()V"⟩ ∈ pw_T := (pw_in 168 (by decide +kernel) rfl)
set_option maxRecDepth 100000 in
theorem ko_Ta_init : Cond.code ⟨"RoutingField$Table", "<init>", "()V"⟩ prog_12_method_1_code 1 none ∈ pw_T := (pw_in 169 rfl rfl)
set_option maxRecDepth 100000 in
theorem kD_Ta_init : ∀ q ∈ kC_Ta_init, decode prog_12_method_1_code q.1 = .ok (q.2, pm_len q.1 q.2) := by decide +kernel
set_option maxRecDepth 100000 in
theorem kW_Ta_init (l : Launch) (D : va_G) (base : Nat) (sa : Nat → Nat) : pm_Met l D kcl base (kZ sa) ⟨"RoutingField$Table", "<init>", "()V"⟩ (.code ⟨"RoutingField$Table", "<init>", "()V"⟩ prog_12_method_1_code 1 none :: pw_T) 1 20 (kP_Ta_init base sa) := by
  refine pm_met (by decide) rfl rfl ?_
  intro mc ms p e s m args below meth c hx hb hml hown hnm hts hbs hZ
  have ht : ∀ w ∈ pw_T, w.before args s = true := fun w h => hts w (List.mem_cons_of_mem _ h)
  exact ⟨hx, hb, hown, hbs, pm_look_all kD_Ta_init, kf_ok (init := true) ht hZ kF_Ta_ok (fun _ => hnm), km_ok ht kM_Ta_ok, kci_ok ht kI_Ta_ok, kli_ok ht kJ_Ta_ok, kar_ok ht hZ kA_Ta_ok,
    pm_look_all (List.forall_mem_cons.mpr ⟨pm_cokO hx hb hml hown (ht _ (pw_in 170 (by decide +kernel) rfl)) (ht _ (pw_in 31 (by decide +kernel) rfl)) (ht _ (pw_in 32 rfl rfl)) (Nat.le_of_ble_eq_true rfl) (Nat.le_of_ble_eq_true rfl), fun _ h => absurd h List.not_mem_nil⟩),
    hZ, kst_ok ht hZ (kS_Ta_ok sa), knar_ok ht, ktx_ok (kE_Ta_ok sa)⟩
set_option maxRecDepth 100000 in
theorem ki_Rf_init : Cond.instanceMethod ⟨"RoutingField", "<init>", "()V"⟩ ∈ pw_T := (pw_in 28 (by decide +kernel) rfl)
set_option maxRecDepth 100000 in
theorem ko_Rf_init : Cond.code ⟨"RoutingField", "<init>", "()V"⟩ prog_1_method_1_code 1 none ∈ pw_T := (pw_in 29 rfl rfl)
set_option maxRecDepth 100000 in
theorem kD_Rf_init_0 : ∀ q ∈ kC_Rf_init_0, decode prog_1_method_1_code q.1 = .ok (q.2, pm_len q.1 q.2) := by decide +kernel
set_option maxRecDepth 100000 in
theorem kD_Rf_init_1 : ∀ q ∈ kC_Rf_init_1, decode prog_1_method_1_code q.1 = .ok (q.2, pm_len q.1 q.2) := by decide +kernel
theorem kD_Rf_init : ∀ q ∈ kC_Rf_init, decode prog_1_method_1_code q.1 = .ok (q.2, pm_len q.1 q.2) := List.forall_mem_append.mpr ⟨kD_Rf_init_0, kD_Rf_init_1⟩
set_option maxRecDepth 100000 in
theorem kW_Rf_init (l : Launch) (D : va_G) (base : Nat) (sa : Nat → Nat) : pm_Met l D kcl base (kZ sa) ⟨"RoutingField", "<init>", "()V"⟩ (.code ⟨"RoutingField", "<init>", "()V"⟩ prog_1_method_1_code 1 none :: pw_T) 3 61 (kP_Rf_init base sa) := by
  refine pm_met (by decide) rfl rfl ?_
  intro mc ms p e s m args below meth c hx hb hml hown hnm hts hbs hZ
  have ht : ∀ w ∈ pw_T, w.before args s = true := fun w h => hts w (List.mem_cons_of_mem _ h)
  exact ⟨hx, hb, hown, hbs, pm_look_all kD_Rf_init, kf_ok (init := true) ht hZ kF_Rf_ok (fun _ => hnm), km_ok ht kM_Rf_ok, kci_ok ht kI_Rf_ok, kli_ok ht kJ_Rf_ok, kar_ok ht hZ kA_Rf_ok,
    pm_look_all (List.forall_mem_cons.mpr ⟨pm_cokO hx hb hml hown (ht _ (pw_in 30 (by decide +kernel) rfl)) (ht _ (pw_in 31 (by decide +kernel) rfl)) (ht _ (pw_in 32 rfl rfl)) (Nat.le_of_ble_eq_true rfl) (Nat.le_of_ble_eq_true rfl), List.forall_mem_cons.mpr ⟨pm_cokI hbs hZ ⟨hx, hb, hml, hown, hts⟩ (kW_By_init l D base sa) (fun mc ms => cwI 1 hts (pw_gC ko_By_init) rfl rfl rfl (ht _ kn_By) (ht _ (pw_in 35 (w := .methodLink "RoutingField" 11 ⟨"RoutingField$Bytes", "<init>", "(I)V"⟩) (by decide +kernel) rfl)) (ht _ ki_By_init) rfl (by decide +kernel) ⟨Nat.le_of_ble_eq_true rfl, Nat.le_of_ble_eq_true rfl⟩), List.forall_mem_cons.mpr ⟨pm_cokI hbs hZ ⟨hx, hb, hml, hown, hts⟩ (kW_Da_init l D base sa) (fun mc ms => cwI 0 hts (pw_gC ko_Da_init) rfl rfl rfl (ht _ kn_Da) (ht _ (pw_in 62 (w := .methodLink "RoutingField" 77 ⟨"RoutingField$Datagram", "<init>", "()V"⟩) (by decide +kernel) rfl)) (ht _ ki_Da_init) rfl (by decide +kernel) ⟨Nat.le_of_ble_eq_true rfl, Nat.le_of_ble_eq_true rfl⟩), List.forall_mem_cons.mpr ⟨pm_cokI hbs hZ ⟨hx, hb, hml, hown, hts⟩ (kW_Ta_init l D base sa) (fun mc ms => cwI 0 hts (pw_gC ko_Ta_init) rfl rfl rfl (ht _ kn_Ta) (ht _ (pw_in 167 (w := .methodLink "RoutingField" 84 ⟨"RoutingField$Table", "<init>", "()V"⟩) (by decide +kernel) rfl)) (ht _ ki_Ta_init) rfl (by decide +kernel) ⟨Nat.le_of_ble_eq_true rfl, Nat.le_of_ble_eq_true rfl⟩), List.forall_mem_cons.mpr ⟨pm_cokI hbs hZ ⟨hx, hb, hml, hown, hts⟩ (kW_Pr_init l D base sa) (fun mc ms => cwI 0 hts (pw_gC ko_Pr_init) rfl rfl rfl (ht _ kn_Pr) (ht _ (pw_in 186 (w := .methodLink "RoutingField" 91 ⟨"RoutingField$Prefix", "<init>", "()V"⟩) (by decide +kernel) rfl)) (ht _ ki_Pr_init) rfl (by decide +kernel) ⟨Nat.le_of_ble_eq_true rfl, Nat.le_of_ble_eq_true rfl⟩), fun _ h => absurd h List.not_mem_nil⟩⟩⟩⟩⟩),
    hZ, kst_ok ht hZ (kS_Rf_ok sa), knar_ok ht, ktx_ok (kE_Rf_ok sa)⟩
set_option maxRecDepth 100000 in
theorem ki_By_add : Cond.instanceMethod ⟨"RoutingField$Bytes", "add", "(I)V"⟩ ∈ pw_T := (pw_in 270 (by decide +kernel) rfl)
set_option maxRecDepth 100000 in
theorem ks_By_add : Cond.selects "RoutingField$Bytes" ⟨"RoutingField$Bytes", "add", "(I)V"⟩ ⟨"RoutingField$Bytes", "add", "(I)V"⟩ ∈ pw_T := (pw_in 271 (by decide +kernel) rfl)
set_option maxRecDepth 100000 in
theorem ko_By_add : Cond.code ⟨"RoutingField$Bytes", "add", "(I)V"⟩ prog_2_method_7_code 4 none ∈ pw_T := (pw_in 272 rfl rfl)
set_option maxRecDepth 100000 in
theorem kD_By_add : ∀ q ∈ kC_By_add, decode prog_2_method_7_code q.1 = .ok (q.2, pm_len q.1 q.2) := by decide +kernel
set_option maxRecDepth 100000 in
theorem kW_By_add (l : Launch) (D : va_G) (base : Nat) (sa : Nat → Nat) : pm_Met l D kcl base (kZ sa) ⟨"RoutingField$Bytes", "add", "(I)V"⟩ (.code ⟨"RoutingField$Bytes", "add", "(I)V"⟩ prog_2_method_7_code 4 none :: pw_T) 0 0 (kP_By_add base sa) := by
  refine pm_met (by decide) rfl rfl ?_
  intro mc ms p e s m args below meth c hx hb hml hown hnm hts hbs hZ
  have ht : ∀ w ∈ pw_T, w.before args s = true := fun w h => hts w (List.mem_cons_of_mem _ h)
  exact ⟨hx, hb, hown, hbs, pm_look_all kD_By_add, kf_ok (init := false) ht hZ kF_By_ok (fun h => by cases h), km_ok ht kM_By_ok, kci_ok ht kI_By_ok, kli_ok ht kJ_By_ok, kar_ok ht hZ kA_By_ok,
    pm_look_all (fun _ h => absurd h List.not_mem_nil),
    hZ, kst_ok ht hZ (kS_By_ok sa), knar_ok ht, ktx_ok (kE_By_ok sa)⟩
set_option maxRecDepth 100000 in
theorem ki_By_addNumber : Cond.instanceMethod ⟨"RoutingField$Bytes", "addNumber", "(JI)V"⟩ ∈ pw_T := (pw_in 266 (by decide +kernel) rfl)
set_option maxRecDepth 100000 in
theorem ks_By_addNumber : Cond.selects "RoutingField$Bytes" ⟨"RoutingField$Bytes", "addNumber", "(JI)V"⟩ ⟨"RoutingField$Bytes", "addNumber", "(JI)V"⟩ ∈ pw_T := (pw_in 267 (by decide +kernel) rfl)
set_option maxRecDepth 100000 in
theorem ko_By_addNumber : Cond.code ⟨"RoutingField$Bytes", "addNumber", "(JI)V"⟩ prog_2_method_8_code 5 none ∈ pw_T := (pw_in 268 rfl rfl)
set_option maxRecDepth 100000 in
theorem kD_By_addNumber : ∀ q ∈ kC_By_addNumber, decode prog_2_method_8_code q.1 = .ok (q.2, pm_len q.1 q.2) := by decide +kernel
set_option maxRecDepth 100000 in
theorem kW_By_addNumber (l : Launch) (D : va_G) (base : Nat) (sa : Nat → Nat) : pm_Met l D kcl base (kZ sa) ⟨"RoutingField$Bytes", "addNumber", "(JI)V"⟩ (.code ⟨"RoutingField$Bytes", "addNumber", "(JI)V"⟩ prog_2_method_8_code 5 none :: pw_T) 1 23 (kP_By_addNumber base sa) := by
  refine pm_met (by decide) rfl rfl ?_
  intro mc ms p e s m args below meth c hx hb hml hown hnm hts hbs hZ
  have ht : ∀ w ∈ pw_T, w.before args s = true := fun w h => hts w (List.mem_cons_of_mem _ h)
  exact ⟨hx, hb, hown, hbs, pm_look_all kD_By_addNumber, kf_ok (init := false) ht hZ kF_By_ok (fun h => by cases h), km_ok ht kM_By_ok, kci_ok ht kI_By_ok, kli_ok ht kJ_By_ok, kar_ok ht hZ kA_By_ok,
    pm_look_all (List.forall_mem_cons.mpr ⟨pm_cokV hbs hZ ⟨hx, hb, hml, hown, hts⟩ (kW_By_add l D base sa) (fun mc ms => cwV 1 hts (pw_gV (pw_in 269 (w := .methodLink "RoutingField$Bytes" 23 ⟨"RoutingField$Bytes", "add", "(I)V"⟩) (by decide +kernel) rfl) ki_By_add ks_By_add kn_By ko_By_add) rfl rfl rfl (by decide +kernel) ⟨Nat.le_of_ble_eq_true rfl, Nat.le_of_ble_eq_true rfl⟩) (ci := 0) rfl, fun _ h => absurd h List.not_mem_nil⟩),
    hZ, kst_ok ht hZ (kS_By_ok sa), knar_ok ht, ktx_ok (kE_By_ok sa)⟩
set_option maxRecDepth 100000 in
theorem ki_Rf_feed : Cond.instanceMethod ⟨"RoutingField", "feed", "(IIIII)Z"⟩ ∈ pw_T := (pw_in 262 (by decide +kernel) rfl)
set_option maxRecDepth 100000 in
theorem ks_Rf_feed : Cond.selects "RoutingField" ⟨"RoutingField", "feed", "(IIIII)Z"⟩ ⟨"RoutingField", "feed", "(IIIII)Z"⟩ ∈ pw_T := (pw_in 263 (by decide +kernel) rfl)
set_option maxRecDepth 100000 in
theorem ko_Rf_feed : Cond.code ⟨"RoutingField", "feed", "(IIIII)Z"⟩ prog_1_method_2_code 6 (some .boolean) ∈ pw_T := (pw_in 264 rfl rfl)
set_option maxRecDepth 100000 in
theorem kD_Rf_feed : ∀ q ∈ kC_Rf_feed, decode prog_1_method_2_code q.1 = .ok (q.2, pm_len q.1 q.2) := by decide +kernel
set_option maxRecDepth 100000 in
theorem kW_Rf_feed (l : Launch) (D : va_G) (base : Nat) (sa : Nat → Nat) : pm_Met l D kcl base (kZ sa) ⟨"RoutingField", "feed", "(IIIII)Z"⟩ (.code ⟨"RoutingField", "feed", "(IIIII)Z"⟩ prog_1_method_2_code 6 (some .boolean) :: pw_T) 2 47 (kP_Rf_feed base sa) := by
  refine pm_met (by decide) rfl rfl ?_
  intro mc ms p e s m args below meth c hx hb hml hown hnm hts hbs hZ
  have ht : ∀ w ∈ pw_T, w.before args s = true := fun w h => hts w (List.mem_cons_of_mem _ h)
  exact ⟨hx, hb, hown, hbs, pm_look_all kD_Rf_feed, kf_ok (init := false) ht hZ kF_Rf_ok (fun h => by cases h), km_ok ht kM_Rf_ok, kci_ok ht kI_Rf_ok, kli_ok ht kJ_Rf_ok, kar_ok ht hZ kA_Rf_ok,
    pm_look_all (List.forall_mem_cons.mpr ⟨pm_cokV hbs hZ ⟨hx, hb, hml, hown, hts⟩ (kW_By_addNumber l D base sa) (fun mc ms => cwV 2 hts (pw_gV (pw_in 265 (w := .methodLink "RoutingField" 102 ⟨"RoutingField$Bytes", "addNumber", "(JI)V"⟩) (by decide +kernel) rfl) ki_By_addNumber ks_By_addNumber kn_By ko_By_addNumber) rfl rfl rfl (by decide +kernel) ⟨Nat.le_of_ble_eq_true rfl, Nat.le_of_ble_eq_true rfl⟩) (ci := 0) rfl, fun _ h => absurd h List.not_mem_nil⟩),
    hZ, kst_ok ht hZ (kS_Rf_ok sa), knar_ok ht, ktx_ok (kE_Rf_ok sa)⟩
set_option maxRecDepth 100000 in
theorem ki_Rf_end : Cond.instanceMethod ⟨"RoutingField", "end", "(I)Z"⟩ ∈ pw_T := (pw_in 274 (by decide +kernel) rfl)
set_option maxRecDepth 100000 in
theorem ks_Rf_end : Cond.selects "RoutingField" ⟨"RoutingField", "end", "(I)Z"⟩ ⟨"RoutingField", "end", "(I)Z"⟩ ∈ pw_T := (pw_in 275 (by decide +kernel) rfl)
set_option maxRecDepth 100000 in
theorem ko_Rf_end : Cond.code ⟨"RoutingField", "end", "(I)Z"⟩ prog_1_method_3_code 2 (some .boolean) ∈ pw_T := (pw_in 276 rfl rfl)
set_option maxRecDepth 100000 in
theorem kD_Rf_end : ∀ q ∈ kC_Rf_end, decode prog_1_method_3_code q.1 = .ok (q.2, pm_len q.1 q.2) := by decide +kernel
set_option maxRecDepth 100000 in
theorem kW_Rf_end (l : Launch) (D : va_G) (base : Nat) (sa : Nat → Nat) : pm_Met l D kcl base (kZ sa) ⟨"RoutingField", "end", "(I)Z"⟩ (.code ⟨"RoutingField", "end", "(I)Z"⟩ prog_1_method_3_code 2 (some .boolean) :: pw_T) 0 0 (kP_Rf_end base sa) := by
  refine pm_met (by decide) rfl rfl ?_
  intro mc ms p e s m args below meth c hx hb hml hown hnm hts hbs hZ
  have ht : ∀ w ∈ pw_T, w.before args s = true := fun w h => hts w (List.mem_cons_of_mem _ h)
  exact ⟨hx, hb, hown, hbs, pm_look_all kD_Rf_end, kf_ok (init := false) ht hZ kF_Rf_ok (fun h => by cases h), km_ok ht kM_Rf_ok, kci_ok ht kI_Rf_ok, kli_ok ht kJ_Rf_ok, kar_ok ht hZ kA_Rf_ok,
    pm_look_all (fun _ h => absurd h List.not_mem_nil),
    hZ, kst_ok ht hZ (kS_Rf_ok sa), knar_ok ht, ktx_ok (kE_Rf_ok sa)⟩
set_option maxRecDepth 100000 in
theorem ki_Ch_init : Cond.instanceMethod ⟨"RoutingField$Chain", "<init>", "()V"⟩ ∈ pw_T := (pw_in 292 (by decide +kernel) rfl)
set_option maxRecDepth 100000 in
theorem ko_Ch_init : Cond.code ⟨"RoutingField$Chain", "<init>", "()V"⟩ prog_3_method_1_code 1 none ∈ pw_T := (pw_in 293 rfl rfl)
set_option maxRecDepth 100000 in
theorem kD_Ch_init : ∀ q ∈ kC_Ch_init, decode prog_3_method_1_code q.1 = .ok (q.2, pm_len q.1 q.2) := by decide +kernel
set_option maxRecDepth 100000 in
theorem kW_Ch_init (l : Launch) (D : va_G) (base : Nat) (sa : Nat → Nat) : pm_Met l D kcl base (kZ sa) ⟨"RoutingField$Chain", "<init>", "()V"⟩ (.code ⟨"RoutingField$Chain", "<init>", "()V"⟩ prog_3_method_1_code 1 none :: pw_T) 1 20 (kP_Ch_init base sa) := by
  refine pm_met (by decide) rfl rfl ?_
  intro mc ms p e s m args below meth c hx hb hml hown hnm hts hbs hZ
  have ht : ∀ w ∈ pw_T, w.before args s = true := fun w h => hts w (List.mem_cons_of_mem _ h)
  exact ⟨hx, hb, hown, hbs, pm_look_all kD_Ch_init, kf_ok (init := true) ht hZ kF_Ch_ok (fun _ => hnm), km_ok ht kM_Ch_ok, kci_ok ht kI_Ch_ok, kli_ok ht kJ_Ch_ok, kar_ok ht hZ kA_Ch_ok,
    pm_look_all (List.forall_mem_cons.mpr ⟨pm_cokO hx hb hml hown (ht _ (pw_in 294 (by decide +kernel) rfl)) (ht _ (pw_in 31 (by decide +kernel) rfl)) (ht _ (pw_in 32 rfl rfl)) (Nat.le_of_ble_eq_true rfl) (Nat.le_of_ble_eq_true rfl), List.forall_mem_cons.mpr ⟨pm_cokMu hbs hx hb hown (ht _ (pw_in 295 (w := .classLink "RoutingField$Chain" 36 ("[" ++ (FieldType.array .byte).toString)) (by decide +kernel) rfl)) (hZ.2.2.2.2.2 _ (List.mem_of_getElem? (i := 0) rfl)) (ht _ (pw_in 52 (by decide +kernel) rfl)) (by decide) rfl rfl rfl (fun _ h => h), fun _ h => absurd h List.not_mem_nil⟩⟩),
    hZ, kst_ok ht hZ (kS_Ch_ok sa), knar_ok ht, ktx_ok (kE_Ch_ok sa)⟩
set_option maxRecDepth 100000 in
theorem ki_Re_init : Cond.instanceMethod ⟨"RoutingField$Reader", "<init>", "(LRoutingField;)V"⟩ ∈ pw_T := (pw_in 284 (by decide +kernel) rfl)
set_option maxRecDepth 100000 in
theorem ko_Re_init : Cond.code ⟨"RoutingField$Reader", "<init>", "(LRoutingField;)V"⟩ prog_9_method_1_code 2 none ∈ pw_T := (pw_in 285 rfl rfl)
set_option maxRecDepth 100000 in
theorem kD_Re_init : ∀ q ∈ kC_Re_init, decode prog_9_method_1_code q.1 = .ok (q.2, pm_len q.1 q.2) := by decide +kernel
set_option maxRecDepth 100000 in
theorem kW_Re_init (l : Launch) (D : va_G) (base : Nat) (sa : Nat → Nat) : pm_Met l D kcl base (kZ sa) ⟨"RoutingField$Reader", "<init>", "(LRoutingField;)V"⟩ (.code ⟨"RoutingField$Reader", "<init>", "(LRoutingField;)V"⟩ prog_9_method_1_code 2 none :: pw_T) 2 40 (kP_Re_init base sa) := by
  refine pm_met (by decide) rfl rfl ?_
  intro mc ms p e s m args below meth c hx hb hml hown hnm hts hbs hZ
  have ht : ∀ w ∈ pw_T, w.before args s = true := fun w h => hts w (List.mem_cons_of_mem _ h)
  exact ⟨hx, hb, hown, hbs, pm_look_all kD_Re_init, kf_ok (init := true) ht hZ kF_Re_ok (fun _ => hnm), km_ok ht kM_Re_ok, kci_ok ht kI_Re_ok, kli_ok ht kJ_Re_ok, kar_ok ht hZ kA_Re_ok,
    pm_look_all (List.forall_mem_cons.mpr ⟨pm_cokO hx hb hml hown (ht _ (pw_in 286 (by decide +kernel) rfl)) (ht _ (pw_in 31 (by decide +kernel) rfl)) (ht _ (pw_in 32 rfl rfl)) (Nat.le_of_ble_eq_true rfl) (Nat.le_of_ble_eq_true rfl), List.forall_mem_cons.mpr ⟨pm_cokI hbs hZ ⟨hx, hb, hml, hown, hts⟩ (kW_Pr_init l D base sa) (fun mc ms => cwI 0 hts (pw_gC ko_Pr_init) rfl rfl rfl (ht _ kn_Pr) (ht _ (pw_in 288 (w := .methodLink "RoutingField$Reader" 30 ⟨"RoutingField$Prefix", "<init>", "()V"⟩) (by decide +kernel) rfl)) (ht _ ki_Pr_init) rfl (by decide +kernel) ⟨Nat.le_of_ble_eq_true rfl, Nat.le_of_ble_eq_true rfl⟩), List.forall_mem_cons.mpr ⟨pm_cokI hbs hZ ⟨hx, hb, hml, hown, hts⟩ (kW_Ch_init l D base sa) (fun mc ms => cwI 0 hts (pw_gC ko_Ch_init) rfl rfl rfl (ht _ kn_Ch) (ht _ (pw_in 291 (w := .methodLink "RoutingField$Reader" 51 ⟨"RoutingField$Chain", "<init>", "()V"⟩) (by decide +kernel) rfl)) (ht _ ki_Ch_init) rfl (by decide +kernel) ⟨Nat.le_of_ble_eq_true rfl, Nat.le_of_ble_eq_true rfl⟩), fun _ h => absurd h List.not_mem_nil⟩⟩⟩),
    hZ, kst_ok ht hZ (kS_Re_ok sa), knar_ok ht, ktx_ok (kE_Re_ok sa)⟩
set_option maxRecDepth 100000 in
theorem ki_By_at : Cond.instanceMethod ⟨"RoutingField$Bytes", "at", "(I)I"⟩ ∈ pw_T := (pw_in 385 (by decide +kernel) rfl)
set_option maxRecDepth 100000 in
theorem ks_By_at : Cond.selects "RoutingField$Bytes" ⟨"RoutingField$Bytes", "at", "(I)I"⟩ ⟨"RoutingField$Bytes", "at", "(I)I"⟩ ∈ pw_T := (pw_in 386 (by decide +kernel) rfl)
set_option maxRecDepth 100000 in
theorem ko_By_at : Cond.code ⟨"RoutingField$Bytes", "at", "(I)I"⟩ prog_2_method_3_code 2 (some .int) ∈ pw_T := (pw_in 387 rfl rfl)
set_option maxRecDepth 100000 in
theorem kD_By_at : ∀ q ∈ kC_By_at, decode prog_2_method_3_code q.1 = .ok (q.2, pm_len q.1 q.2) := by decide +kernel
set_option maxRecDepth 100000 in
theorem kW_By_at (l : Launch) (D : va_G) (base : Nat) (sa : Nat → Nat) : pm_Met l D kcl base (kZ sa) ⟨"RoutingField$Bytes", "at", "(I)I"⟩ (.code ⟨"RoutingField$Bytes", "at", "(I)I"⟩ prog_2_method_3_code 2 (some .int) :: pw_T) 0 0 (kP_By_at base sa) := by
  refine pm_met (by decide) rfl rfl ?_
  intro mc ms p e s m args below meth c hx hb hml hown hnm hts hbs hZ
  have ht : ∀ w ∈ pw_T, w.before args s = true := fun w h => hts w (List.mem_cons_of_mem _ h)
  exact ⟨hx, hb, hown, hbs, pm_look_all kD_By_at, kf_ok (init := false) ht hZ kF_By_ok (fun h => by cases h), km_ok ht kM_By_ok, kci_ok ht kI_By_ok, kli_ok ht kJ_By_ok, kar_ok ht hZ kA_By_ok,
    pm_look_all (fun _ h => absurd h List.not_mem_nil),
    hZ, kst_ok ht hZ (kS_By_ok sa), knar_ok ht, ktx_ok (kE_By_ok sa)⟩
set_option maxRecDepth 100000 in
theorem ki_Re_parse : Cond.instanceMethod ⟨"RoutingField$Reader", "parse", "(II)V"⟩ ∈ pw_T := (pw_in 394 (by decide +kernel) rfl)
set_option maxRecDepth 100000 in
theorem ks_Re_parse : Cond.selects "RoutingField$Reader" ⟨"RoutingField$Reader", "parse", "(II)V"⟩ ⟨"RoutingField$Reader", "parse", "(II)V"⟩ ∈ pw_T := (pw_sel 0 (q := (⟨"RoutingField$Reader", "parse", "(II)V"⟩, 12)) (by decide +kernel))
set_option maxRecDepth 100000 in
theorem ko_Re_parse : Cond.code ⟨"RoutingField$Reader", "parse", "(II)V"⟩ prog_9_method_3_code 7 none ∈ pw_T := (pw_in 395 rfl rfl)
set_option maxRecDepth 100000 in
theorem kD_Re_parse_0 : ∀ q ∈ kC_Re_parse_0, decode prog_9_method_3_code q.1 = .ok (q.2, pm_len q.1 q.2) := by decide +kernel
set_option maxRecDepth 100000 in
theorem kD_Re_parse_1 : ∀ q ∈ kC_Re_parse_1, decode prog_9_method_3_code q.1 = .ok (q.2, pm_len q.1 q.2) := by decide +kernel
theorem kD_Re_parse : ∀ q ∈ kC_Re_parse, decode prog_9_method_3_code q.1 = .ok (q.2, pm_len q.1 q.2) := List.forall_mem_append.mpr ⟨kD_Re_parse_0, kD_Re_parse_1⟩
set_option maxRecDepth 100000 in
theorem kW_Re_parse (l : Launch) (D : va_G) (base : Nat) (sa : Nat → Nat) : pm_Met l D kcl base (kZ sa) ⟨"RoutingField$Reader", "parse", "(II)V"⟩ (.code ⟨"RoutingField$Reader", "parse", "(II)V"⟩ prog_9_method_3_code 7 none :: pw_T) 1 21 (kP_Re_parse base sa) := by
  refine pm_met (by decide) rfl rfl ?_
  intro mc ms p e s m args below meth c hx hb hml hown hnm hts hbs hZ
  have ht : ∀ w ∈ pw_T, w.before args s = true := fun w h => hts w (List.mem_cons_of_mem _ h)
  exact ⟨hx, hb, hown, hbs, pm_look_all kD_Re_parse, kf_ok (init := false) ht hZ kF_Re_ok (fun h => by cases h), km_ok ht kM_Re_ok, kci_ok ht kI_Re_ok, kli_ok ht kJ_Re_ok, kar_ok ht hZ kA_Re_ok,
    pm_look_all (List.forall_mem_cons.mpr ⟨pm_cokV hbs hZ ⟨hx, hb, hml, hown, hts⟩ (kW_By_at l D base sa) (fun mc ms => cwV 1 hts (pw_gV (pw_in 396 (w := .methodLink "RoutingField$Reader" 68 ⟨"RoutingField$Bytes", "at", "(I)I"⟩) (by decide +kernel) rfl) ki_By_at ks_By_at kn_By ko_By_at) rfl rfl rfl (by decide +kernel) ⟨Nat.le_of_ble_eq_true rfl, Nat.le_of_ble_eq_true rfl⟩) (ci := 0) rfl, fun _ h => absurd h List.not_mem_nil⟩),
    hZ, kst_ok ht hZ (kS_Re_ok sa), knar_ok ht, ktx_ok (kE_Re_ok sa)⟩
set_option maxRecDepth 100000 in
theorem ki_Re_isWord : Cond.instanceMethod ⟨"RoutingField$Reader", "isWord", "(I)Z"⟩ ∈ pw_T := (pw_in 404 (by decide +kernel) rfl)
set_option maxRecDepth 100000 in
theorem ks_Re_isWord : Cond.selects "RoutingField$Reader" ⟨"RoutingField$Reader", "isWord", "(I)Z"⟩ ⟨"RoutingField$Reader", "isWord", "(I)Z"⟩ ∈ pw_T := (pw_sel 2 (q := (⟨"RoutingField$Reader", "isWord", "(I)Z"⟩, 12)) (by decide +kernel))
set_option maxRecDepth 100000 in
theorem ko_Re_isWord : Cond.code ⟨"RoutingField$Reader", "isWord", "(I)Z"⟩ prog_9_method_4_code 2 (some .boolean) ∈ pw_T := (pw_in 405 rfl rfl)
set_option maxRecDepth 100000 in
theorem kD_Re_isWord : ∀ q ∈ kC_Re_isWord, decode prog_9_method_4_code q.1 = .ok (q.2, pm_len q.1 q.2) := by decide +kernel
set_option maxRecDepth 100000 in
theorem kW_Re_isWord (l : Launch) (D : va_G) (base : Nat) (sa : Nat → Nat) : pm_Met l D kcl base (kZ sa) ⟨"RoutingField$Reader", "isWord", "(I)Z"⟩ (.code ⟨"RoutingField$Reader", "isWord", "(I)Z"⟩ prog_9_method_4_code 2 (some .boolean) :: pw_T) 0 0 (kP_Re_isWord base sa) := by
  refine pm_met (by decide) rfl rfl ?_
  intro mc ms p e s m args below meth c hx hb hml hown hnm hts hbs hZ
  have ht : ∀ w ∈ pw_T, w.before args s = true := fun w h => hts w (List.mem_cons_of_mem _ h)
  exact ⟨hx, hb, hown, hbs, pm_look_all kD_Re_isWord, kf_ok (init := false) ht hZ kF_Re_ok (fun h => by cases h), km_ok ht kM_Re_ok, kci_ok ht kI_Re_ok, kli_ok ht kJ_Re_ok, kar_ok ht hZ kA_Re_ok,
    pm_look_all (fun _ h => absurd h List.not_mem_nil),
    hZ, kst_ok ht hZ (kS_Re_ok sa), knar_ok ht, ktx_ok (kE_Re_ok sa)⟩
set_option maxRecDepth 100000 in
theorem ki_St_coder : Cond.instanceMethod ⟨"java/lang/String", "coder", "()B"⟩ ∈ pw_T := (pw_in 411 (by decide +kernel) rfl)
set_option maxRecDepth 100000 in
theorem ks_St_coder : Cond.selects "java/lang/String" ⟨"java/lang/String", "coder", "()B"⟩ ⟨"java/lang/String", "coder", "()B"⟩ ∈ pw_T := (pw_in 412 (by decide +kernel) rfl)
set_option maxRecDepth 100000 in
theorem ko_St_coder : Cond.code ⟨"java/lang/String", "coder", "()B"⟩ prog_19_method_152_code 1 (some .byte) ∈ pw_T := (pw_in 413 rfl rfl)
set_option maxRecDepth 100000 in
theorem kD_St_coder : ∀ q ∈ kC_St_coder, decode prog_19_method_152_code q.1 = .ok (q.2, pm_len q.1 q.2) := by decide +kernel
set_option maxRecDepth 100000 in
theorem kW_St_coder (l : Launch) (D : va_G) (base : Nat) (sa : Nat → Nat) : pm_Met l D kcl base (kZ sa) ⟨"java/lang/String", "coder", "()B"⟩ (.code ⟨"java/lang/String", "coder", "()B"⟩ prog_19_method_152_code 1 (some .byte) :: pw_T) 0 0 (kP_St_coder base sa) := by
  refine pm_met (by decide) rfl rfl ?_
  intro mc ms p e s m args below meth c hx hb hml hown hnm hts hbs hZ
  have ht : ∀ w ∈ pw_T, w.before args s = true := fun w h => hts w (List.mem_cons_of_mem _ h)
  exact ⟨hx, hb, hown, hbs, pm_look_all kD_St_coder, kf_ok (init := false) ht hZ kF_St_ok (fun h => by cases h), km_ok ht kM_St_ok, kci_ok ht kI_St_ok, kli_ok ht kJ_St_ok, kar_ok ht hZ kA_St_ok,
    pm_look_all (fun _ h => absurd h List.not_mem_nil),
    hZ, kst_ok ht hZ (kS_St_ok sa), knar_ok ht, ktx_ok (kE_St_ok sa)⟩
set_option maxRecDepth 100000 in
theorem ki_St_length : Cond.instanceMethod ⟨"java/lang/String", "length", "()I"⟩ ∈ pw_T := (pw_in 407 (by decide +kernel) rfl)
set_option maxRecDepth 100000 in
theorem ks_St_length : Cond.selects "java/lang/String" ⟨"java/lang/String", "length", "()I"⟩ ⟨"java/lang/String", "length", "()I"⟩ ∈ pw_T := (pw_in 408 (by decide +kernel) rfl)
set_option maxRecDepth 100000 in
theorem ko_St_length : Cond.code ⟨"java/lang/String", "length", "()I"⟩ prog_19_method_54_code 1 (some .int) ∈ pw_T := (pw_in 409 rfl rfl)
set_option maxRecDepth 100000 in
theorem kD_St_length : ∀ q ∈ kC_St_length, decode prog_19_method_54_code q.1 = .ok (q.2, pm_len q.1 q.2) := by decide +kernel
set_option maxRecDepth 100000 in
theorem kW_St_length (l : Launch) (D : va_G) (base : Nat) (sa : Nat → Nat) : pm_Met l D kcl base (kZ sa) ⟨"java/lang/String", "length", "()I"⟩ (.code ⟨"java/lang/String", "length", "()I"⟩ prog_19_method_54_code 1 (some .int) :: pw_T) 1 20 (kP_St_length base sa) := by
  refine pm_met (by decide) rfl rfl ?_
  intro mc ms p e s m args below meth c hx hb hml hown hnm hts hbs hZ
  have ht : ∀ w ∈ pw_T, w.before args s = true := fun w h => hts w (List.mem_cons_of_mem _ h)
  exact ⟨hx, hb, hown, hbs, pm_look_all kD_St_length, kf_ok (init := false) ht hZ kF_St_ok (fun h => by cases h), km_ok ht kM_St_ok, kci_ok ht kI_St_ok, kli_ok ht kJ_St_ok, kar_ok ht hZ kA_St_ok,
    pm_look_all (List.forall_mem_cons.mpr ⟨pm_cokV hbs hZ ⟨hx, hb, hml, hown, hts⟩ (kW_St_coder l D base sa) (fun mc ms => cwV 0 hts (pw_gV (pw_in 410 (w := .methodLink "java/lang/String" 335 ⟨"java/lang/String", "coder", "()B"⟩) (by decide +kernel) rfl) ki_St_coder ks_St_coder kn_St ko_St_coder) rfl rfl rfl (by decide +kernel) ⟨Nat.le_of_ble_eq_true rfl, Nat.le_of_ble_eq_true rfl⟩) (ci := 13) rfl, fun _ h => absurd h List.not_mem_nil⟩),
    hZ, kst_ok ht hZ (kS_St_ok sa), knar_ok ht, ktx_ok (kE_St_ok sa)⟩
set_option maxRecDepth 100000 in
theorem ki_St_isLatin1 : Cond.instanceMethod ⟨"java/lang/String", "isLatin1", "()Z"⟩ ∈ pw_T := (pw_in 421 (by decide +kernel) rfl)
set_option maxRecDepth 100000 in
theorem ks_St_isLatin1 : Cond.selects "java/lang/String" ⟨"java/lang/String", "isLatin1", "()Z"⟩ ⟨"java/lang/String", "isLatin1", "()Z"⟩ ∈ pw_T := (pw_in 422 (by decide +kernel) rfl)
set_option maxRecDepth 100000 in
theorem ko_St_isLatin1 : Cond.code ⟨"java/lang/String", "isLatin1", "()Z"⟩ prog_19_method_154_code 1 (some .boolean) ∈ pw_T := (pw_in 423 rfl rfl)
set_option maxRecDepth 100000 in
theorem kD_St_isLatin1 : ∀ q ∈ kC_St_isLatin1, decode prog_19_method_154_code q.1 = .ok (q.2, pm_len q.1 q.2) := by decide +kernel
set_option maxRecDepth 100000 in
theorem kW_St_isLatin1 (l : Launch) (D : va_G) (base : Nat) (sa : Nat → Nat) : pm_Met l D kcl base (kZ sa) ⟨"java/lang/String", "isLatin1", "()Z"⟩ (.code ⟨"java/lang/String", "isLatin1", "()Z"⟩ prog_19_method_154_code 1 (some .boolean) :: pw_T) 0 0 (kP_St_isLatin1 base sa) := by
  refine pm_met (by decide) rfl rfl ?_
  intro mc ms p e s m args below meth c hx hb hml hown hnm hts hbs hZ
  have ht : ∀ w ∈ pw_T, w.before args s = true := fun w h => hts w (List.mem_cons_of_mem _ h)
  exact ⟨hx, hb, hown, hbs, pm_look_all kD_St_isLatin1, kf_ok (init := false) ht hZ kF_St_ok (fun h => by cases h), km_ok ht kM_St_ok, kci_ok ht kI_St_ok, kli_ok ht kJ_St_ok, kar_ok ht hZ kA_St_ok,
    pm_look_all (fun _ h => absurd h List.not_mem_nil),
    hZ, kst_ok ht hZ (kS_St_ok sa), knar_ok ht, ktx_ok (kE_St_ok sa)⟩
set_option maxRecDepth 100000 in
theorem kv_Pc_checkIndex : Cond.static ⟨"jdk/internal/util/Preconditions", "checkIndex", "(IILjava/util/function/BiFunction;)I"⟩ ∈ pw_T := (pw_in 433 (by decide +kernel) rfl)
set_option maxRecDepth 100000 in
theorem ko_Pc_checkIndex : Cond.code ⟨"jdk/internal/util/Preconditions", "checkIndex", "(IILjava/util/function/BiFunction;)I"⟩ prog_25_method_11_code 3 (some .int) ∈ pw_T := (pw_in 434 rfl rfl)
set_option maxRecDepth 100000 in
theorem kD_Pc_checkIndex : ∀ q ∈ kC_Pc_checkIndex, decode prog_25_method_11_code q.1 = .ok (q.2, pm_len q.1 q.2) := by decide +kernel
set_option maxRecDepth 100000 in
theorem kW_Pc_checkIndex (l : Launch) (D : va_G) (base : Nat) (sa : Nat → Nat) : pm_Met l D kcl base (kZ sa) ⟨"jdk/internal/util/Preconditions", "checkIndex", "(IILjava/util/function/BiFunction;)I"⟩ (.code ⟨"jdk/internal/util/Preconditions", "checkIndex", "(IILjava/util/function/BiFunction;)I"⟩ prog_25_method_11_code 3 (some .int) :: pw_T) 0 0 (kP_Pc_checkIndex base sa) := by
  refine pm_met (by decide) rfl rfl ?_
  intro mc ms p e s m args below meth c hx hb hml hown hnm hts hbs hZ
  have ht : ∀ w ∈ pw_T, w.before args s = true := fun w h => hts w (List.mem_cons_of_mem _ h)
  exact ⟨hx, hb, hown, hbs, pm_look_all kD_Pc_checkIndex, kf_ok (init := false) ht hZ kF_Pc_ok (fun h => by cases h), km_ok ht kM_Pc_ok, kci_ok ht kI_Pc_ok, kli_ok ht kJ_Pc_ok, kar_ok ht hZ kA_Pc_ok,
    pm_look_all (fun _ h => absurd h List.not_mem_nil),
    hZ, kst_ok ht hZ (kS_Pc_ok sa), knar_ok ht, ktx_ok (kE_Pc_ok sa)⟩
set_option maxRecDepth 100000 in
theorem kv_St_checkIndex : Cond.static ⟨"java/lang/String", "checkIndex", "(II)V"⟩ ∈ pw_T := (pw_in 428 (by decide +kernel) rfl)
set_option maxRecDepth 100000 in
theorem ko_St_checkIndex : Cond.code ⟨"java/lang/String", "checkIndex", "(II)V"⟩ prog_19_method_155_code 2 none ∈ pw_T := (pw_in 429 rfl rfl)
set_option maxRecDepth 100000 in
theorem kD_St_checkIndex : ∀ q ∈ kC_St_checkIndex, decode prog_19_method_155_code q.1 = .ok (q.2, pm_len q.1 q.2) := by decide +kernel
set_option maxRecDepth 100000 in
theorem kW_St_checkIndex (l : Launch) (D : va_G) (base : Nat) (sa : Nat → Nat) : pm_Met l D kcl base (kZ sa) ⟨"java/lang/String", "checkIndex", "(II)V"⟩ (.code ⟨"java/lang/String", "checkIndex", "(II)V"⟩ prog_19_method_155_code 2 none :: pw_T) 1 26 (kP_St_checkIndex base sa) := by
  refine pm_met (by decide) rfl rfl ?_
  intro mc ms p e s m args below meth c hx hb hml hown hnm hts hbs hZ
  have ht : ∀ w ∈ pw_T, w.before args s = true := fun w h => hts w (List.mem_cons_of_mem _ h)
  exact ⟨hx, hb, hown, hbs, pm_look_all kD_St_checkIndex, kf_ok (init := false) ht hZ kF_St_ok (fun h => by cases h), km_ok ht kM_St_ok, kci_ok ht kI_St_ok, kli_ok ht kJ_St_ok, kar_ok ht hZ kA_St_ok,
    pm_look_all (List.forall_mem_cons.mpr ⟨pm_cokS hbs hZ ⟨hx, hb, hml, hown, hts⟩ (kW_Pc_checkIndex l D base sa) (fun mc ms => va_cwS 3 hts (pw_gS (pw_in 432 (w := .methodLink "java/lang/String" 1059 ⟨"jdk/internal/util/Preconditions", "checkIndex", "(IILjava/util/function/BiFunction;)I"⟩) (by decide +kernel) rfl) kv_Pc_checkIndex kn_Pc ko_Pc_checkIndex) rfl rfl rfl (by decide +kernel) ⟨Nat.le_of_ble_eq_true rfl, Nat.le_of_ble_eq_true rfl⟩) (Nat.le_of_ble_eq_true rfl), fun _ h => absurd h List.not_mem_nil⟩),
    hZ, kst_ok ht hZ (kS_St_ok sa), knar_ok ht, ktx_ok (kE_St_ok sa)⟩
set_option maxRecDepth 100000 in
theorem kv_S1_charAt : Cond.static ⟨"java/lang/StringLatin1", "charAt", "([BI)C"⟩ ∈ pw_T := (pw_in 425 (by decide +kernel) rfl)
set_option maxRecDepth 100000 in
theorem ko_S1_charAt : Cond.code ⟨"java/lang/StringLatin1", "charAt", "([BI)C"⟩ prog_20_method_2_code 2 (some .char) ∈ pw_T := (pw_in 426 rfl rfl)
set_option maxRecDepth 100000 in
theorem kD_S1_charAt : ∀ q ∈ kC_S1_charAt, decode prog_20_method_2_code q.1 = .ok (q.2, pm_len q.1 q.2) := by decide +kernel
set_option maxRecDepth 100000 in
theorem kW_S1_charAt (l : Launch) (D : va_G) (base : Nat) (sa : Nat → Nat) : pm_Met l D kcl base (kZ sa) ⟨"java/lang/StringLatin1", "charAt", "([BI)C"⟩ (.code ⟨"java/lang/StringLatin1", "charAt", "([BI)C"⟩ prog_20_method_2_code 2 (some .char) :: pw_T) 2 51 (kP_S1_charAt base sa) := by
  refine pm_met (by decide) rfl rfl ?_
  intro mc ms p e s m args below meth c hx hb hml hown hnm hts hbs hZ
  have ht : ∀ w ∈ pw_T, w.before args s = true := fun w h => hts w (List.mem_cons_of_mem _ h)
  exact ⟨hx, hb, hown, hbs, pm_look_all kD_S1_charAt, kf_ok (init := false) ht hZ kF_S1_ok (fun h => by cases h), km_ok ht kM_S1_ok, kci_ok ht kI_S1_ok, kli_ok ht kJ_S1_ok, kar_ok ht hZ kA_S1_ok,
    pm_look_all (List.forall_mem_cons.mpr ⟨pm_cokS hbs hZ ⟨hx, hb, hml, hown, hts⟩ (kW_St_checkIndex l D base sa) (fun mc ms => va_cwS 2 hts (pw_gS (pw_in 427 (w := .methodLink "java/lang/StringLatin1" 9 ⟨"java/lang/String", "checkIndex", "(II)V"⟩) (by decide +kernel) rfl) kv_St_checkIndex kn_St ko_St_checkIndex) rfl rfl rfl (by decide +kernel) ⟨Nat.le_of_ble_eq_true rfl, Nat.le_of_ble_eq_true rfl⟩) (Nat.le_of_ble_eq_true rfl), fun _ h => absurd h List.not_mem_nil⟩),
    hZ, kst_ok ht hZ (kS_S1_ok sa), knar_ok ht, ktx_ok (kE_S1_ok sa)⟩
set_option maxRecDepth 100000 in
theorem kv_S2_length : Cond.static ⟨"java/lang/StringUTF16", "length", "([B)I"⟩ ∈ pw_T := (pw_in 442 (by decide +kernel) rfl)
set_option maxRecDepth 100000 in
theorem ko_S2_length : Cond.code ⟨"java/lang/StringUTF16", "length", "([B)I"⟩ prog_21_method_6_code 1 (some .int) ∈ pw_T := (pw_in 443 rfl rfl)
set_option maxRecDepth 100000 in
theorem kD_S2_length : ∀ q ∈ kC_S2_length, decode prog_21_method_6_code q.1 = .ok (q.2, pm_len q.1 q.2) := by decide +kernel
set_option maxRecDepth 100000 in
theorem kW_S2_length (l : Launch) (D : va_G) (base : Nat) (sa : Nat → Nat) : pm_Met l D kcl base (kZ sa) ⟨"java/lang/StringUTF16", "length", "([B)I"⟩ (.code ⟨"java/lang/StringUTF16", "length", "([B)I"⟩ prog_21_method_6_code 1 (some .int) :: pw_T) 0 0 (kP_S2_length base sa) := by
  refine pm_met (by decide) rfl rfl ?_
  intro mc ms p e s m args below meth c hx hb hml hown hnm hts hbs hZ
  have ht : ∀ w ∈ pw_T, w.before args s = true := fun w h => hts w (List.mem_cons_of_mem _ h)
  exact ⟨hx, hb, hown, hbs, pm_look_all kD_S2_length, kf_ok (init := false) ht hZ kF_S2_ok (fun h => by cases h), km_ok ht kM_S2_ok, kci_ok ht kI_S2_ok, kli_ok ht kJ_S2_ok, kar_ok ht hZ kA_S2_ok,
    pm_look_all (fun _ h => absurd h List.not_mem_nil),
    hZ, kst_ok ht hZ (kS_S2_ok sa), knar_ok ht, ktx_ok (kE_S2_ok sa)⟩
set_option maxRecDepth 100000 in
theorem kv_S2_checkIndex : Cond.static ⟨"java/lang/StringUTF16", "checkIndex", "(I[B)V"⟩ ∈ pw_T := (pw_in 439 (by decide +kernel) rfl)
set_option maxRecDepth 100000 in
theorem ko_S2_checkIndex : Cond.code ⟨"java/lang/StringUTF16", "checkIndex", "(I[B)V"⟩ prog_21_method_91_code 2 none ∈ pw_T := (pw_in 440 rfl rfl)
set_option maxRecDepth 100000 in
theorem kD_S2_checkIndex : ∀ q ∈ kC_S2_checkIndex, decode prog_21_method_91_code q.1 = .ok (q.2, pm_len q.1 q.2) := by decide +kernel
set_option maxRecDepth 100000 in
theorem kW_S2_checkIndex (l : Launch) (D : va_G) (base : Nat) (sa : Nat → Nat) : pm_Met l D kcl base (kZ sa) ⟨"java/lang/StringUTF16", "checkIndex", "(I[B)V"⟩ (.code ⟨"java/lang/StringUTF16", "checkIndex", "(I[B)V"⟩ prog_21_method_91_code 2 none :: pw_T) 2 51 (kP_S2_checkIndex base sa) := by
  refine pm_met (by decide) rfl rfl ?_
  intro mc ms p e s m args below meth c hx hb hml hown hnm hts hbs hZ
  have ht : ∀ w ∈ pw_T, w.before args s = true := fun w h => hts w (List.mem_cons_of_mem _ h)
  exact ⟨hx, hb, hown, hbs, pm_look_all kD_S2_checkIndex, kf_ok (init := false) ht hZ kF_S2_ok (fun h => by cases h), km_ok ht kM_S2_ok, kci_ok ht kI_S2_ok, kli_ok ht kJ_S2_ok, kar_ok ht hZ kA_S2_ok,
    pm_look_all (List.forall_mem_cons.mpr ⟨pm_cokS hbs hZ ⟨hx, hb, hml, hown, hts⟩ (kW_S2_length l D base sa) (fun mc ms => va_cwS 1 hts (pw_gS (pw_in 441 (w := .methodLink "java/lang/StringUTF16" 48 ⟨"java/lang/StringUTF16", "length", "([B)I"⟩) (by decide +kernel) rfl) kv_S2_length kn_S2 ko_S2_length) rfl rfl rfl (by decide +kernel) ⟨Nat.le_of_ble_eq_true rfl, Nat.le_of_ble_eq_true rfl⟩) (Nat.le_of_ble_eq_true rfl), List.forall_mem_cons.mpr ⟨pm_cokS hbs hZ ⟨hx, hb, hml, hown, hts⟩ (kW_St_checkIndex l D base sa) (fun mc ms => va_cwS 2 hts (pw_gS (pw_in 444 (w := .methodLink "java/lang/StringUTF16" 414 ⟨"java/lang/String", "checkIndex", "(II)V"⟩) (by decide +kernel) rfl) kv_St_checkIndex kn_St ko_St_checkIndex) rfl rfl rfl (by decide +kernel) ⟨Nat.le_of_ble_eq_true rfl, Nat.le_of_ble_eq_true rfl⟩) (Nat.le_of_ble_eq_true rfl), fun _ h => absurd h List.not_mem_nil⟩⟩),
    hZ, kst_ok ht hZ (kS_S2_ok sa), knar_ok ht, ktx_ok (kE_S2_ok sa)⟩
set_option maxRecDepth 100000 in
theorem kv_S2_getChar : Cond.static ⟨"java/lang/StringUTF16", "getChar", "([BI)C"⟩ ∈ pw_T := (pw_in 446 (by decide +kernel) rfl)
set_option maxRecDepth 100000 in
theorem ko_S2_getChar : Cond.code ⟨"java/lang/StringUTF16", "getChar", "([BI)C"⟩ prog_21_method_5_code 2 (some .char) ∈ pw_T := (pw_in 447 rfl rfl)
set_option maxRecDepth 100000 in
theorem kD_S2_getChar : ∀ q ∈ kC_S2_getChar, decode prog_21_method_5_code q.1 = .ok (q.2, pm_len q.1 q.2) := by decide +kernel
set_option maxRecDepth 100000 in
theorem kW_S2_getChar (l : Launch) (D : va_G) (base : Nat) (sa : Nat → Nat) : pm_Met l D kcl base (kZ sa) ⟨"java/lang/StringUTF16", "getChar", "([BI)C"⟩ (.code ⟨"java/lang/StringUTF16", "getChar", "([BI)C"⟩ prog_21_method_5_code 2 (some .char) :: pw_T) 1 24 (kP_S2_getChar base sa) := by
  refine pm_met (by decide) rfl rfl ?_
  intro mc ms p e s m args below meth c hx hb hml hown hnm hts hbs hZ
  have ht : ∀ w ∈ pw_T, w.before args s = true := fun w h => hts w (List.mem_cons_of_mem _ h)
  exact ⟨hx, hb, hown, hbs, pm_look_all kD_S2_getChar, kf_ok (init := false) ht hZ kF_S2_ok (fun h => by cases h), km_ok ht kM_S2_ok, kci_ok ht kI_S2_ok, kli_ok ht kJ_S2_ok, kar_ok ht hZ kA_S2_ok,
    pm_look_all (List.forall_mem_cons.mpr ⟨pm_cokS hbs hZ ⟨hx, hb, hml, hown, hts⟩ (kW_S2_length l D base sa) (fun mc ms => va_cwS 1 hts (pw_gS (pw_in 441 (w := .methodLink "java/lang/StringUTF16" 48 ⟨"java/lang/StringUTF16", "length", "([B)I"⟩) (by decide +kernel) rfl) kv_S2_length kn_S2 ko_S2_length) rfl rfl rfl (by decide +kernel) ⟨Nat.le_of_ble_eq_true rfl, Nat.le_of_ble_eq_true rfl⟩) (Nat.le_of_ble_eq_true rfl), fun _ h => absurd h List.not_mem_nil⟩),
    hZ, kst_ok ht hZ (kS_S2_ok sa), knar_ok ht, ktx_ok (kE_S2_ok sa)⟩
set_option maxRecDepth 100000 in
theorem kv_S2_charAt : Cond.static ⟨"java/lang/StringUTF16", "charAt", "([BI)C"⟩ ∈ pw_T := (pw_in 436 (by decide +kernel) rfl)
set_option maxRecDepth 100000 in
theorem ko_S2_charAt : Cond.code ⟨"java/lang/StringUTF16", "charAt", "([BI)C"⟩ prog_21_method_83_code 2 (some .char) ∈ pw_T := (pw_in 437 rfl rfl)
set_option maxRecDepth 100000 in
theorem kD_S2_charAt : ∀ q ∈ kC_S2_charAt, decode prog_21_method_83_code q.1 = .ok (q.2, pm_len q.1 q.2) := by decide +kernel
set_option maxRecDepth 100000 in
theorem kW_S2_charAt (l : Launch) (D : va_G) (base : Nat) (sa : Nat → Nat) : pm_Met l D kcl base (kZ sa) ⟨"java/lang/StringUTF16", "charAt", "([BI)C"⟩ (.code ⟨"java/lang/StringUTF16", "charAt", "([BI)C"⟩ prog_21_method_83_code 2 (some .char) :: pw_T) 3 76 (kP_S2_charAt base sa) := by
  refine pm_met (by decide) rfl rfl ?_
  intro mc ms p e s m args below meth c hx hb hml hown hnm hts hbs hZ
  have ht : ∀ w ∈ pw_T, w.before args s = true := fun w h => hts w (List.mem_cons_of_mem _ h)
  exact ⟨hx, hb, hown, hbs, pm_look_all kD_S2_charAt, kf_ok (init := false) ht hZ kF_S2_ok (fun h => by cases h), km_ok ht kM_S2_ok, kci_ok ht kI_S2_ok, kli_ok ht kJ_S2_ok, kar_ok ht hZ kA_S2_ok,
    pm_look_all (List.forall_mem_cons.mpr ⟨pm_cokS hbs hZ ⟨hx, hb, hml, hown, hts⟩ (kW_S2_checkIndex l D base sa) (fun mc ms => va_cwS 2 hts (pw_gS (pw_in 438 (w := .methodLink "java/lang/StringUTF16" 67 ⟨"java/lang/StringUTF16", "checkIndex", "(I[B)V"⟩) (by decide +kernel) rfl) kv_S2_checkIndex kn_S2 ko_S2_checkIndex) rfl rfl rfl (by decide +kernel) ⟨Nat.le_of_ble_eq_true rfl, Nat.le_of_ble_eq_true rfl⟩) (Nat.le_of_ble_eq_true rfl), List.forall_mem_cons.mpr ⟨pm_cokS hbs hZ ⟨hx, hb, hml, hown, hts⟩ (kW_S2_getChar l D base sa) (fun mc ms => va_cwS 2 hts (pw_gS (pw_in 445 (w := .methodLink "java/lang/StringUTF16" 71 ⟨"java/lang/StringUTF16", "getChar", "([BI)C"⟩) (by decide +kernel) rfl) kv_S2_getChar kn_S2 ko_S2_getChar) rfl rfl rfl (by decide +kernel) ⟨Nat.le_of_ble_eq_true rfl, Nat.le_of_ble_eq_true rfl⟩) (Nat.le_of_ble_eq_true rfl), fun _ h => absurd h List.not_mem_nil⟩⟩),
    hZ, kst_ok ht hZ (kS_S2_ok sa), knar_ok ht, ktx_ok (kE_S2_ok sa)⟩
set_option maxRecDepth 100000 in
theorem ki_St_charAt : Cond.instanceMethod ⟨"java/lang/String", "charAt", "(I)C"⟩ ∈ pw_T := (pw_in 417 (by decide +kernel) rfl)
set_option maxRecDepth 100000 in
theorem ks_St_charAt : Cond.selects "java/lang/String" ⟨"java/lang/String", "charAt", "(I)C"⟩ ⟨"java/lang/String", "charAt", "(I)C"⟩ ∈ pw_T := (pw_in 418 (by decide +kernel) rfl)
set_option maxRecDepth 100000 in
theorem ko_St_charAt : Cond.code ⟨"java/lang/String", "charAt", "(I)C"⟩ prog_19_method_56_code 2 (some .char) ∈ pw_T := (pw_in 419 rfl rfl)
set_option maxRecDepth 100000 in
theorem kD_St_charAt : ∀ q ∈ kC_St_charAt, decode prog_19_method_56_code q.1 = .ok (q.2, pm_len q.1 q.2) := by decide +kernel
set_option maxRecDepth 100000 in
theorem kW_St_charAt (l : Launch) (D : va_G) (base : Nat) (sa : Nat → Nat) : pm_Met l D kcl base (kZ sa) ⟨"java/lang/String", "charAt", "(I)C"⟩ (.code ⟨"java/lang/String", "charAt", "(I)C"⟩ prog_19_method_56_code 2 (some .char) :: pw_T) 4 101 (kP_St_charAt base sa) := by
  refine pm_met (by decide) rfl rfl ?_
  intro mc ms p e s m args below meth c hx hb hml hown hnm hts hbs hZ
  have ht : ∀ w ∈ pw_T, w.before args s = true := fun w h => hts w (List.mem_cons_of_mem _ h)
  exact ⟨hx, hb, hown, hbs, pm_look_all kD_St_charAt, kf_ok (init := false) ht hZ kF_St_ok (fun h => by cases h), km_ok ht kM_St_ok, kci_ok ht kI_St_ok, kli_ok ht kJ_St_ok, kar_ok ht hZ kA_St_ok,
    pm_look_all (List.forall_mem_cons.mpr ⟨pm_cokV hbs hZ ⟨hx, hb, hml, hown, hts⟩ (kW_St_isLatin1 l D base sa) (fun mc ms => cwV 0 hts (pw_gV (pw_in 420 (w := .methodLink "java/lang/String" 492 ⟨"java/lang/String", "isLatin1", "()Z"⟩) (by decide +kernel) rfl) ki_St_isLatin1 ks_St_isLatin1 kn_St ko_St_isLatin1) rfl rfl rfl (by decide +kernel) ⟨Nat.le_of_ble_eq_true rfl, Nat.le_of_ble_eq_true rfl⟩) (ci := 13) rfl, List.forall_mem_cons.mpr ⟨pm_cokS hbs hZ ⟨hx, hb, hml, hown, hts⟩ (kW_S1_charAt l D base sa) (fun mc ms => va_cwS 2 hts (pw_gS (pw_in 424 (w := .methodLink "java/lang/String" 495 ⟨"java/lang/StringLatin1", "charAt", "([BI)C"⟩) (by decide +kernel) rfl) kv_S1_charAt kn_S1 ko_S1_charAt) rfl rfl rfl (by decide +kernel) ⟨Nat.le_of_ble_eq_true rfl, Nat.le_of_ble_eq_true rfl⟩) (Nat.le_of_ble_eq_true rfl), List.forall_mem_cons.mpr ⟨pm_cokS hbs hZ ⟨hx, hb, hml, hown, hts⟩ (kW_S2_charAt l D base sa) (fun mc ms => va_cwS 2 hts (pw_gS (pw_in 435 (w := .methodLink "java/lang/String" 498 ⟨"java/lang/StringUTF16", "charAt", "([BI)C"⟩) (by decide +kernel) rfl) kv_S2_charAt kn_S2 ko_S2_charAt) rfl rfl rfl (by decide +kernel) ⟨Nat.le_of_ble_eq_true rfl, Nat.le_of_ble_eq_true rfl⟩) (Nat.le_of_ble_eq_true rfl), fun _ h => absurd h List.not_mem_nil⟩⟩⟩),
    hZ, kst_ok ht hZ (kS_St_ok sa), knar_ok ht, ktx_ok (kE_St_ok sa)⟩
set_option maxRecDepth 100000 in
theorem ki_Re_is : Cond.instanceMethod ⟨"RoutingField$Reader", "is", "(ILjava/lang/String;)Z"⟩ ∈ pw_T := (pw_in 400 (by decide +kernel) rfl)
set_option maxRecDepth 100000 in
theorem ks_Re_is : Cond.selects "RoutingField$Reader" ⟨"RoutingField$Reader", "is", "(ILjava/lang/String;)Z"⟩ ⟨"RoutingField$Reader", "is", "(ILjava/lang/String;)Z"⟩ ∈ pw_T := (pw_sel 1 (q := (⟨"RoutingField$Reader", "is", "(ILjava/lang/String;)Z"⟩, 12)) (by decide +kernel))
set_option maxRecDepth 100000 in
theorem ko_Re_is : Cond.code ⟨"RoutingField$Reader", "is", "(ILjava/lang/String;)Z"⟩ prog_9_method_5_code 4 (some .boolean) ∈ pw_T := (pw_in 401 rfl rfl)
set_option maxRecDepth 100000 in
theorem kD_Re_is : ∀ q ∈ kC_Re_is, decode prog_9_method_5_code q.1 = .ok (q.2, pm_len q.1 q.2) := by decide +kernel
set_option maxRecDepth 100000 in
theorem kW_Re_is (l : Launch) (D : va_G) (base : Nat) (sa : Nat → Nat) : pm_Met l D kcl base (kZ sa) ⟨"RoutingField$Reader", "is", "(ILjava/lang/String;)Z"⟩ (.code ⟨"RoutingField$Reader", "is", "(ILjava/lang/String;)Z"⟩ prog_9_method_5_code 4 (some .boolean) :: pw_T) 5 122 (kP_Re_is base sa) := by
  refine pm_met (by decide) rfl rfl ?_
  intro mc ms p e s m args below meth c hx hb hml hown hnm hts hbs hZ
  have ht : ∀ w ∈ pw_T, w.before args s = true := fun w h => hts w (List.mem_cons_of_mem _ h)
  exact ⟨hx, hb, hown, hbs, pm_look_all kD_Re_is, kf_ok (init := false) ht hZ kF_Re_ok (fun h => by cases h), km_ok ht kM_Re_ok, kci_ok ht kI_Re_ok, kli_ok ht kJ_Re_ok, kar_ok ht hZ kA_Re_ok,
    pm_look_all (List.forall_mem_cons.mpr ⟨pm_cokV hbs hZ ⟨hx, hb, hml, hown, hts⟩ (kW_Re_isWord l D base sa) (fun mc ms => cwV 1 hts (pw_gV (pw_in 402 (w := .methodLink "RoutingField$Reader" 159 ⟨"RoutingField$Reader", "isWord", "(I)Z"⟩) (by decide +kernel) rfl) ki_Re_isWord ks_Re_isWord kn_Re ko_Re_isWord) rfl rfl rfl (by decide +kernel) ⟨Nat.le_of_ble_eq_true rfl, Nat.le_of_ble_eq_true rfl⟩) (ci := 7) rfl, List.forall_mem_cons.mpr ⟨pm_cokV hbs hZ ⟨hx, hb, hml, hown, hts⟩ (kW_St_length l D base sa) (fun mc ms => cwV 0 hts (pw_gV (pw_in 406 (w := .methodLink "RoutingField$Reader" 163 ⟨"java/lang/String", "length", "()I"⟩) (by decide +kernel) rfl) ki_St_length ks_St_length kn_St ko_St_length) rfl rfl rfl (by decide +kernel) ⟨Nat.le_of_ble_eq_true rfl, Nat.le_of_ble_eq_true rfl⟩) (ci := 13) rfl, List.forall_mem_cons.mpr ⟨pm_cokV hbs hZ ⟨hx, hb, hml, hown, hts⟩ (kW_By_at l D base sa) (fun mc ms => cwV 1 hts (pw_gV (pw_in 396 (w := .methodLink "RoutingField$Reader" 68 ⟨"RoutingField$Bytes", "at", "(I)I"⟩) (by decide +kernel) rfl) ki_By_at ks_By_at kn_By ko_By_at) rfl rfl rfl (by decide +kernel) ⟨Nat.le_of_ble_eq_true rfl, Nat.le_of_ble_eq_true rfl⟩) (ci := 0) rfl, List.forall_mem_cons.mpr ⟨pm_cokV hbs hZ ⟨hx, hb, hml, hown, hts⟩ (kW_St_charAt l D base sa) (fun mc ms => cwV 1 hts (pw_gV (pw_in 416 (w := .methodLink "RoutingField$Reader" 168 ⟨"java/lang/String", "charAt", "(I)C"⟩) (by decide +kernel) rfl) ki_St_charAt ks_St_charAt kn_St ko_St_charAt) rfl rfl rfl (by decide +kernel) ⟨Nat.le_of_ble_eq_true rfl, Nat.le_of_ble_eq_true rfl⟩) (ci := 13) rfl, fun _ h => absurd h List.not_mem_nil⟩⟩⟩⟩),
    hZ, kst_ok ht hZ (kS_Re_ok sa), knar_ok ht, ktx_ok (kE_Re_ok sa)⟩
