set_option maxRecDepth 100000 in
theorem kD_Ch_md5_0 : ∀ q ∈ kC_Ch_md5_0, decode prog_3_method_21_code q.1 = .ok (q.2, pm_len q.1 q.2) := by decide +kernel
set_option maxRecDepth 100000 in
theorem kD_Ch_md5_1 : ∀ q ∈ kC_Ch_md5_1, decode prog_3_method_21_code q.1 = .ok (q.2, pm_len q.1 q.2) := by decide +kernel
theorem kD_Ch_md5 : ∀ q ∈ kC_Ch_md5, decode prog_3_method_21_code q.1 = .ok (q.2, pm_len q.1 q.2) := List.forall_mem_append.mpr ⟨kD_Ch_md5_0, kD_Ch_md5_1⟩
set_option maxRecDepth 100000 in
theorem kW_Ch_md5 (l : Launch) (D : va_G) (base : Nat) (sa : Nat → Nat) : pm_Met l D kcl base (kZ sa) ⟨"RoutingField$Chain", "md5", "()V"⟩ (.code ⟨"RoutingField$Chain", "md5", "()V"⟩ prog_3_method_21_code 4 none :: pw_T) 1 29 (kP_Ch_md5 base sa) := by
  refine pm_met (by decide) rfl rfl ?_
  intro mc ms p e s m args below meth c hx hb hml hown hnm hts hbs hZ
  have ht : ∀ w ∈ pw_T, w.before args s = true := fun w h => hts w (List.mem_cons_of_mem _ h)
  exact ⟨hx, hb, hown, hbs, pm_look_all kD_Ch_md5, kf_ok (init := false) ht hZ kF_Ch_ok (fun h => by cases h), km_ok ht kM_Ch_ok, kci_ok ht kI_Ch_ok, kli_ok ht kJ_Ch_ok, kar_ok ht hZ kA_Ch_ok,
    pm_look_all (List.forall_mem_cons.mpr ⟨pm_cokV hbs hZ ⟨hx, hb, hml, hown, hts⟩ (kW_Ch_begin l D base sa) (fun mc ms => cwV 0 hts (pw_gV (pw_in 1178 (w := .methodLink "RoutingField$Chain" 159 ⟨"RoutingField$Chain", "begin", "()V"⟩) (by decide +kernel) rfl) (pw_in 1180 (by decide +kernel) rfl) (pw_sel 36 (q := (⟨"RoutingField$Chain", "begin", "()V"⟩, 12)) (by decide +kernel)) (pw_in 8 (by decide +kernel) rfl) (pw_in 1181 rfl rfl)) rfl rfl rfl (by decide +kernel) ⟨Nat.le_of_ble_eq_true rfl, Nat.le_of_ble_eq_true rfl⟩) (ci := 1) rfl, List.forall_mem_cons.mpr ⟨pm_cokV hbs hZ ⟨hx, hb, hml, hown, hts⟩ (kW_Ch_md5Block l D base sa) (fun mc ms => cwV 0 hts (pw_gV (pw_in 1187 (w := .methodLink "RoutingField$Chain" 162 ⟨"RoutingField$Chain", "md5Block", "()V"⟩) (by decide +kernel) rfl) (pw_in 1189 (by decide +kernel) rfl) (pw_sel 37 (q := (⟨"RoutingField$Chain", "md5Block", "()V"⟩, 12)) (by decide +kernel)) (pw_in 8 (by decide +kernel) rfl) (pw_in 1190 rfl rfl)) rfl rfl rfl (by decide +kernel) ⟨Nat.le_of_ble_eq_true rfl, Nat.le_of_ble_eq_true rfl⟩) (ci := 1) rfl, fun _ h => absurd h List.not_mem_nil⟩⟩),
    hZ, kst_ok ht hZ (kS_Ch_ok sa), knar_ok ht, ktx_ok (kE_Ch_ok sa)⟩
set_option maxRecDepth 100000 in
theorem kD_Ch_shaBlock_0 : ∀ q ∈ kC_Ch_shaBlock_0, decode prog_3_method_24_code q.1 = .ok (q.2, pm_len q.1 q.2) := by decide +kernel
set_option maxRecDepth 100000 in
theorem kD_Ch_shaBlock_1 : ∀ q ∈ kC_Ch_shaBlock_1, decode prog_3_method_24_code q.1 = .ok (q.2, pm_len q.1 q.2) := by decide +kernel
set_option maxRecDepth 100000 in
theorem kD_Ch_shaBlock_2 : ∀ q ∈ kC_Ch_shaBlock_2, decode prog_3_method_24_code q.1 = .ok (q.2, pm_len q.1 q.2) := by decide +kernel
set_option maxRecDepth 100000 in
theorem kD_Ch_shaBlock_3 : ∀ q ∈ kC_Ch_shaBlock_3, decode prog_3_method_24_code q.1 = .ok (q.2, pm_len q.1 q.2) := by decide +kernel
theorem kD_Ch_shaBlock : ∀ q ∈ kC_Ch_shaBlock, decode prog_3_method_24_code q.1 = .ok (q.2, pm_len q.1 q.2) := List.forall_mem_append.mpr ⟨kD_Ch_shaBlock_0, List.forall_mem_append.mpr ⟨kD_Ch_shaBlock_1, List.forall_mem_append.mpr ⟨kD_Ch_shaBlock_2, kD_Ch_shaBlock_3⟩⟩⟩
set_option maxRecDepth 100000 in
theorem kW_Ch_shaBlock (l : Launch) (D : va_G) (base : Nat) (sa : Nat → Nat) : pm_Met l D kcl base (kZ sa) ⟨"RoutingField$Chain", "shaBlock", "()V"⟩ (.code ⟨"RoutingField$Chain", "shaBlock", "()V"⟩ prog_3_method_24_code 9 none :: pw_T) 0 0 (kP_Ch_shaBlock base sa) := by
  refine pm_met (by decide) rfl rfl ?_
  intro mc ms p e s m args below meth c hx hb hml hown hnm hts hbs hZ
  have ht : ∀ w ∈ pw_T, w.before args s = true := fun w h => hts w (List.mem_cons_of_mem _ h)
  exact ⟨hx, hb, hown, hbs, pm_look_all kD_Ch_shaBlock, kf_ok (init := false) ht hZ kF_Ch_ok (fun h => by cases h), km_ok ht kM_Ch_ok, kci_ok ht kI_Ch_ok, kli_ok ht kJ_Ch_ok, kar_ok ht hZ kA_Ch_ok,
    pm_look_all (fun _ h => absurd h List.not_mem_nil),
    hZ, kst_ok ht hZ (kS_Ch_ok sa), knar_ok ht, ktx_ok (kE_Ch_ok sa)⟩
set_option maxRecDepth 100000 in
theorem kD_Ch_sha_0 : ∀ q ∈ kC_Ch_sha_0, decode prog_3_method_23_code q.1 = .ok (q.2, pm_len q.1 q.2) := by decide +kernel
set_option maxRecDepth 100000 in
theorem kD_Ch_sha_1 : ∀ q ∈ kC_Ch_sha_1, decode prog_3_method_23_code q.1 = .ok (q.2, pm_len q.1 q.2) := by decide +kernel
set_option maxRecDepth 100000 in
theorem kD_Ch_sha_2 : ∀ q ∈ kC_Ch_sha_2, decode prog_3_method_23_code q.1 = .ok (q.2, pm_len q.1 q.2) := by decide +kernel
theorem kD_Ch_sha : ∀ q ∈ kC_Ch_sha, decode prog_3_method_23_code q.1 = .ok (q.2, pm_len q.1 q.2) := List.forall_mem_append.mpr ⟨kD_Ch_sha_0, List.forall_mem_append.mpr ⟨kD_Ch_sha_1, kD_Ch_sha_2⟩⟩
set_option maxRecDepth 100000 in
theorem kW_Ch_sha (l : Launch) (D : va_G) (base : Nat) (sa : Nat → Nat) : pm_Met l D kcl base (kZ sa) ⟨"RoutingField$Chain", "sha", "()V"⟩ (.code ⟨"RoutingField$Chain", "sha", "()V"⟩ prog_3_method_23_code 4 none :: pw_T) 1 28 (kP_Ch_sha base sa) := by
  refine pm_met (by decide) rfl rfl ?_
  intro mc ms p e s m args below meth c hx hb hml hown hnm hts hbs hZ
  have ht : ∀ w ∈ pw_T, w.before args s = true := fun w h => hts w (List.mem_cons_of_mem _ h)
  exact ⟨hx, hb, hown, hbs, pm_look_all kD_Ch_sha, kf_ok (init := false) ht hZ kF_Ch_ok (fun h => by cases h), km_ok ht kM_Ch_ok, kci_ok ht kI_Ch_ok, kli_ok ht kJ_Ch_ok, kar_ok ht hZ kA_Ch_ok,
    pm_look_all (List.forall_mem_cons.mpr ⟨pm_cokV hbs hZ ⟨hx, hb, hml, hown, hts⟩ (kW_Ch_begin l D base sa) (fun mc ms => cwV 0 hts (pw_gV (pw_in 1178 (w := .methodLink "RoutingField$Chain" 159 ⟨"RoutingField$Chain", "begin", "()V"⟩) (by decide +kernel) rfl) (pw_in 1180 (by decide +kernel) rfl) (pw_sel 36 (q := (⟨"RoutingField$Chain", "begin", "()V"⟩, 12)) (by decide +kernel)) (pw_in 8 (by decide +kernel) rfl) (pw_in 1181 rfl rfl)) rfl rfl rfl (by decide +kernel) ⟨Nat.le_of_ble_eq_true rfl, Nat.le_of_ble_eq_true rfl⟩) (ci := 1) rfl, List.forall_mem_cons.mpr ⟨pm_cokV hbs hZ ⟨hx, hb, hml, hown, hts⟩ (kW_Ch_shaBlock l D base sa) (fun mc ms => cwV 0 hts (pw_gV (pw_in 1199 (w := .methodLink "RoutingField$Chain" 171 ⟨"RoutingField$Chain", "shaBlock", "()V"⟩) (by decide +kernel) rfl) (pw_in 1201 (by decide +kernel) rfl) (pw_sel 39 (q := (⟨"RoutingField$Chain", "shaBlock", "()V"⟩, 12)) (by decide +kernel)) (pw_in 8 (by decide +kernel) rfl) (pw_in 1202 rfl rfl)) rfl rfl rfl (by decide +kernel) ⟨Nat.le_of_ble_eq_true rfl, Nat.le_of_ble_eq_true rfl⟩) (ci := 1) rfl, fun _ h => absurd h List.not_mem_nil⟩⟩),
    hZ, kst_ok ht hZ (kS_Ch_ok sa), knar_ok ht, ktx_ok (kE_Ch_ok sa)⟩
set_option maxRecDepth 100000 in
theorem kD_Ch_sumByte : ∀ q ∈ kC_Ch_sumByte, decode prog_3_method_15_code q.1 = .ok (q.2, pm_len q.1 q.2) := by decide +kernel
set_option maxRecDepth 100000 in
theorem kW_Ch_sumByte (l : Launch) (D : va_G) (base : Nat) (sa : Nat → Nat) : pm_Met l D kcl base (kZ sa) ⟨"RoutingField$Chain", "sumByte", "(II)I"⟩ (.code ⟨"RoutingField$Chain", "sumByte", "(II)I"⟩ prog_3_method_15_code 4 (some .int) :: pw_T) 0 0 (kP_Ch_sumByte base sa) := by
  refine pm_met (by decide) rfl rfl ?_
  intro mc ms p e s m args below meth c hx hb hml hown hnm hts hbs hZ
  have ht : ∀ w ∈ pw_T, w.before args s = true := fun w h => hts w (List.mem_cons_of_mem _ h)
  exact ⟨hx, hb, hown, hbs, pm_look_all kD_Ch_sumByte, kf_ok (init := false) ht hZ kF_Ch_ok (fun h => by cases h), km_ok ht kM_Ch_ok, kci_ok ht kI_Ch_ok, kli_ok ht kJ_Ch_ok, kar_ok ht hZ kA_Ch_ok,
    pm_look_all (fun _ h => absurd h List.not_mem_nil),
    hZ, kst_ok ht hZ (kS_Ch_ok sa), knar_ok ht, ktx_ok (kE_Ch_ok sa)⟩
set_option maxRecDepth 100000 in
theorem kD_Ch_sum_0 : ∀ q ∈ kC_Ch_sum_0, decode prog_3_method_16_code q.1 = .ok (q.2, pm_len q.1 q.2) := by decide +kernel
set_option maxRecDepth 100000 in
theorem kD_Ch_sum_1 : ∀ q ∈ kC_Ch_sum_1, decode prog_3_method_16_code q.1 = .ok (q.2, pm_len q.1 q.2) := by decide +kernel
theorem kD_Ch_sum : ∀ q ∈ kC_Ch_sum, decode prog_3_method_16_code q.1 = .ok (q.2, pm_len q.1 q.2) := List.forall_mem_append.mpr ⟨kD_Ch_sum_0, kD_Ch_sum_1⟩
set_option maxRecDepth 100000 in
theorem kW_Ch_sum (l : Launch) (D : va_G) (base : Nat) (sa : Nat → Nat) : pm_Met l D kcl base (kZ sa) ⟨"RoutingField$Chain", "sum", "(LRoutingField$Bytes;II)V"⟩ (.code ⟨"RoutingField$Chain", "sum", "(LRoutingField$Bytes;II)V"⟩ prog_3_method_16_code 5 none :: pw_T) 2 52 (kP_Ch_sum base sa) := by
  refine pm_met (by decide) rfl rfl ?_
  intro mc ms p e s m args below meth c hx hb hml hown hnm hts hbs hZ
  have ht : ∀ w ∈ pw_T, w.before args s = true := fun w h => hts w (List.mem_cons_of_mem _ h)
  exact ⟨hx, hb, hown, hbs, pm_look_all kD_Ch_sum, kf_ok (init := false) ht hZ kF_Ch_ok (fun h => by cases h), km_ok ht kM_Ch_ok, kci_ok ht kI_Ch_ok, kli_ok ht kJ_Ch_ok, kar_ok ht hZ kA_Ch_ok,
    pm_look_all (List.forall_mem_cons.mpr ⟨pm_cokS hbs hZ ⟨hx, hb, hml, hown, hts⟩ (kW_Ma_min l D base sa) (fun mc ms => va_cwS 2 hts (pw_gS (pw_in 1159 (w := .methodLink "RoutingField$Chain" 133 ⟨"java/lang/Math", "min", "(II)I"⟩) (by decide +kernel) rfl) (pw_in 1160 (by decide +kernel) rfl) (pw_in 14 (by decide +kernel) rfl) (pw_in 1161 rfl rfl)) rfl rfl rfl (by decide +kernel) ⟨Nat.le_of_ble_eq_true rfl, Nat.le_of_ble_eq_true rfl⟩), List.forall_mem_cons.mpr ⟨pm_cokV hbs hZ ⟨hx, hb, hml, hown, hts⟩ (kW_Ch_addWork l D base sa) (fun mc ms => cwV 2 hts (pw_gV (pw_in 1162 (w := .methodLink "RoutingField$Chain" 136 ⟨"RoutingField$Chain", "addWork", "([BI)V"⟩) (by decide +kernel) rfl) (pw_in 1164 (by decide +kernel) rfl) (pw_sel 32 (q := (⟨"RoutingField$Chain", "addWork", "([BI)V"⟩, 12)) (by decide +kernel)) (pw_in 8 (by decide +kernel) rfl) (pw_in 1165 rfl rfl)) rfl rfl rfl (by decide +kernel) ⟨Nat.le_of_ble_eq_true rfl, Nat.le_of_ble_eq_true rfl⟩) (ci := 1) rfl, List.forall_mem_cons.mpr ⟨pm_cokV hbs hZ ⟨hx, hb, hml, hown, hts⟩ (kW_Ch_addSecret l D base sa) (fun mc ms => cwV 3 hts (pw_gV (pw_in 1166 (w := .methodLink "RoutingField$Chain" 140 ⟨"RoutingField$Chain", "addSecret", "(III)V"⟩) (by decide +kernel) rfl) (pw_in 1168 (by decide +kernel) rfl) (pw_sel 33 (q := (⟨"RoutingField$Chain", "addSecret", "(III)V"⟩, 12)) (by decide +kernel)) (pw_in 8 (by decide +kernel) rfl) (pw_in 1169 rfl rfl)) rfl rfl rfl (by decide +kernel) ⟨Nat.le_of_ble_eq_true rfl, Nat.le_of_ble_eq_true rfl⟩) (ci := 1) rfl, List.forall_mem_cons.mpr ⟨pm_cokV hbs hZ ⟨hx, hb, hml, hown, hts⟩ (kW_Ch_fillBlock l D base sa) (fun mc ms => cwV 1 hts (pw_gV (pw_in 1170 (w := .methodLink "RoutingField$Chain" 144 ⟨"RoutingField$Chain", "fillBlock", "(Z)V"⟩) (by decide +kernel) rfl) (pw_in 1172 (by decide +kernel) rfl) (pw_sel 34 (q := (⟨"RoutingField$Chain", "fillBlock", "(Z)V"⟩, 12)) (by decide +kernel)) (pw_in 8 (by decide +kernel) rfl) (pw_in 1173 rfl rfl)) rfl rfl rfl (by decide +kernel) ⟨Nat.le_of_ble_eq_true rfl, Nat.le_of_ble_eq_true rfl⟩) (ci := 1) rfl, List.forall_mem_cons.mpr ⟨pm_cokV hbs hZ ⟨hx, hb, hml, hown, hts⟩ (kW_Ch_md5 l D base sa) (fun mc ms => cwV 0 hts (pw_gV (pw_in 1174 (w := .methodLink "RoutingField$Chain" 148 ⟨"RoutingField$Chain", "md5", "()V"⟩) (by decide +kernel) rfl) (pw_in 1176 (by decide +kernel) rfl) (pw_sel 35 (q := (⟨"RoutingField$Chain", "md5", "()V"⟩, 12)) (by decide +kernel)) (pw_in 8 (by decide +kernel) rfl) (pw_in 1177 rfl rfl)) rfl rfl rfl (by decide +kernel) ⟨Nat.le_of_ble_eq_true rfl, Nat.le_of_ble_eq_true rfl⟩) (ci := 1) rfl, List.forall_mem_cons.mpr ⟨pm_cokV hbs hZ ⟨hx, hb, hml, hown, hts⟩ (kW_Ch_sha l D base sa) (fun mc ms => cwV 0 hts (pw_gV (pw_in 1195 (w := .methodLink "RoutingField$Chain" 151 ⟨"RoutingField$Chain", "sha", "()V"⟩) (by decide +kernel) rfl) (pw_in 1197 (by decide +kernel) rfl) (pw_sel 38 (q := (⟨"RoutingField$Chain", "sha", "()V"⟩, 12)) (by decide +kernel)) (pw_in 8 (by decide +kernel) rfl) (pw_in 1198 rfl rfl)) rfl rfl rfl (by decide +kernel) ⟨Nat.le_of_ble_eq_true rfl, Nat.le_of_ble_eq_true rfl⟩) (ci := 1) rfl, List.forall_mem_cons.mpr ⟨pm_cokV hbs hZ ⟨hx, hb, hml, hown, hts⟩ (kW_Ch_sumByte l D base sa) (fun mc ms => cwV 2 hts (pw_gV (pw_in 1207 (w := .methodLink "RoutingField$Chain" 115 ⟨"RoutingField$Chain", "sumByte", "(II)I"⟩) (by decide +kernel) rfl) (pw_in 1209 (by decide +kernel) rfl) (pw_sel 40 (q := (⟨"RoutingField$Chain", "sumByte", "(II)I"⟩, 12)) (by decide +kernel)) (pw_in 8 (by decide +kernel) rfl) (pw_in 1210 rfl rfl)) rfl rfl rfl (by decide +kernel) ⟨Nat.le_of_ble_eq_true rfl, Nat.le_of_ble_eq_true rfl⟩) (ci := 1) rfl, fun _ h => absurd h List.not_mem_nil⟩⟩⟩⟩⟩⟩⟩),
    hZ, kst_ok ht hZ (kS_Ch_ok sa), knar_ok ht, ktx_ok (kE_Ch_ok sa)⟩
set_option maxRecDepth 100000 in
theorem kD_Ch_seal : ∀ q ∈ kC_Ch_seal, decode prog_3_method_13_code q.1 = .ok (q.2, pm_len q.1 q.2) := by decide +kernel
set_option maxRecDepth 100000 in
theorem kW_Ch_seal (l : Launch) (D : va_G) (base : Nat) (sa : Nat → Nat) : pm_Met l D kcl base (kZ sa) ⟨"RoutingField$Chain", "seal", "(LRoutingField$Bytes;I)V"⟩ (.code ⟨"RoutingField$Chain", "seal", "(LRoutingField$Bytes;I)V"⟩ prog_3_method_13_code 4 none :: pw_T) 3 76 (kP_Ch_seal base sa) := by
  refine pm_met (by decide) rfl rfl ?_
  intro mc ms p e s m args below meth c hx hb hml hown hnm hts hbs hZ
  have ht : ∀ w ∈ pw_T, w.before args s = true := fun w h => hts w (List.mem_cons_of_mem _ h)
  exact ⟨hx, hb, hown, hbs, pm_look_all kD_Ch_seal, kf_ok (init := false) ht hZ kF_Ch_ok (fun h => by cases h), km_ok ht kM_Ch_ok, kci_ok ht kI_Ch_ok, kli_ok ht kJ_Ch_ok, kar_ok ht hZ kA_Ch_ok,
    pm_look_all (List.forall_mem_cons.mpr ⟨pm_cokV hbs hZ ⟨hx, hb, hml, hown, hts⟩ (kW_By_setAt l D base sa) (fun mc ms => cwV 2 hts (pw_gV (pw_in 1150 (w := .methodLink "RoutingField$Chain" 105 ⟨"RoutingField$Bytes", "setAt", "(II)V"⟩) (by decide +kernel) rfl) (pw_in 1151 (by decide +kernel) rfl) (pw_in 1152 (by decide +kernel) rfl) (pw_in 2 (by decide +kernel) rfl) (pw_in 1153 rfl rfl)) rfl rfl rfl (by decide +kernel) ⟨Nat.le_of_ble_eq_true rfl, Nat.le_of_ble_eq_true rfl⟩) (ci := 0) rfl, List.forall_mem_cons.mpr ⟨pm_cokV hbs hZ ⟨hx, hb, hml, hown, hts⟩ (kW_By_addNumber l D base sa) (fun mc ms => cwV 2 hts (pw_gV (pw_in 1137 (w := .methodLink "RoutingField$Chain" 75 ⟨"RoutingField$Bytes", "addNumber", "(JI)V"⟩) (by decide +kernel) rfl) (pw_in 266 (by decide +kernel) rfl) (pw_in 267 (by decide +kernel) rfl) (pw_in 2 (by decide +kernel) rfl) (pw_in 268 rfl rfl)) rfl rfl rfl (by decide +kernel) ⟨Nat.le_of_ble_eq_true rfl, Nat.le_of_ble_eq_true rfl⟩) (ci := 0) rfl, List.forall_mem_cons.mpr ⟨pm_cokV hbs hZ ⟨hx, hb, hml, hown, hts⟩ (kW_Ch_sum l D base sa) (fun mc ms => cwV 3 hts (pw_gV (pw_in 1155 (w := .methodLink "RoutingField$Chain" 111 ⟨"RoutingField$Chain", "sum", "(LRoutingField$Bytes;II)V"⟩) (by decide +kernel) rfl) (pw_in 1157 (by decide +kernel) rfl) (pw_sel 31 (q := (⟨"RoutingField$Chain", "sum", "(LRoutingField$Bytes;II)V"⟩, 12)) (by decide +kernel)) (pw_in 8 (by decide +kernel) rfl) (pw_in 1158 rfl rfl)) rfl rfl rfl (by decide +kernel) ⟨Nat.le_of_ble_eq_true rfl, Nat.le_of_ble_eq_true rfl⟩) (ci := 1) rfl, List.forall_mem_cons.mpr ⟨pm_cokV hbs hZ ⟨hx, hb, hml, hown, hts⟩ (kW_Ch_sumByte l D base sa) (fun mc ms => cwV 2 hts (pw_gV (pw_in 1207 (w := .methodLink "RoutingField$Chain" 115 ⟨"RoutingField$Chain", "sumByte", "(II)I"⟩) (by decide +kernel) rfl) (pw_in 1209 (by decide +kernel) rfl) (pw_sel 40 (q := (⟨"RoutingField$Chain", "sumByte", "(II)I"⟩, 12)) (by decide +kernel)) (pw_in 8 (by decide +kernel) rfl) (pw_in 1210 rfl rfl)) rfl rfl rfl (by decide +kernel) ⟨Nat.le_of_ble_eq_true rfl, Nat.le_of_ble_eq_true rfl⟩) (ci := 1) rfl, List.forall_mem_cons.mpr ⟨pm_cokV hbs hZ ⟨hx, hb, hml, hown, hts⟩ (kW_By_add l D base sa) (fun mc ms => cwV 1 hts (pw_gV (pw_in 1139 (w := .methodLink "RoutingField$Chain" 83 ⟨"RoutingField$Bytes", "add", "(I)V"⟩) (by decide +kernel) rfl) (pw_in 270 (by decide +kernel) rfl) (pw_in 271 (by decide +kernel) rfl) (pw_in 2 (by decide +kernel) rfl) (pw_in 272 rfl rfl)) rfl rfl rfl (by decide +kernel) ⟨Nat.le_of_ble_eq_true rfl, Nat.le_of_ble_eq_true rfl⟩) (ci := 0) rfl, List.forall_mem_cons.mpr ⟨pm_cokV hbs hZ ⟨hx, hb, hml, hown, hts⟩ (kW_By_addZeros l D base sa) (fun mc ms => cwV 1 hts (pw_gV (pw_in 1145 (w := .methodLink "RoutingField$Chain" 99 ⟨"RoutingField$Bytes", "addZeros", "(I)V"⟩) (by decide +kernel) rfl) (pw_in 1129 (by decide +kernel) rfl) (pw_in 1130 (by decide +kernel) rfl) (pw_in 2 (by decide +kernel) rfl) (pw_in 1131 rfl rfl)) rfl rfl rfl (by decide +kernel) ⟨Nat.le_of_ble_eq_true rfl, Nat.le_of_ble_eq_true rfl⟩) (ci := 0) rfl, fun _ h => absurd h List.not_mem_nil⟩⟩⟩⟩⟩⟩),
    hZ, kst_ok ht hZ (kS_Ch_ok sa), knar_ok ht, ktx_ok (kE_Ch_ok sa)⟩
set_option maxRecDepth 100000 in
theorem kD_Da_portOf : ∀ q ∈ kC_Da_portOf, decode prog_4_method_2_code q.1 = .ok (q.2, pm_len q.1 q.2) := by decide +kernel
set_option maxRecDepth 100000 in
theorem kW_Da_portOf (l : Launch) (D : va_G) (base : Nat) (sa : Nat → Nat) : pm_Met l D kcl base (kZ sa) ⟨"RoutingField$Datagram", "portOf", "(I)I"⟩ (.code ⟨"RoutingField$Datagram", "portOf", "(I)I"⟩ prog_4_method_2_code 1 (some .int) :: pw_T) 0 0 (kP_Da_portOf base sa) := by
  refine pm_met (by decide) rfl rfl ?_
  intro mc ms p e s m args below meth c hx hb hml hown hnm hts hbs hZ
  have ht : ∀ w ∈ pw_T, w.before args s = true := fun w h => hts w (List.mem_cons_of_mem _ h)
  exact ⟨hx, hb, hown, hbs, pm_look_all kD_Da_portOf, kf_ok (init := false) ht hZ kF_Da_ok (fun h => by cases h), km_ok ht kM_Da_ok, kci_ok ht kI_Da_ok, kli_ok ht kJ_Da_ok, kar_ok ht hZ kA_Da_ok,
    pm_look_all (fun _ h => absurd h List.not_mem_nil),
    hZ, kst_ok ht hZ (kS_Da_ok sa), knar_ok ht, ktx_ok (kE_Da_ok sa)⟩
set_option maxRecDepth 100000 in
theorem kD_By_addPart : ∀ q ∈ kC_By_addPart, decode prog_2_method_10_code q.1 = .ok (q.2, pm_len q.1 q.2) := by decide +kernel
set_option maxRecDepth 100000 in
theorem kW_By_addPart (l : Launch) (D : va_G) (base : Nat) (sa : Nat → Nat) : pm_Met l D kcl base (kZ sa) ⟨"RoutingField$Bytes", "addPart", "(LRoutingField$Bytes;II)V"⟩ (.code ⟨"RoutingField$Bytes", "addPart", "(LRoutingField$Bytes;II)V"⟩ prog_2_method_10_code 6 none :: pw_T) 1 21 (kP_By_addPart base sa) := by
  refine pm_met (by decide) rfl rfl ?_
  intro mc ms p e s m args below meth c hx hb hml hown hnm hts hbs hZ
  have ht : ∀ w ∈ pw_T, w.before args s = true := fun w h => hts w (List.mem_cons_of_mem _ h)
  exact ⟨hx, hb, hown, hbs, pm_look_all kD_By_addPart, kf_ok (init := false) ht hZ kF_By_ok (fun h => by cases h), km_ok ht kM_By_ok, kci_ok ht kI_By_ok, kli_ok ht kJ_By_ok, kar_ok ht hZ kA_By_ok,
    pm_look_all (List.forall_mem_cons.mpr ⟨pm_cokS hbs hZ ⟨hx, hb, hml, hown, hts⟩ (kW_Ma_max l D base sa) (fun mc ms => va_cwS 2 hts (pw_gS (pw_in 1229 (w := .methodLink "RoutingField$Bytes" 27 ⟨"java/lang/Math", "max", "(II)I"⟩) (by decide +kernel) rfl) (pw_in 484 (by decide +kernel) rfl) (pw_in 14 (by decide +kernel) rfl) (pw_in 485 rfl rfl)) rfl rfl rfl (by decide +kernel) ⟨Nat.le_of_ble_eq_true rfl, Nat.le_of_ble_eq_true rfl⟩), fun _ h => absurd h List.not_mem_nil⟩),
    hZ, kst_ok ht hZ (kS_By_ok sa), knar_ok ht, ktx_ok (kE_By_ok sa)⟩
set_option maxRecDepth 100000 in
theorem kD_Rf_launch_0 : ∀ q ∈ kC_Rf_launch_0, decode prog_1_method_27_code q.1 = .ok (q.2, pm_len q.1 q.2) := by decide +kernel
set_option maxRecDepth 100000 in
theorem kD_Rf_launch_1 : ∀ q ∈ kC_Rf_launch_1, decode prog_1_method_27_code q.1 = .ok (q.2, pm_len q.1 q.2) := by decide +kernel
set_option maxRecDepth 100000 in
theorem kD_Rf_launch_2 : ∀ q ∈ kC_Rf_launch_2, decode prog_1_method_27_code q.1 = .ok (q.2, pm_len q.1 q.2) := by decide +kernel
theorem kD_Rf_launch : ∀ q ∈ kC_Rf_launch, decode prog_1_method_27_code q.1 = .ok (q.2, pm_len q.1 q.2) := List.forall_mem_append.mpr ⟨kD_Rf_launch_0, List.forall_mem_append.mpr ⟨kD_Rf_launch_1, kD_Rf_launch_2⟩⟩
set_option maxRecDepth 100000 in
theorem kW_Rf_launch (l : Launch) (D : va_G) (base : Nat) (sa : Nat → Nat) : pm_Met l D kcl base (kZ sa) ⟨"RoutingField", "launch", "(LRoutingField$Link;)V"⟩ (.code ⟨"RoutingField", "launch", "(LRoutingField$Link;)V"⟩ prog_1_method_27_code 3 none :: pw_T) 3 61 (kP_Rf_launch base sa) := by
  refine pm_met (by decide) rfl rfl ?_
  intro mc ms p e s m args below meth c hx hb hml hown hnm hts hbs hZ
  have ht : ∀ w ∈ pw_T, w.before args s = true := fun w h => hts w (List.mem_cons_of_mem _ h)
  exact ⟨hx, hb, hown, hbs, pm_look_all kD_Rf_launch, kf_ok (init := false) ht hZ kF_Rf_ok (fun h => by cases h), km_ok ht kM_Rf_ok, kci_ok ht kI_Rf_ok, kli_ok ht kJ_Rf_ok, kar_ok ht hZ kA_Rf_ok,
    pm_look_all (List.forall_mem_cons.mpr ⟨pm_cokV hbs hZ ⟨hx, hb, hml, hown, hts⟩ (kW_By_clear l D base sa) (fun mc ms => cwV 0 hts (pw_gV (pw_in 1224 (w := .methodLink "RoutingField" 119 ⟨"RoutingField$Bytes", "clear", "()V"⟩) (by decide +kernel) rfl) (pw_in 1124 (by decide +kernel) rfl) (pw_in 1125 (by decide +kernel) rfl) (pw_in 2 (by decide +kernel) rfl) (pw_in 1126 rfl rfl)) rfl rfl rfl (by decide +kernel) ⟨Nat.le_of_ble_eq_true rfl, Nat.le_of_ble_eq_true rfl⟩) (ci := 0) rfl, List.forall_mem_cons.mpr ⟨pm_cokV hbs hZ ⟨hx, hb, hml, hown, hts⟩ (kW_By_addPart l D base sa) (fun mc ms => cwV 3 hts (pw_gV (pw_in 1225 (w := .methodLink "RoutingField" 168 ⟨"RoutingField$Bytes", "addPart", "(LRoutingField$Bytes;II)V"⟩) (by decide +kernel) rfl) (pw_in 1226 (by decide +kernel) rfl) (pw_in 1227 (by decide +kernel) rfl) (pw_in 2 (by decide +kernel) rfl) (pw_in 1228 rfl rfl)) rfl rfl rfl (by decide +kernel) ⟨Nat.le_of_ble_eq_true rfl, Nat.le_of_ble_eq_true rfl⟩) (ci := 0) rfl, List.forall_mem_cons.mpr ⟨pm_cokI hbs hZ ⟨hx, hb, hml, hown, hts⟩ (kW_Da_init l D base sa) (fun mc ms => cwI 0 hts (pw_gC (pw_in 64 rfl rfl)) rfl rfl rfl (ht _ (pw_in 3 (by decide +kernel) rfl)) (ht _ (pw_in 62 (w := .methodLink "RoutingField" 77 ⟨"RoutingField$Datagram", "<init>", "()V"⟩) (by decide +kernel) rfl)) (ht _ (pw_in 63 (by decide +kernel) rfl)) rfl (by decide +kernel) ⟨Nat.le_of_ble_eq_true rfl, Nat.le_of_ble_eq_true rfl⟩), fun _ h => absurd h List.not_mem_nil⟩⟩⟩),
    hZ, kst_ok ht hZ (kS_Rf_ok sa), knar_ok ht, ktx_ok (kE_Rf_ok sa)⟩
