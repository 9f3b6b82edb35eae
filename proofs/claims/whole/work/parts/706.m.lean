set_option maxRecDepth 100000 in
theorem ki_Ch_md5 : Cond.instanceMethod ⟨"RoutingField$Chain", "md5", "()V"⟩ ∈ pw_T := (pw_in 1176 (by decide +kernel) rfl)
set_option maxRecDepth 100000 in
theorem ks_Ch_md5 : Cond.selects "RoutingField$Chain" ⟨"RoutingField$Chain", "md5", "()V"⟩ ⟨"RoutingField$Chain", "md5", "()V"⟩ ∈ pw_T := (pw_sel 35 (q := (⟨"RoutingField$Chain", "md5", "()V"⟩, 12)) (by decide +kernel))
set_option maxRecDepth 100000 in
theorem ko_Ch_md5 : Cond.code ⟨"RoutingField$Chain", "md5", "()V"⟩ prog_3_method_21_code 4 none ∈ pw_T := (pw_in 1177 rfl rfl)
set_option maxRecDepth 100000 in
theorem kD_Ch_md5_0 : ∀ q ∈ kC_Ch_md5_0, decode prog_3_method_21_code q.1 = .ok (q.2, pm_len q.1 q.2) := by decide +kernel
set_option maxRecDepth 100000 in
theorem kD_Ch_md5_1 : ∀ q ∈ kC_Ch_md5_1, decode prog_3_method_21_code q.1 = .ok (q.2, pm_len q.1 q.2) := by decide +kernel
theorem kD_Ch_md5 : ∀ q ∈ kC_Ch_md5, decode prog_3_method_21_code q.1 = .ok (q.2, pm_len q.1 q.2) := List.forall_mem_append.mpr ⟨kD_Ch_md5_0, kD_Ch_md5_1⟩
set_option maxRecDepth 100000 in
theorem kW_Ch_md5 (l : Launch) (D : va_G) (base : Nat) (sa : Nat → Nat) : pm_Met l D kcl base (kZ sa) ⟨"RoutingField$Chain", "md5", "()V"⟩ (.code ⟨"RoutingField$Chain", "md5", "()V"⟩ prog_3_method_21_code 4 none :: pw_T) 1 29 (kP_Ch_md5 base sa) := by
  refine pm_met (by decide) rfl rfl ?_
  intro mc ms p e s m args below meth c hx hb hml hown hnm hts hbs hZ
  have ht : ∀ w ∈ pw_T, w.before args s = true := fun w h => hts w (List.mem_cons_of_mem _ h)
  exact ⟨hx, hb, hown, hbs, pm_look_all kD_Ch_md5, kf_ok (init := false) ht hZ kF_Ch_ok (fun h => by cases h), km_ok ht kM_Ch_ok, kci_ok ht kI_Ch_ok, kli_ok ht kJ_Ch_ok, kar_ok ht hZ kA_Ch_ok,
    pm_look_all (List.forall_mem_cons.mpr ⟨pm_cokV hbs hZ ⟨hx, hb, hml, hown, hts⟩ (kW_Ch_begin l D base sa) (fun mc ms => cwV 0 hts (pw_gV (pw_in 1178 (w := .methodLink "RoutingField$Chain" 159 ⟨"RoutingField$Chain", "begin", "()V"⟩) (by decide +kernel) rfl) ki_Ch_begin ks_Ch_begin kn_Ch ko_Ch_begin) rfl rfl rfl (by decide +kernel) ⟨Nat.le_of_ble_eq_true rfl, Nat.le_of_ble_eq_true rfl⟩) (ci := 1) rfl, List.forall_mem_cons.mpr ⟨pm_cokV hbs hZ ⟨hx, hb, hml, hown, hts⟩ (kW_Ch_md5Block l D base sa) (fun mc ms => cwV 0 hts (pw_gV (pw_in 1187 (w := .methodLink "RoutingField$Chain" 162 ⟨"RoutingField$Chain", "md5Block", "()V"⟩) (by decide +kernel) rfl) ki_Ch_md5Block ks_Ch_md5Block kn_Ch ko_Ch_md5Block) rfl rfl rfl (by decide +kernel) ⟨Nat.le_of_ble_eq_true rfl, Nat.le_of_ble_eq_true rfl⟩) (ci := 1) rfl, fun _ h => absurd h List.not_mem_nil⟩⟩),
    hZ, kst_ok ht hZ (kS_Ch_ok sa), knar_ok ht, ktx_ok (kE_Ch_ok sa)⟩
set_option maxRecDepth 100000 in
theorem ki_Ch_shaBlock : Cond.instanceMethod ⟨"RoutingField$Chain", "shaBlock", "()V"⟩ ∈ pw_T := (pw_in 1201 (by decide +kernel) rfl)
set_option maxRecDepth 100000 in
theorem ks_Ch_shaBlock : Cond.selects "RoutingField$Chain" ⟨"RoutingField$Chain", "shaBlock", "()V"⟩ ⟨"RoutingField$Chain", "shaBlock", "()V"⟩ ∈ pw_T := (pw_sel 39 (q := (⟨"RoutingField$Chain", "shaBlock", "()V"⟩, 12)) (by decide +kernel))
set_option maxRecDepth 100000 in
theorem ko_Ch_shaBlock : Cond.code ⟨"RoutingField$Chain", "shaBlock", "()V"⟩ prog_3_method_24_code 9 none ∈ pw_T := (pw_in 1202 rfl rfl)
set_option maxRecDepth 100000 in
theorem kD_Ch_shaBlock_0 : ∀ q ∈ kC_Ch_shaBlock_0, decode prog_3_method_24_code q.1 = .ok (q.2, pm_len q.1 q.2) := by decide +kernel
set_option maxRecDepth 100000 in
theorem kD_Ch_shaBlock_1 : ∀ q ∈ kC_Ch_shaBlock_1, decode prog_3_method_24_code q.1 = .ok (q.2, pm_len q.1 q.2) := by decide +kernel
set_option maxRecDepth 100000 in
theorem kD_Ch_shaBlock_2 : ∀ q ∈ kC_Ch_shaBlock_2, decode prog_3_method_24_code q.1 = .ok (q.2, pm_len q.1 q.2) := by decide +kernel
set_option maxRecDepth 100000 in
theorem kD_Ch_shaBlock_3 : ∀ q ∈ kC_Ch_shaBlock_3, decode prog_3_method_24_code q.1 = .ok (q.2, pm_len q.1 q.2) := by decide +kernel
theorem kD_Ch_shaBlock : ∀ q ∈ kC_Ch_shaBlock, decode prog_3_method_24_code q.1 = .ok (q.2, pm_len q.1 q.2) := List.forall_mem_append.mpr ⟨kD_Ch_shaBlock_0, List.forall_mem_append.mpr ⟨kD_Ch_shaBlock_1, List.forall_mem_append.mpr ⟨kD_Ch_shaBlock_2, kD_Ch_shaBlock_3⟩⟩⟩
set_option maxRecDepth 100000 in
theorem kW_Ch_shaBlock (l : Launch) (D : va_G) (base : Nat) (sa : Nat → Nat) : pm_Met l D kcl base (kZ sa) ⟨"RoutingField$Chain", "shaBlock", "()V"⟩ (.code ⟨"RoutingField$Chain", "shaBlock", "()V"⟩ prog_3_method_24_code 9 none :: pw_T) 0 0 (kP_Ch_shaBlock base sa) := by
  refine pm_met (by decide) rfl rfl ?_
  intro mc ms p e s m args below meth c hx hb hml hown hnm hts hbs hZ
  have ht : ∀ w ∈ pw_T, w.before args s = true := fun w h => hts w (List.mem_cons_of_mem _ h)
  exact ⟨hx, hb, hown, hbs, pm_look_all kD_Ch_shaBlock, kf_ok (init := false) ht hZ kF_Ch_ok (fun h => by cases h), km_ok ht kM_Ch_ok, kci_ok ht kI_Ch_ok, kli_ok ht kJ_Ch_ok, kar_ok ht hZ kA_Ch_ok,
    pm_look_all (fun _ h => absurd h List.not_mem_nil),
    hZ, kst_ok ht hZ (kS_Ch_ok sa), knar_ok ht, ktx_ok (kE_Ch_ok sa)⟩
set_option maxRecDepth 100000 in
theorem ki_Ch_sha : Cond.instanceMethod ⟨"RoutingField$Chain", "sha", "()V"⟩ ∈ pw_T := (pw_in 1197 (by decide +kernel) rfl)
set_option maxRecDepth 100000 in
theorem ks_Ch_sha : Cond.selects "RoutingField$Chain" ⟨"RoutingField$Chain", "sha", "()V"⟩ ⟨"RoutingField$Chain", "sha", "()V"⟩ ∈ pw_T := (pw_sel 38 (q := (⟨"RoutingField$Chain", "sha", "()V"⟩, 12)) (by decide +kernel))
set_option maxRecDepth 100000 in
theorem ko_Ch_sha : Cond.code ⟨"RoutingField$Chain", "sha", "()V"⟩ prog_3_method_23_code 4 none ∈ pw_T := (pw_in 1198 rfl rfl)
set_option maxRecDepth 100000 in
theorem kD_Ch_sha_0 : ∀ q ∈ kC_Ch_sha_0, decode prog_3_method_23_code q.1 = .ok (q.2, pm_len q.1 q.2) := by decide +kernel
set_option maxRecDepth 100000 in
theorem kD_Ch_sha_1 : ∀ q ∈ kC_Ch_sha_1, decode prog_3_method_23_code q.1 = .ok (q.2, pm_len q.1 q.2) := by decide +kernel
set_option maxRecDepth 100000 in
theorem kD_Ch_sha_2 : ∀ q ∈ kC_Ch_sha_2, decode prog_3_method_23_code q.1 = .ok (q.2, pm_len q.1 q.2) := by decide +kernel
theorem kD_Ch_sha : ∀ q ∈ kC_Ch_sha, decode prog_3_method_23_code q.1 = .ok (q.2, pm_len q.1 q.2) := List.forall_mem_append.mpr ⟨kD_Ch_sha_0, List.forall_mem_append.mpr ⟨kD_Ch_sha_1, kD_Ch_sha_2⟩⟩
set_option maxRecDepth 100000 in
theorem kW_Ch_sha (l : Launch) (D : va_G) (base : Nat) (sa : Nat → Nat) : pm_Met l D kcl base (kZ sa) ⟨"RoutingField$Chain", "sha", "()V"⟩ (.code ⟨"RoutingField$Chain", "sha", "()V"⟩ prog_3_method_23_code 4 none :: pw_T) 1 28 (kP_Ch_sha base sa) := by
  refine pm_met (by decide) rfl rfl ?_
  intro mc ms p e s m args below meth c hx hb hml hown hnm hts hbs hZ
  have ht : ∀ w ∈ pw_T, w.before args s = true := fun w h => hts w (List.mem_cons_of_mem _ h)
  exact ⟨hx, hb, hown, hbs, pm_look_all kD_Ch_sha, kf_ok (init := false) ht hZ kF_Ch_ok (fun h => by cases h), km_ok ht kM_Ch_ok, kci_ok ht kI_Ch_ok, kli_ok ht kJ_Ch_ok, kar_ok ht hZ kA_Ch_ok,
    pm_look_all (List.forall_mem_cons.mpr ⟨pm_cokV hbs hZ ⟨hx, hb, hml, hown, hts⟩ (kW_Ch_begin l D base sa) (fun mc ms => cwV 0 hts (pw_gV (pw_in 1178 (w := .methodLink "RoutingField$Chain" 159 ⟨"RoutingField$Chain", "begin", "()V"⟩) (by decide +kernel) rfl) ki_Ch_begin ks_Ch_begin kn_Ch ko_Ch_begin) rfl rfl rfl (by decide +kernel) ⟨Nat.le_of_ble_eq_true rfl, Nat.le_of_ble_eq_true rfl⟩) (ci := 1) rfl, List.forall_mem_cons.mpr ⟨pm_cokV hbs hZ ⟨hx, hb, hml, hown, hts⟩ (kW_Ch_shaBlock l D base sa) (fun mc ms => cwV 0 hts (pw_gV (pw_in 1199 (w := .methodLink "RoutingField$Chain" 171 ⟨"RoutingField$Chain", "shaBlock", "()V"⟩) (by decide +kernel) rfl) ki_Ch_shaBlock ks_Ch_shaBlock kn_Ch ko_Ch_shaBlock) rfl rfl rfl (by decide +kernel) ⟨Nat.le_of_ble_eq_true rfl, Nat.le_of_ble_eq_true rfl⟩) (ci := 1) rfl, fun _ h => absurd h List.not_mem_nil⟩⟩),
    hZ, kst_ok ht hZ (kS_Ch_ok sa), knar_ok ht, ktx_ok (kE_Ch_ok sa)⟩
set_option maxRecDepth 100000 in
theorem ki_Ch_sumByte : Cond.instanceMethod ⟨"RoutingField$Chain", "sumByte", "(II)I"⟩ ∈ pw_T := (pw_in 1209 (by decide +kernel) rfl)
set_option maxRecDepth 100000 in
theorem ks_Ch_sumByte : Cond.selects "RoutingField$Chain" ⟨"RoutingField$Chain", "sumByte", "(II)I"⟩ ⟨"RoutingField$Chain", "sumByte", "(II)I"⟩ ∈ pw_T := (pw_sel 40 (q := (⟨"RoutingField$Chain", "sumByte", "(II)I"⟩, 12)) (by decide +kernel))
set_option maxRecDepth 100000 in
theorem ko_Ch_sumByte : Cond.code ⟨"RoutingField$Chain", "sumByte", "(II)I"⟩ prog_3_method_15_code 4 (some .int) ∈ pw_T := (pw_in 1210 rfl rfl)
set_option maxRecDepth 100000 in
theorem kD_Ch_sumByte : ∀ q ∈ kC_Ch_sumByte, decode prog_3_method_15_code q.1 = .ok (q.2, pm_len q.1 q.2) := by decide +kernel
set_option maxRecDepth 100000 in
theorem kW_Ch_sumByte (l : Launch) (D : va_G) (base : Nat) (sa : Nat → Nat) : pm_Met l D kcl base (kZ sa) ⟨"RoutingField$Chain", "sumByte", "(II)I"⟩ (.code ⟨"RoutingField$Chain", "sumByte", "(II)I"⟩ prog_3_method_15_code 4 (some .int) :: pw_T) 0 0 (kP_Ch_sumByte base sa) := by
  refine pm_met (by decide) rfl rfl ?_
  intro mc ms p e s m args below meth c hx hb hml hown hnm hts hbs hZ
  have ht : ∀ w ∈ pw_T, w.before args s = true := fun w h => hts w (List.mem_cons_of_mem _ h)
  exact ⟨hx, hb, hown, hbs, pm_look_all kD_Ch_sumByte, kf_ok (init := false) ht hZ kF_Ch_ok (fun h => by cases h), km_ok ht kM_Ch_ok, kci_ok ht kI_Ch_ok, kli_ok ht kJ_Ch_ok, kar_ok ht hZ kA_Ch_ok,
    pm_look_all (fun _ h => absurd h List.not_mem_nil),
    hZ, kst_ok ht hZ (kS_Ch_ok sa), knar_ok ht, ktx_ok (kE_Ch_ok sa)⟩
set_option maxRecDepth 100000 in
theorem ki_Ch_sum : Cond.instanceMethod ⟨"RoutingField$Chain", "sum", "(LRoutingField$Bytes;II)V"⟩ ∈ pw_T := (pw_in 1157 (by decide +kernel) rfl)
set_option maxRecDepth 100000 in
theorem ks_Ch_sum : Cond.selects "RoutingField$Chain" ⟨"RoutingField$Chain", "sum", "(LRoutingField$Bytes;II)V"⟩ ⟨"RoutingField$Chain", "sum", "(LRoutingField$Bytes;II)V"⟩ ∈ pw_T := (pw_sel 31 (q := (⟨"RoutingField$Chain", "sum", "(LRoutingField$Bytes;II)V"⟩, 12)) (by decide +kernel))
set_option maxRecDepth 100000 in
theorem ko_Ch_sum : Cond.code ⟨"RoutingField$Chain", "sum", "(LRoutingField$Bytes;II)V"⟩ prog_3_method_16_code 5 none ∈ pw_T := (pw_in 1158 rfl rfl)
set_option maxRecDepth 100000 in
theorem kD_Ch_sum_0 : ∀ q ∈ kC_Ch_sum_0, decode prog_3_method_16_code q.1 = .ok (q.2, pm_len q.1 q.2) := by decide +kernel
set_option maxRecDepth 100000 in
theorem kD_Ch_sum_1 : ∀ q ∈ kC_Ch_sum_1, decode prog_3_method_16_code q.1 = .ok (q.2, pm_len q.1 q.2) := by decide +kernel
theorem kD_Ch_sum : ∀ q ∈ kC_Ch_sum, decode prog_3_method_16_code q.1 = .ok (q.2, pm_len q.1 q.2) := List.forall_mem_append.mpr ⟨kD_Ch_sum_0, kD_Ch_sum_1⟩
set_option maxRecDepth 100000 in
theorem kW_Ch_sum (l : Launch) (D : va_G) (base : Nat) (sa : Nat → Nat) : pm_Met l D kcl base (kZ sa) ⟨"RoutingField$Chain", "sum", "(LRoutingField$Bytes;II)V"⟩ (.code ⟨"RoutingField$Chain", "sum", "(LRoutingField$Bytes;II)V"⟩ prog_3_method_16_code 5 none :: pw_T) 2 52 (kP_Ch_sum base sa) := by
  refine pm_met (by decide) rfl rfl ?_
  intro mc ms p e s m args below meth c hx hb hml hown hnm hts hbs hZ
  have ht : ∀ w ∈ pw_T, w.before args s = true := fun w h => hts w (List.mem_cons_of_mem _ h)
  exact ⟨hx, hb, hown, hbs, pm_look_all kD_Ch_sum, kf_ok (init := false) ht hZ kF_Ch_ok (fun h => by cases h), km_ok ht kM_Ch_ok, kci_ok ht kI_Ch_ok, kli_ok ht kJ_Ch_ok, kar_ok ht hZ kA_Ch_ok,
    pm_look_all (List.forall_mem_cons.mpr ⟨pm_cokMn hx hb hml hown (ht _ (pw_in 1159 (w := .methodLink "RoutingField$Chain" 133 ⟨"java/lang/Math", "min", "(II)I"⟩) (by decide +kernel) rfl)) (ht _ (pw_in 1160 (by decide +kernel) rfl)) (ht _ (pw_in 14 (by decide +kernel) rfl)) (ht _ (pw_in 1161 rfl rfl)) (Nat.le_of_ble_eq_true rfl) (Nat.le_of_ble_eq_true rfl), List.forall_mem_cons.mpr ⟨pm_cokV hbs hZ ⟨hx, hb, hml, hown, hts⟩ (kW_Ch_addWork l D base sa) (fun mc ms => cwV 2 hts (pw_gV (pw_in 1162 (w := .methodLink "RoutingField$Chain" 136 ⟨"RoutingField$Chain", "addWork", "([BI)V"⟩) (by decide +kernel) rfl) ki_Ch_addWork ks_Ch_addWork kn_Ch ko_Ch_addWork) rfl rfl rfl (by decide +kernel) ⟨Nat.le_of_ble_eq_true rfl, Nat.le_of_ble_eq_true rfl⟩) (ci := 1) rfl, List.forall_mem_cons.mpr ⟨pm_cokV hbs hZ ⟨hx, hb, hml, hown, hts⟩ (kW_Ch_addSecret l D base sa) (fun mc ms => cwV 3 hts (pw_gV (pw_in 1166 (w := .methodLink "RoutingField$Chain" 140 ⟨"RoutingField$Chain", "addSecret", "(III)V"⟩) (by decide +kernel) rfl) ki_Ch_addSecret ks_Ch_addSecret kn_Ch ko_Ch_addSecret) rfl rfl rfl (by decide +kernel) ⟨Nat.le_of_ble_eq_true rfl, Nat.le_of_ble_eq_true rfl⟩) (ci := 1) rfl, List.forall_mem_cons.mpr ⟨pm_cokV hbs hZ ⟨hx, hb, hml, hown, hts⟩ (kW_Ch_fillBlock l D base sa) (fun mc ms => cwV 1 hts (pw_gV (pw_in 1170 (w := .methodLink "RoutingField$Chain" 144 ⟨"RoutingField$Chain", "fillBlock", "(Z)V"⟩) (by decide +kernel) rfl) ki_Ch_fillBlock ks_Ch_fillBlock kn_Ch ko_Ch_fillBlock) rfl rfl rfl (by decide +kernel) ⟨Nat.le_of_ble_eq_true rfl, Nat.le_of_ble_eq_true rfl⟩) (ci := 1) rfl, List.forall_mem_cons.mpr ⟨pm_cokV hbs hZ ⟨hx, hb, hml, hown, hts⟩ (kW_Ch_md5 l D base sa) (fun mc ms => cwV 0 hts (pw_gV (pw_in 1174 (w := .methodLink "RoutingField$Chain" 148 ⟨"RoutingField$Chain", "md5", "()V"⟩) (by decide +kernel) rfl) ki_Ch_md5 ks_Ch_md5 kn_Ch ko_Ch_md5) rfl rfl rfl (by decide +kernel) ⟨Nat.le_of_ble_eq_true rfl, Nat.le_of_ble_eq_true rfl⟩) (ci := 1) rfl, List.forall_mem_cons.mpr ⟨pm_cokV hbs hZ ⟨hx, hb, hml, hown, hts⟩ (kW_Ch_sha l D base sa) (fun mc ms => cwV 0 hts (pw_gV (pw_in 1195 (w := .methodLink "RoutingField$Chain" 151 ⟨"RoutingField$Chain", "sha", "()V"⟩) (by decide +kernel) rfl) ki_Ch_sha ks_Ch_sha kn_Ch ko_Ch_sha) rfl rfl rfl (by decide +kernel) ⟨Nat.le_of_ble_eq_true rfl, Nat.le_of_ble_eq_true rfl⟩) (ci := 1) rfl, List.forall_mem_cons.mpr ⟨pm_cokV hbs hZ ⟨hx, hb, hml, hown, hts⟩ (kW_Ch_sumByte l D base sa) (fun mc ms => cwV 2 hts (pw_gV (pw_in 1207 (w := .methodLink "RoutingField$Chain" 115 ⟨"RoutingField$Chain", "sumByte", "(II)I"⟩) (by decide +kernel) rfl) ki_Ch_sumByte ks_Ch_sumByte kn_Ch ko_Ch_sumByte) rfl rfl rfl (by decide +kernel) ⟨Nat.le_of_ble_eq_true rfl, Nat.le_of_ble_eq_true rfl⟩) (ci := 1) rfl, fun _ h => absurd h List.not_mem_nil⟩⟩⟩⟩⟩⟩⟩),
    hZ, kst_ok ht hZ (kS_Ch_ok sa), knar_ok ht, ktx_ok (kE_Ch_ok sa)⟩
set_option maxRecDepth 100000 in
theorem ki_Ch_seal : Cond.instanceMethod ⟨"RoutingField$Chain", "seal", "(LRoutingField$Bytes;I)V"⟩ ∈ pw_T := (pw_in 1147 (by decide +kernel) rfl)
set_option maxRecDepth 100000 in
theorem ks_Ch_seal : Cond.selects "RoutingField$Chain" ⟨"RoutingField$Chain", "seal", "(LRoutingField$Bytes;I)V"⟩ ⟨"RoutingField$Chain", "seal", "(LRoutingField$Bytes;I)V"⟩ ∈ pw_T := (pw_in 1148 (by decide +kernel) rfl)
set_option maxRecDepth 100000 in
theorem ko_Ch_seal : Cond.code ⟨"RoutingField$Chain", "seal", "(LRoutingField$Bytes;I)V"⟩ prog_3_method_13_code 4 none ∈ pw_T := (pw_in 1149 rfl rfl)
set_option maxRecDepth 100000 in
theorem kD_Ch_seal : ∀ q ∈ kC_Ch_seal, decode prog_3_method_13_code q.1 = .ok (q.2, pm_len q.1 q.2) := by decide +kernel
set_option maxRecDepth 100000 in
theorem kW_Ch_seal (l : Launch) (D : va_G) (base : Nat) (sa : Nat → Nat) : pm_Met l D kcl base (kZ sa) ⟨"RoutingField$Chain", "seal", "(LRoutingField$Bytes;I)V"⟩ (.code ⟨"RoutingField$Chain", "seal", "(LRoutingField$Bytes;I)V"⟩ prog_3_method_13_code 4 none :: pw_T) 3 76 (kP_Ch_seal base sa) := by
  refine pm_met (by decide) rfl rfl ?_
  intro mc ms p e s m args below meth c hx hb hml hown hnm hts hbs hZ
  have ht : ∀ w ∈ pw_T, w.before args s = true := fun w h => hts w (List.mem_cons_of_mem _ h)
  exact ⟨hx, hb, hown, hbs, pm_look_all kD_Ch_seal, kf_ok (init := false) ht hZ kF_Ch_ok (fun h => by cases h), km_ok ht kM_Ch_ok, kci_ok ht kI_Ch_ok, kli_ok ht kJ_Ch_ok, kar_ok ht hZ kA_Ch_ok,
    pm_look_all (List.forall_mem_cons.mpr ⟨pm_cokV hbs hZ ⟨hx, hb, hml, hown, hts⟩ (kW_By_setAt l D base sa) (fun mc ms => cwV 2 hts (pw_gV (pw_in 1150 (w := .methodLink "RoutingField$Chain" 105 ⟨"RoutingField$Bytes", "setAt", "(II)V"⟩) (by decide +kernel) rfl) ki_By_setAt ks_By_setAt kn_By ko_By_setAt) rfl rfl rfl (by decide +kernel) ⟨Nat.le_of_ble_eq_true rfl, Nat.le_of_ble_eq_true rfl⟩) (ci := 0) rfl, List.forall_mem_cons.mpr ⟨pm_cokV hbs hZ ⟨hx, hb, hml, hown, hts⟩ (kW_By_addNumber l D base sa) (fun mc ms => cwV 2 hts (pw_gV (pw_in 1137 (w := .methodLink "RoutingField$Chain" 75 ⟨"RoutingField$Bytes", "addNumber", "(JI)V"⟩) (by decide +kernel) rfl) ki_By_addNumber ks_By_addNumber kn_By ko_By_addNumber) rfl rfl rfl (by decide +kernel) ⟨Nat.le_of_ble_eq_true rfl, Nat.le_of_ble_eq_true rfl⟩) (ci := 0) rfl, List.forall_mem_cons.mpr ⟨pm_cokV hbs hZ ⟨hx, hb, hml, hown, hts⟩ (kW_Ch_sum l D base sa) (fun mc ms => cwV 3 hts (pw_gV (pw_in 1155 (w := .methodLink "RoutingField$Chain" 111 ⟨"RoutingField$Chain", "sum", "(LRoutingField$Bytes;II)V"⟩) (by decide +kernel) rfl) ki_Ch_sum ks_Ch_sum kn_Ch ko_Ch_sum) rfl rfl rfl (by decide +kernel) ⟨Nat.le_of_ble_eq_true rfl, Nat.le_of_ble_eq_true rfl⟩) (ci := 1) rfl, List.forall_mem_cons.mpr ⟨pm_cokV hbs hZ ⟨hx, hb, hml, hown, hts⟩ (kW_Ch_sumByte l D base sa) (fun mc ms => cwV 2 hts (pw_gV (pw_in 1207 (w := .methodLink "RoutingField$Chain" 115 ⟨"RoutingField$Chain", "sumByte", "(II)I"⟩) (by decide +kernel) rfl) ki_Ch_sumByte ks_Ch_sumByte kn_Ch ko_Ch_sumByte) rfl rfl rfl (by decide +kernel) ⟨Nat.le_of_ble_eq_true rfl, Nat.le_of_ble_eq_true rfl⟩) (ci := 1) rfl, List.forall_mem_cons.mpr ⟨pm_cokV hbs hZ ⟨hx, hb, hml, hown, hts⟩ (kW_By_add l D base sa) (fun mc ms => cwV 1 hts (pw_gV (pw_in 1139 (w := .methodLink "RoutingField$Chain" 83 ⟨"RoutingField$Bytes", "add", "(I)V"⟩) (by decide +kernel) rfl) ki_By_add ks_By_add kn_By ko_By_add) rfl rfl rfl (by decide +kernel) ⟨Nat.le_of_ble_eq_true rfl, Nat.le_of_ble_eq_true rfl⟩) (ci := 0) rfl, List.forall_mem_cons.mpr ⟨pm_cokV hbs hZ ⟨hx, hb, hml, hown, hts⟩ (kW_By_addZeros l D base sa) (fun mc ms => cwV 1 hts (pw_gV (pw_in 1145 (w := .methodLink "RoutingField$Chain" 99 ⟨"RoutingField$Bytes", "addZeros", "(I)V"⟩) (by decide +kernel) rfl) ki_By_addZeros ks_By_addZeros kn_By ko_By_addZeros) rfl rfl rfl (by decide +kernel) ⟨Nat.le_of_ble_eq_true rfl, Nat.le_of_ble_eq_true rfl⟩) (ci := 0) rfl, fun _ h => absurd h List.not_mem_nil⟩⟩⟩⟩⟩⟩),
    hZ, kst_ok ht hZ (kS_Ch_ok sa), knar_ok ht, ktx_ok (kE_Ch_ok sa)⟩
set_option maxRecDepth 100000 in
theorem kv_Da_portOf : Cond.static ⟨"RoutingField$Datagram", "portOf", "(I)I"⟩ ∈ pw_T := (pw_in 1217 (by decide +kernel) rfl)
set_option maxRecDepth 100000 in
theorem ko_Da_portOf : Cond.code ⟨"RoutingField$Datagram", "portOf", "(I)I"⟩ prog_4_method_2_code 1 (some .int) ∈ pw_T := (pw_in 1218 rfl rfl)
set_option maxRecDepth 100000 in
theorem kD_Da_portOf : ∀ q ∈ kC_Da_portOf, decode prog_4_method_2_code q.1 = .ok (q.2, pm_len q.1 q.2) := by decide +kernel
set_option maxRecDepth 100000 in
theorem kW_Da_portOf (l : Launch) (D : va_G) (base : Nat) (sa : Nat → Nat) : pm_Met l D kcl base (kZ sa) ⟨"RoutingField$Datagram", "portOf", "(I)I"⟩ (.code ⟨"RoutingField$Datagram", "portOf", "(I)I"⟩ prog_4_method_2_code 1 (some .int) :: pw_T) 0 0 (kP_Da_portOf base sa) := by
  refine pm_met (by decide) rfl rfl ?_
  intro mc ms p e s m args below meth c hx hb hml hown hnm hts hbs hZ
  have ht : ∀ w ∈ pw_T, w.before args s = true := fun w h => hts w (List.mem_cons_of_mem _ h)
  exact ⟨hx, hb, hown, hbs, pm_look_all kD_Da_portOf, kf_ok (init := false) ht hZ kF_Da_ok (fun h => by cases h), km_ok ht kM_Da_ok, kci_ok ht kI_Da_ok, kli_ok ht kJ_Da_ok, kar_ok ht hZ kA_Da_ok,
    pm_look_all (fun _ h => absurd h List.not_mem_nil),
    hZ, kst_ok ht hZ (kS_Da_ok sa), knar_ok ht, ktx_ok (kE_Da_ok sa)⟩
set_option maxRecDepth 100000 in
theorem ki_By_addPart : Cond.instanceMethod ⟨"RoutingField$Bytes", "addPart", "(LRoutingField$Bytes;II)V"⟩ ∈ pw_T := (pw_in 1226 (by decide +kernel) rfl)
set_option maxRecDepth 100000 in
theorem ks_By_addPart : Cond.selects "RoutingField$Bytes" ⟨"RoutingField$Bytes", "addPart", "(LRoutingField$Bytes;II)V"⟩ ⟨"RoutingField$Bytes", "addPart", "(LRoutingField$Bytes;II)V"⟩ ∈ pw_T := (pw_in 1227 (by decide +kernel) rfl)
set_option maxRecDepth 100000 in
theorem ko_By_addPart : Cond.code ⟨"RoutingField$Bytes", "addPart", "(LRoutingField$Bytes;II)V"⟩ prog_2_method_10_code 6 none ∈ pw_T := (pw_in 1228 rfl rfl)
set_option maxRecDepth 100000 in
theorem kD_By_addPart : ∀ q ∈ kC_By_addPart, decode prog_2_method_10_code q.1 = .ok (q.2, pm_len q.1 q.2) := by decide +kernel
set_option maxRecDepth 100000 in
theorem kW_By_addPart (l : Launch) (D : va_G) (base : Nat) (sa : Nat → Nat) : pm_Met l D kcl base (kZ sa) ⟨"RoutingField$Bytes", "addPart", "(LRoutingField$Bytes;II)V"⟩ (.code ⟨"RoutingField$Bytes", "addPart", "(LRoutingField$Bytes;II)V"⟩ prog_2_method_10_code 6 none :: pw_T) 1 30 (kP_By_addPart base sa) := by
  refine pm_met (by decide) rfl rfl ?_
  intro mc ms p e s m args below meth c hx hb hml hown hnm hts hbs hZ
  have ht : ∀ w ∈ pw_T, w.before args s = true := fun w h => hts w (List.mem_cons_of_mem _ h)
  exact ⟨hx, hb, hown, hbs, pm_look_all kD_By_addPart, kf_ok (init := false) ht hZ kF_By_ok (fun h => by cases h), km_ok ht kM_By_ok, kci_ok ht kI_By_ok, kli_ok ht kJ_By_ok, kar_ok ht hZ kA_By_ok,
    pm_look_all (List.forall_mem_cons.mpr ⟨pm_cokMx hx hb hml hown (ht _ (pw_in 1229 (w := .methodLink "RoutingField$Bytes" 27 ⟨"java/lang/Math", "max", "(II)I"⟩) (by decide +kernel) rfl)) (ht _ (pw_in 484 (by decide +kernel) rfl)) (ht _ (pw_in 14 (by decide +kernel) rfl)) (ht _ (pw_in 485 rfl rfl)) (Nat.le_of_ble_eq_true rfl) (Nat.le_of_ble_eq_true rfl), List.forall_mem_cons.mpr ⟨pm_cokA hbs hx hb hml hown (ht _ (pw_in 1230 (w := .methodLink "RoutingField$Bytes" 33 ⟨"java/lang/System", "arraycopy", "(Ljava/lang/Object;ILjava/lang/Object;II)V"⟩) (by decide +kernel) rfl)) (ht _ (pw_in 838 (by decide +kernel) rfl)) (ht _ (pw_in 837 (by decide +kernel) rfl)) (ht _ (pw_in 17 (by decide +kernel) rfl)) (Nat.le_of_ble_eq_true rfl) (Nat.le_of_ble_eq_true rfl), fun _ h => absurd h List.not_mem_nil⟩⟩),
    hZ, kst_ok ht hZ (kS_By_ok sa), knar_ok ht, ktx_ok (kE_By_ok sa)⟩
set_option maxRecDepth 100000 in
theorem ki_Rf_launch : Cond.instanceMethod ⟨"RoutingField", "launch", "(LRoutingField$Link;)V"⟩ ∈ pw_T := (pw_in 1221 (by decide +kernel) rfl)
set_option maxRecDepth 100000 in
theorem ks_Rf_launch : Cond.selects "RoutingField" ⟨"RoutingField", "launch", "(LRoutingField$Link;)V"⟩ ⟨"RoutingField", "launch", "(LRoutingField$Link;)V"⟩ ∈ pw_T := (pw_sel 42 (q := (⟨"RoutingField", "launch", "(LRoutingField$Link;)V"⟩, 20)) (by decide +kernel))
set_option maxRecDepth 100000 in
theorem ko_Rf_launch : Cond.code ⟨"RoutingField", "launch", "(LRoutingField$Link;)V"⟩ prog_1_method_27_code 3 none ∈ pw_T := (pw_in 1222 rfl rfl)
set_option maxRecDepth 100000 in
theorem kD_Rf_launch_0 : ∀ q ∈ kC_Rf_launch_0, decode prog_1_method_27_code q.1 = .ok (q.2, pm_len q.1 q.2) := by decide +kernel
set_option maxRecDepth 100000 in
theorem kD_Rf_launch_1 : ∀ q ∈ kC_Rf_launch_1, decode prog_1_method_27_code q.1 = .ok (q.2, pm_len q.1 q.2) := by decide +kernel
set_option maxRecDepth 100000 in
theorem kD_Rf_launch_2 : ∀ q ∈ kC_Rf_launch_2, decode prog_1_method_27_code q.1 = .ok (q.2, pm_len q.1 q.2) := by decide +kernel
theorem kD_Rf_launch : ∀ q ∈ kC_Rf_launch, decode prog_1_method_27_code q.1 = .ok (q.2, pm_len q.1 q.2) := List.forall_mem_append.mpr ⟨kD_Rf_launch_0, List.forall_mem_append.mpr ⟨kD_Rf_launch_1, kD_Rf_launch_2⟩⟩
set_option maxRecDepth 100000 in
theorem kW_Rf_launch (l : Launch) (D : va_G) (base : Nat) (sa : Nat → Nat) : pm_Met l D kcl base (kZ sa) ⟨"RoutingField", "launch", "(LRoutingField$Link;)V"⟩ (.code ⟨"RoutingField", "launch", "(LRoutingField$Link;)V"⟩ prog_1_method_27_code 3 none :: pw_T) 3 61 (kP_Rf_launch base sa) := by
  refine pm_met (by decide) rfl rfl ?_
  intro mc ms p e s m args below meth c hx hb hml hown hnm hts hbs hZ
  have ht : ∀ w ∈ pw_T, w.before args s = true := fun w h => hts w (List.mem_cons_of_mem _ h)
  exact ⟨hx, hb, hown, hbs, pm_look_all kD_Rf_launch, kf_ok (init := false) ht hZ kF_Rf_ok (fun h => by cases h), km_ok ht kM_Rf_ok, kci_ok ht kI_Rf_ok, kli_ok ht kJ_Rf_ok, kar_ok ht hZ kA_Rf_ok,
    pm_look_all (List.forall_mem_cons.mpr ⟨pm_cokV hbs hZ ⟨hx, hb, hml, hown, hts⟩ (kW_By_clear l D base sa) (fun mc ms => cwV 0 hts (pw_gV (pw_in 1224 (w := .methodLink "RoutingField" 119 ⟨"RoutingField$Bytes", "clear", "()V"⟩) (by decide +kernel) rfl) ki_By_clear ks_By_clear kn_By ko_By_clear) rfl rfl rfl (by decide +kernel) ⟨Nat.le_of_ble_eq_true rfl, Nat.le_of_ble_eq_true rfl⟩) (ci := 0) rfl, List.forall_mem_cons.mpr ⟨pm_cokV hbs hZ ⟨hx, hb, hml, hown, hts⟩ (kW_By_addPart l D base sa) (fun mc ms => cwV 3 hts (pw_gV (pw_in 1225 (w := .methodLink "RoutingField" 168 ⟨"RoutingField$Bytes", "addPart", "(LRoutingField$Bytes;II)V"⟩) (by decide +kernel) rfl) ki_By_addPart ks_By_addPart kn_By ko_By_addPart) rfl rfl rfl (by decide +kernel) ⟨Nat.le_of_ble_eq_true rfl, Nat.le_of_ble_eq_true rfl⟩) (ci := 0) rfl, List.forall_mem_cons.mpr ⟨pm_cokI hbs hZ ⟨hx, hb, hml, hown, hts⟩ (kW_Da_init l D base sa) (fun mc ms => cwI 0 hts (pw_gC ko_Da_init) rfl rfl rfl (ht _ kn_Da) (ht _ (pw_in 62 (w := .methodLink "RoutingField" 77 ⟨"RoutingField$Datagram", "<init>", "()V"⟩) (by decide +kernel) rfl)) (ht _ ki_Da_init) rfl (by decide +kernel) ⟨Nat.le_of_ble_eq_true rfl, Nat.le_of_ble_eq_true rfl⟩), fun _ h => absurd h List.not_mem_nil⟩⟩⟩),
    hZ, kst_ok ht hZ (kS_Rf_ok sa), knar_ok ht, ktx_ok (kE_Rf_ok sa)⟩
