set_option maxRecDepth 100000 in
theorem ki_Mo_answer : Cond.instanceMethod ⟨"RoutingFieldModel", "answer", "(IIJJ)V"⟩ ∈ pw_T := (pw_in 3059 (by decide +kernel) rfl)
set_option maxRecDepth 100000 in
theorem ks_Mo_answer : Cond.selects "RoutingFieldModel" ⟨"RoutingFieldModel", "answer", "(IIJJ)V"⟩ ⟨"RoutingFieldModel", "answer", "(IIJJ)V"⟩ ∈ pw_T := (pw_sel 202 (q := (⟨"RoutingFieldModel", "answer", "(IIJJ)V"⟩, 166)) (by decide +kernel))
set_option maxRecDepth 100000 in
theorem ko_Mo_answer : Cond.code ⟨"RoutingFieldModel", "answer", "(IIJJ)V"⟩ prog_14_method_126_code 11 none ∈ pw_T := (pw_in 3060 rfl rfl)
set_option maxRecDepth 100000 in
theorem kD_Mo_answer_0 : ∀ q ∈ kC_Mo_answer_0, decode prog_14_method_126_code q.1 = .ok (q.2, pm_len q.1 q.2) := by decide +kernel
set_option maxRecDepth 100000 in
theorem kD_Mo_answer_1 : ∀ q ∈ kC_Mo_answer_1, decode prog_14_method_126_code q.1 = .ok (q.2, pm_len q.1 q.2) := by decide +kernel
set_option maxRecDepth 100000 in
theorem kD_Mo_answer_2 : ∀ q ∈ kC_Mo_answer_2, decode prog_14_method_126_code q.1 = .ok (q.2, pm_len q.1 q.2) := by decide +kernel
theorem kD_Mo_answer : ∀ q ∈ kC_Mo_answer, decode prog_14_method_126_code q.1 = .ok (q.2, pm_len q.1 q.2) := List.forall_mem_append.mpr ⟨kD_Mo_answer_0, List.forall_mem_append.mpr ⟨kD_Mo_answer_1, kD_Mo_answer_2⟩⟩
set_option maxRecDepth 100000 in
theorem kW_Mo_answer (l : Launch) (D : va_G) (base : Nat) (sa : Nat → Nat) : pm_Met l D kcl base (kZ sa) ⟨"RoutingFieldModel", "answer", "(IIJJ)V"⟩ (.code ⟨"RoutingFieldModel", "answer", "(IIJJ)V"⟩ prog_14_method_126_code 11 none :: pw_T) 8 235 (kP_Mo_answer base sa) := by
  refine pm_met (by decide) rfl rfl ?_
  intro mc ms p e s m args below meth c hx hb hml hown hnm hts hbs hZ
  have ht : ∀ w ∈ pw_T, w.before args s = true := fun w h => hts w (List.mem_cons_of_mem _ h)
  exact ⟨hx, hb, hown, hbs, pm_look_all kD_Mo_answer, kf_ok (init := false) ht hZ kF_Mo_ok (fun h => by cases h), km_ok ht kM_Mo_ok, kci_ok ht kI_Mo_ok, kli_ok ht kJ_Mo_ok, kar_ok ht hZ kA_Mo_ok,
    pm_look_all (List.forall_mem_cons.mpr ⟨pm_cokV hbs hZ ⟨hx, hb, hml, hown, hts⟩ (kW_Mo_tally l D base sa) (fun mc ms => cwV 3 hts (pw_gV (pw_in 2974 (w := .methodLink "RoutingFieldModel" 1032 ⟨"RoutingFieldModel", "tally", "(III)V"⟩) (by decide +kernel) rfl) ki_Mo_tally ks_Mo_tally kn_Mo ko_Mo_tally) rfl rfl rfl (by decide +kernel) ⟨Nat.le_of_ble_eq_true rfl, Nat.le_of_ble_eq_true rfl⟩) (ci := 12) rfl, List.forall_mem_cons.mpr ⟨pm_cokV hbs hZ ⟨hx, hb, hml, hown, hts⟩ (kW_Mo_asksForAll l D base sa) (fun mc ms => cwV 1 hts (pw_gV (pw_in 3061 (w := .methodLink "RoutingFieldModel" 1048 ⟨"RoutingFieldModel", "asksForAll", "(I)Z"⟩) (by decide +kernel) rfl) ki_Mo_asksForAll ks_Mo_asksForAll kn_Mo ko_Mo_asksForAll) rfl rfl rfl (by decide +kernel) ⟨Nat.le_of_ble_eq_true rfl, Nat.le_of_ble_eq_true rfl⟩) (ci := 12) rfl, List.forall_mem_cons.mpr ⟨pm_cokV hbs hZ ⟨hx, hb, hml, hown, hts⟩ (kW_Mo_gather l D base sa) (fun mc ms => cwV 3 hts (pw_gV (pw_in 3065 (w := .methodLink "RoutingFieldModel" 992 ⟨"RoutingFieldModel", "gather", "(III)V"⟩) (by decide +kernel) rfl) ki_Mo_gather ks_Mo_gather kn_Mo ko_Mo_gather) rfl rfl rfl (by decide +kernel) ⟨Nat.le_of_ble_eq_true rfl, Nat.le_of_ble_eq_true rfl⟩) (ci := 12) rfl, List.forall_mem_cons.mpr ⟨pm_cokV hbs hZ ⟨hx, hb, hml, hown, hts⟩ (kW_Mo_tellTo l D base sa) (fun mc ms => cwV 5 hts (pw_gV (pw_in 3085 (w := .methodLink "RoutingFieldModel" 995 ⟨"RoutingFieldModel", "tellTo", "(IIZJJ)V"⟩) (by decide +kernel) rfl) ki_Mo_tellTo ks_Mo_tellTo kn_Mo ko_Mo_tellTo) rfl rfl rfl (by decide +kernel) ⟨Nat.le_of_ble_eq_true rfl, Nat.le_of_ble_eq_true rfl⟩) (ci := 12) rfl, List.forall_mem_cons.mpr ⟨pm_cokV hbs hZ ⟨hx, hb, hml, hown, hts⟩ (kW_Mo_isEntry l D base sa) (fun mc ms => cwV 2 hts (pw_gV (pw_in 3014 (w := .methodLink "RoutingFieldModel" 1051 ⟨"RoutingFieldModel", "isEntry", "(II)Z"⟩) (by decide +kernel) rfl) ki_Mo_isEntry ks_Mo_isEntry kn_Mo ko_Mo_isEntry) rfl rfl rfl (by decide +kernel) ⟨Nat.le_of_ble_eq_true rfl, Nat.le_of_ble_eq_true rfl⟩) (ci := 12) rfl, List.forall_mem_cons.mpr ⟨pm_cokV hbs hZ ⟨hx, hb, hml, hown, hts⟩ (kW_Mo_find l D base sa) (fun mc ms => cwV 5 hts (pw_gV (pw_in 2684 (w := .methodLink "RoutingFieldModel" 792 ⟨"RoutingFieldModel", "find", "(IIJJI)I"⟩) (by decide +kernel) rfl) ki_Mo_find ks_Mo_find kn_Mo ko_Mo_find) rfl rfl rfl (by decide +kernel) ⟨Nat.le_of_ble_eq_true rfl, Nat.le_of_ble_eq_true rfl⟩) (ci := 12) rfl, List.forall_mem_cons.mpr ⟨pm_cokV hbs hZ ⟨hx, hb, hml, hown, hts⟩ (kW_Mo_put4 l D base sa) (fun mc ms => cwV 3 hts (pw_gV (pw_in 2732 (w := .methodLink "RoutingFieldModel" 927 ⟨"RoutingFieldModel", "put4", "([III)V"⟩) (by decide +kernel) rfl) ki_Mo_put4 ks_Mo_put4 kn_Mo ko_Mo_put4) rfl rfl rfl (by decide +kernel) ⟨Nat.le_of_ble_eq_true rfl, Nat.le_of_ble_eq_true rfl⟩) (ci := 12) rfl, List.forall_mem_cons.mpr ⟨pm_cokV hbs hZ ⟨hx, hb, hml, hown, hts⟩ (kW_Mo_send l D base sa) (fun mc ms => cwV 7 hts (pw_gV (pw_in 2711 (w := .methodLink "RoutingFieldModel" 946 ⟨"RoutingFieldModel", "send", "(IIIIZJJ)V"⟩) (by decide +kernel) rfl) ki_Mo_send ks_Mo_send kn_Mo ko_Mo_send) rfl rfl rfl (by decide +kernel) ⟨Nat.le_of_ble_eq_true rfl, Nat.le_of_ble_eq_true rfl⟩) (ci := 12) rfl, fun _ h => absurd h List.not_mem_nil⟩⟩⟩⟩⟩⟩⟩⟩),
    hZ, kst_ok ht hZ (kS_Mo_ok sa), knar_ok ht, ktx_ok (kE_Mo_ok sa)⟩
set_option maxRecDepth 100000 in
theorem ki_Mo_receive : Cond.instanceMethod ⟨"RoutingFieldModel", "receive", "(IIJJII)V"⟩ ∈ pw_T := (pw_in 2972 (by decide +kernel) rfl)
set_option maxRecDepth 100000 in
theorem ks_Mo_receive : Cond.selects "RoutingFieldModel" ⟨"RoutingFieldModel", "receive", "(IIJJII)V"⟩ ⟨"RoutingFieldModel", "receive", "(IIJJII)V"⟩ ∈ pw_T := (pw_sel 186 (q := (⟨"RoutingFieldModel", "receive", "(IIJJII)V"⟩, 166)) (by decide +kernel))
set_option maxRecDepth 100000 in
theorem ko_Mo_receive : Cond.code ⟨"RoutingFieldModel", "receive", "(IIJJII)V"⟩ prog_14_method_124_code 15 none ∈ pw_T := (pw_in 2973 rfl rfl)
set_option maxRecDepth 100000 in
theorem kD_Mo_receive_0 : ∀ q ∈ kC_Mo_receive_0, decode prog_14_method_124_code q.1 = .ok (q.2, pm_len q.1 q.2) := by decide +kernel
set_option maxRecDepth 100000 in
theorem kD_Mo_receive_1 : ∀ q ∈ kC_Mo_receive_1, decode prog_14_method_124_code q.1 = .ok (q.2, pm_len q.1 q.2) := by decide +kernel
set_option maxRecDepth 100000 in
theorem kD_Mo_receive_2 : ∀ q ∈ kC_Mo_receive_2, decode prog_14_method_124_code q.1 = .ok (q.2, pm_len q.1 q.2) := by decide +kernel
set_option maxRecDepth 100000 in
theorem kD_Mo_receive_3 : ∀ q ∈ kC_Mo_receive_3, decode prog_14_method_124_code q.1 = .ok (q.2, pm_len q.1 q.2) := by decide +kernel
set_option maxRecDepth 100000 in
theorem kD_Mo_receive_4 : ∀ q ∈ kC_Mo_receive_4, decode prog_14_method_124_code q.1 = .ok (q.2, pm_len q.1 q.2) := by decide +kernel
theorem kD_Mo_receive : ∀ q ∈ kC_Mo_receive, decode prog_14_method_124_code q.1 = .ok (q.2, pm_len q.1 q.2) := List.forall_mem_append.mpr ⟨kD_Mo_receive_0, List.forall_mem_append.mpr ⟨kD_Mo_receive_1, List.forall_mem_append.mpr ⟨kD_Mo_receive_2, List.forall_mem_append.mpr ⟨kD_Mo_receive_3, kD_Mo_receive_4⟩⟩⟩⟩
set_option maxRecDepth 100000 in
theorem kW_Mo_receive (l : Launch) (D : va_G) (base : Nat) (sa : Nat → Nat) : pm_Met l D kcl base (kZ sa) ⟨"RoutingFieldModel", "receive", "(IIJJII)V"⟩ (.code ⟨"RoutingFieldModel", "receive", "(IIJJII)V"⟩ prog_14_method_124_code 15 none :: pw_T) 9 265 (kP_Mo_receive base sa) := by
  refine pm_met (by decide) rfl rfl ?_
  intro mc ms p e s m args below meth c hx hb hml hown hnm hts hbs hZ
  have ht : ∀ w ∈ pw_T, w.before args s = true := fun w h => hts w (List.mem_cons_of_mem _ h)
  exact ⟨hx, hb, hown, hbs, pm_look_all kD_Mo_receive, kf_ok (init := false) ht hZ kF_Mo_ok (fun h => by cases h), km_ok ht kM_Mo_ok, kci_ok ht kI_Mo_ok, kli_ok ht kJ_Mo_ok, kar_ok ht hZ kA_Mo_ok,
    pm_look_all (List.forall_mem_cons.mpr ⟨pm_cokV hbs hZ ⟨hx, hb, hml, hown, hts⟩ (kW_Mo_tally l D base sa) (fun mc ms => cwV 3 hts (pw_gV (pw_in 2974 (w := .methodLink "RoutingFieldModel" 1032 ⟨"RoutingFieldModel", "tally", "(III)V"⟩) (by decide +kernel) rfl) ki_Mo_tally ks_Mo_tally kn_Mo ko_Mo_tally) rfl rfl rfl (by decide +kernel) ⟨Nat.le_of_ble_eq_true rfl, Nat.le_of_ble_eq_true rfl⟩) (ci := 12) rfl, List.forall_mem_cons.mpr ⟨pm_cokS hbs hZ ⟨hx, hb, hml, hown, hts⟩ (kW_Mo_covers l D base sa) (fun mc ms => va_cwS 5 hts (pw_gS (pw_in 2978 (w := .methodLink "RoutingFieldModel" 440 ⟨"RoutingFieldModel", "covers", "(JJIJJ)Z"⟩) (by decide +kernel) rfl) kv_Mo_covers kn_Mo ko_Mo_covers) rfl rfl rfl (by decide +kernel) ⟨Nat.le_of_ble_eq_true rfl, Nat.le_of_ble_eq_true rfl⟩) (Nat.le_of_ble_eq_true rfl), List.forall_mem_cons.mpr ⟨pm_cokV hbs hZ ⟨hx, hb, hml, hown, hts⟩ (kW_Mo_keysAreGood l D base sa) (fun mc ms => cwV 2 hts (pw_gV (pw_in 2981 (w := .methodLink "RoutingFieldModel" 1035 ⟨"RoutingFieldModel", "keysAreGood", "(IJ)Z"⟩) (by decide +kernel) rfl) ki_Mo_keysAreGood ks_Mo_keysAreGood kn_Mo ko_Mo_keysAreGood) rfl rfl rfl (by decide +kernel) ⟨Nat.le_of_ble_eq_true rfl, Nat.le_of_ble_eq_true rfl⟩) (ci := 12) rfl, List.forall_mem_cons.mpr ⟨pm_cokV hbs hZ ⟨hx, hb, hml, hown, hts⟩ (kW_Mo_takeAll l D base sa) (fun mc ms => cwV 4 hts (pw_gV (pw_in 3004 (w := .methodLink "RoutingFieldModel" 1039 ⟨"RoutingFieldModel", "takeAll", "(IIJJ)V"⟩) (by decide +kernel) rfl) ki_Mo_takeAll ks_Mo_takeAll kn_Mo ko_Mo_takeAll) rfl rfl rfl (by decide +kernel) ⟨Nat.le_of_ble_eq_true rfl, Nat.le_of_ble_eq_true rfl⟩) (ci := 12) rfl, List.forall_mem_cons.mpr ⟨pm_cokV hbs hZ ⟨hx, hb, hml, hown, hts⟩ (kW_Mo_answer l D base sa) (fun mc ms => cwV 4 hts (pw_gV (pw_in 3057 (w := .methodLink "RoutingFieldModel" 1043 ⟨"RoutingFieldModel", "answer", "(IIJJ)V"⟩) (by decide +kernel) rfl) ki_Mo_answer ks_Mo_answer kn_Mo ko_Mo_answer) rfl rfl rfl (by decide +kernel) ⟨Nat.le_of_ble_eq_true rfl, Nat.le_of_ble_eq_true rfl⟩) (ci := 12) rfl, fun _ h => absurd h List.not_mem_nil⟩⟩⟩⟩⟩),
    hZ, kst_ok ht hZ (kS_Mo_ok sa), knar_ok ht, ktx_ok (kE_Mo_ok sa)⟩
set_option maxRecDepth 100000 in
theorem ki_Mo_takeOff : Cond.instanceMethod ⟨"RoutingFieldModel", "takeOff", "(I)V"⟩ ∈ pw_T := (pw_in 2968 (by decide +kernel) rfl)
set_option maxRecDepth 100000 in
theorem ks_Mo_takeOff : Cond.selects "RoutingFieldModel" ⟨"RoutingFieldModel", "takeOff", "(I)V"⟩ ⟨"RoutingFieldModel", "takeOff", "(I)V"⟩ ∈ pw_T := (pw_sel 185 (q := (⟨"RoutingFieldModel", "takeOff", "(I)V"⟩, 166)) (by decide +kernel))
set_option maxRecDepth 100000 in
theorem ko_Mo_takeOff : Cond.code ⟨"RoutingFieldModel", "takeOff", "(I)V"⟩ prog_14_method_132_code 3 none ∈ pw_T := (pw_in 2969 rfl rfl)
set_option maxRecDepth 100000 in
theorem kD_Mo_takeOff : ∀ q ∈ kC_Mo_takeOff, decode prog_14_method_132_code q.1 = .ok (q.2, pm_len q.1 q.2) := by decide +kernel
set_option maxRecDepth 100000 in
theorem kW_Mo_takeOff (l : Launch) (D : va_G) (base : Nat) (sa : Nat → Nat) : pm_Met l D kcl base (kZ sa) ⟨"RoutingFieldModel", "takeOff", "(I)V"⟩ (.code ⟨"RoutingFieldModel", "takeOff", "(I)V"⟩ prog_14_method_132_code 3 none :: pw_T) 0 0 (kP_Mo_takeOff base sa) := by
  refine pm_met (by decide) rfl rfl ?_
  intro mc ms p e s m args below meth c hx hb hml hown hnm hts hbs hZ
  have ht : ∀ w ∈ pw_T, w.before args s = true := fun w h => hts w (List.mem_cons_of_mem _ h)
  exact ⟨hx, hb, hown, hbs, pm_look_all kD_Mo_takeOff, kf_ok (init := false) ht hZ kF_Mo_ok (fun h => by cases h), km_ok ht kM_Mo_ok, kci_ok ht kI_Mo_ok, kli_ok ht kJ_Mo_ok, kar_ok ht hZ kA_Mo_ok,
    pm_look_all (fun _ h => absurd h List.not_mem_nil),
    hZ, kst_ok ht hZ (kS_Mo_ok sa), knar_ok ht, ktx_ok (kE_Mo_ok sa)⟩
set_option maxRecDepth 100000 in
theorem ki_Mo_arrive : Cond.instanceMethod ⟨"RoutingFieldModel", "arrive", "(I)V"⟩ ∈ pw_T := (pw_in 2964 (by decide +kernel) rfl)
set_option maxRecDepth 100000 in
theorem ks_Mo_arrive : Cond.selects "RoutingFieldModel" ⟨"RoutingFieldModel", "arrive", "(I)V"⟩ ⟨"RoutingFieldModel", "arrive", "(I)V"⟩ ∈ pw_T := (pw_sel 184 (q := (⟨"RoutingFieldModel", "arrive", "(I)V"⟩, 166)) (by decide +kernel))
set_option maxRecDepth 100000 in
theorem ko_Mo_arrive : Cond.code ⟨"RoutingFieldModel", "arrive", "(I)V"⟩ prog_14_method_133_code 20 none ∈ pw_T := (pw_in 2965 rfl rfl)
set_option maxRecDepth 100000 in
theorem kD_Mo_arrive_0 : ∀ q ∈ kC_Mo_arrive_0, decode prog_14_method_133_code q.1 = .ok (q.2, pm_len q.1 q.2) := by decide +kernel
set_option maxRecDepth 100000 in
theorem kD_Mo_arrive_1 : ∀ q ∈ kC_Mo_arrive_1, decode prog_14_method_133_code q.1 = .ok (q.2, pm_len q.1 q.2) := by decide +kernel
set_option maxRecDepth 100000 in
theorem kD_Mo_arrive_2 : ∀ q ∈ kC_Mo_arrive_2, decode prog_14_method_133_code q.1 = .ok (q.2, pm_len q.1 q.2) := by decide +kernel
set_option maxRecDepth 100000 in
theorem kD_Mo_arrive_3 : ∀ q ∈ kC_Mo_arrive_3, decode prog_14_method_133_code q.1 = .ok (q.2, pm_len q.1 q.2) := by decide +kernel
theorem kD_Mo_arrive : ∀ q ∈ kC_Mo_arrive, decode prog_14_method_133_code q.1 = .ok (q.2, pm_len q.1 q.2) := List.forall_mem_append.mpr ⟨kD_Mo_arrive_0, List.forall_mem_append.mpr ⟨kD_Mo_arrive_1, List.forall_mem_append.mpr ⟨kD_Mo_arrive_2, kD_Mo_arrive_3⟩⟩⟩
set_option maxRecDepth 100000 in
theorem kW_Mo_arrive (l : Launch) (D : va_G) (base : Nat) (sa : Nat → Nat) : pm_Met l D kcl base (kZ sa) ⟨"RoutingFieldModel", "arrive", "(I)V"⟩ (.code ⟨"RoutingFieldModel", "arrive", "(I)V"⟩ prog_14_method_133_code 20 none :: pw_T) 10 299 (kP_Mo_arrive base sa) := by
  refine pm_met (by decide) rfl rfl ?_
  intro mc ms p e s m args below meth c hx hb hml hown hnm hts hbs hZ
  have ht : ∀ w ∈ pw_T, w.before args s = true := fun w h => hts w (List.mem_cons_of_mem _ h)
  exact ⟨hx, hb, hown, hbs, pm_look_all kD_Mo_arrive, kf_ok (init := false) ht hZ kF_Mo_ok (fun h => by cases h), km_ok ht kM_Mo_ok, kci_ok ht kI_Mo_ok, kli_ok ht kJ_Mo_ok, kar_ok ht hZ kA_Mo_ok,
    pm_look_all (List.forall_mem_cons.mpr ⟨pm_cokV hbs hZ ⟨hx, hb, hml, hown, hts⟩ (kW_Mo_takeOff l D base sa) (fun mc ms => cwV 1 hts (pw_gV (pw_in 2966 (w := .methodLink "RoutingFieldModel" 1086 ⟨"RoutingFieldModel", "takeOff", "(I)V"⟩) (by decide +kernel) rfl) ki_Mo_takeOff ks_Mo_takeOff kn_Mo ko_Mo_takeOff) rfl rfl rfl (by decide +kernel) ⟨Nat.le_of_ble_eq_true rfl, Nat.le_of_ble_eq_true rfl⟩) (ci := 12) rfl, List.forall_mem_cons.mpr ⟨pm_cokV hbs hZ ⟨hx, hb, hml, hown, hts⟩ (kW_Mo_interfaceTo l D base sa) (fun mc ms => cwV 2 hts (pw_gV (pw_in 2608 (w := .methodLink "RoutingFieldModel" 672 ⟨"RoutingFieldModel", "interfaceTo", "(II)I"⟩) (by decide +kernel) rfl) ki_Mo_interfaceTo ks_Mo_interfaceTo kn_Mo ko_Mo_interfaceTo) rfl rfl rfl (by decide +kernel) ⟨Nat.le_of_ble_eq_true rfl, Nat.le_of_ble_eq_true rfl⟩) (ci := 12) rfl, List.forall_mem_cons.mpr ⟨pm_cokV hbs hZ ⟨hx, hb, hml, hown, hts⟩ (kW_Mo_receive l D base sa) (fun mc ms => cwV 6 hts (pw_gV (pw_in 2970 (w := .methodLink "RoutingFieldModel" 1089 ⟨"RoutingFieldModel", "receive", "(IIJJII)V"⟩) (by decide +kernel) rfl) ki_Mo_receive ks_Mo_receive kn_Mo ko_Mo_receive) rfl rfl rfl (by decide +kernel) ⟨Nat.le_of_ble_eq_true rfl, Nat.le_of_ble_eq_true rfl⟩) (ci := 12) rfl, fun _ h => absurd h List.not_mem_nil⟩⟩⟩),
    hZ, kst_ok ht hZ (kS_Mo_ok sa), knar_ok ht, ktx_ok (kE_Mo_ok sa)⟩
set_option maxRecDepth 100000 in
theorem ki_Mo_age : Cond.instanceMethod ⟨"RoutingFieldModel", "age", "(I)V"⟩ ∈ pw_T := (pw_in 3103 (by decide +kernel) rfl)
set_option maxRecDepth 100000 in
theorem ks_Mo_age : Cond.selects "RoutingFieldModel" ⟨"RoutingFieldModel", "age", "(I)V"⟩ ⟨"RoutingFieldModel", "age", "(I)V"⟩ ∈ pw_T := (pw_sel 213 (q := (⟨"RoutingFieldModel", "age", "(I)V"⟩, 166)) (by decide +kernel))
set_option maxRecDepth 100000 in
theorem ko_Mo_age : Cond.code ⟨"RoutingFieldModel", "age", "(I)V"⟩ prog_14_method_134_code 4 none ∈ pw_T := (pw_in 3104 rfl rfl)
set_option maxRecDepth 100000 in
theorem kD_Mo_age_0 : ∀ q ∈ kC_Mo_age_0, decode prog_14_method_134_code q.1 = .ok (q.2, pm_len q.1 q.2) := by decide +kernel
set_option maxRecDepth 100000 in
theorem kD_Mo_age_1 : ∀ q ∈ kC_Mo_age_1, decode prog_14_method_134_code q.1 = .ok (q.2, pm_len q.1 q.2) := by decide +kernel
theorem kD_Mo_age : ∀ q ∈ kC_Mo_age, decode prog_14_method_134_code q.1 = .ok (q.2, pm_len q.1 q.2) := List.forall_mem_append.mpr ⟨kD_Mo_age_0, kD_Mo_age_1⟩
set_option maxRecDepth 100000 in
theorem kW_Mo_age (l : Launch) (D : va_G) (base : Nat) (sa : Nat → Nat) : pm_Met l D kcl base (kZ sa) ⟨"RoutingFieldModel", "age", "(I)V"⟩ (.code ⟨"RoutingFieldModel", "age", "(I)V"⟩ prog_14_method_134_code 4 none :: pw_T) 2 45 (kP_Mo_age base sa) := by
  refine pm_met (by decide) rfl rfl ?_
  intro mc ms p e s m args below meth c hx hb hml hown hnm hts hbs hZ
  have ht : ∀ w ∈ pw_T, w.before args s = true := fun w h => hts w (List.mem_cons_of_mem _ h)
  exact ⟨hx, hb, hown, hbs, pm_look_all kD_Mo_age, kf_ok (init := false) ht hZ kF_Mo_ok (fun h => by cases h), km_ok ht kM_Mo_ok, kci_ok ht kI_Mo_ok, kli_ok ht kJ_Mo_ok, kar_ok ht hZ kA_Mo_ok,
    pm_look_all (List.forall_mem_cons.mpr ⟨pm_cokV hbs hZ ⟨hx, hb, hml, hown, hts⟩ (kW_Mo_die l D base sa) (fun mc ms => cwV 2 hts (pw_gV (pw_in 2676 (w := .methodLink "RoutingFieldModel" 789 ⟨"RoutingFieldModel", "die", "(II)V"⟩) (by decide +kernel) rfl) ki_Mo_die ks_Mo_die kn_Mo ko_Mo_die) rfl rfl rfl (by decide +kernel) ⟨Nat.le_of_ble_eq_true rfl, Nat.le_of_ble_eq_true rfl⟩) (ci := 12) rfl, List.forall_mem_cons.mpr ⟨pm_cokV hbs hZ ⟨hx, hb, hml, hown, hts⟩ (kW_Mo_remove l D base sa) (fun mc ms => cwV 2 hts (pw_gV (pw_in 3105 (w := .methodLink "RoutingFieldModel" 1093 ⟨"RoutingFieldModel", "remove", "(II)V"⟩) (by decide +kernel) rfl) ki_Mo_remove ks_Mo_remove kn_Mo ko_Mo_remove) rfl rfl rfl (by decide +kernel) ⟨Nat.le_of_ble_eq_true rfl, Nat.le_of_ble_eq_true rfl⟩) (ci := 12) rfl, fun _ h => absurd h List.not_mem_nil⟩⟩),
    hZ, kst_ok ht hZ (kS_Mo_ok sa), knar_ok ht, ktx_ok (kE_Mo_ok sa)⟩
