/-! Bodies, by program: By_init .. Re_linkNamed -/
def kC_By_init : List (Nat × Instr) := [(0, .aload_n 0), (1, .invokespecial 3), (4, .aload_n 0), (5, .iload_n 1), (6, .bipush 16), (8, .if_icmp .ge 8), (11, .bipush 16), (13, .goto 4), (16, .iload_n 1), (17, .newarray .byte), (19, .putfield 9), (22, .aload_n 0), (23, .iconst 0), (24, .putfield 15), (27, .return_)]
set_option maxRecDepth 100000 in
theorem kD_By_init : ∀ q ∈ kC_By_init, decode prog_2_method_1_code q.1 = .ok (q.2, pm_len q.1 q.2) := by decide +kernel
def kX_By_init (base : Nat) (sa : Nat → Nat) : pmX := (pm_look kC_By_init, kfld kF_By true, kmk kM_By, kci kI_By, kli kJ_By, kar kA_By, pm_look [(3, (1, 1, pm_oi))], kst (kS_By sa), ktx sa kE_By, 2, none)
def kP_By_init (base : Nat) (sa : Nat → Nat) : pmT := pm_mt kcl base (kX_By_init base sa)
set_option maxRecDepth 100000 in
theorem kW_By_init (l : Launch) (D : va_G) (base : Nat) (sa : Nat → Nat) : pm_Met l D kcl base (kZ sa) ⟨"RoutingField$Bytes", "<init>", "(I)V"⟩ (.code ⟨"RoutingField$Bytes", "<init>", "(I)V"⟩ prog_2_method_1_code 2 none :: pw_T) 1 20 (kP_By_init base sa) := by
  refine pm_met (by decide) rfl rfl ?_
  intro mc ms p e s m args below meth c hx hb hml hown hnm hts hbs hZ
  have ht : ∀ w ∈ pw_T, w.before args s = true := fun w h => hts w (List.mem_cons_of_mem _ h)
  exact ⟨hx, hb, hown, hbs, pm_look_all kD_By_init, kf_ok ht hZ kF_By_ok (fun _ => hnm), km_ok ht kM_By_ok, kci_ok ht kI_By_ok, kli_ok ht kJ_By_ok, kar_ok ht hZ kA_By_ok,
    pm_look_all (List.forall_mem_cons.mpr ⟨pm_cokO hx hb hml hown (ht _ (pw_in 38 (by decide +kernel) rfl)) (ht _ (pw_in 31 (by decide +kernel) rfl)) (ht _ (pw_in 32 rfl rfl)) (by decide) (by decide), fun _ h => absurd h List.not_mem_nil⟩),
    hZ, kst_ok ht hZ (kS_By_ok sa), knar_ok ht, ktx_ok (kE_By_ok sa)⟩
def kC_Pr_init : List (Nat × Instr) := [(0, .aload_n 0), (1, .invokespecial 3), (4, .aload_n 0), (5, .iconst 4), (6, .putfield 9), (9, .aload_n 0), (10, .lconst 0), (11, .putfield 15), (14, .aload_n 0), (15, .lconst 0), (16, .putfield 19), (19, .aload_n 0), (20, .iconst 0), (21, .putfield 22), (24, .return_)]
set_option maxRecDepth 100000 in
theorem kD_Pr_init : ∀ q ∈ kC_Pr_init, decode prog_7_method_1_code q.1 = .ok (q.2, pm_len q.1 q.2) := by decide +kernel
def kX_Pr_init (base : Nat) (sa : Nat → Nat) : pmX := (pm_look kC_Pr_init, kfld kF_Pr true, kmk kM_Pr, kci kI_Pr, kli kJ_Pr, kar kA_Pr, pm_look [(3, (1, 1, pm_oi))], kst (kS_Pr sa), ktx sa kE_Pr, 1, none)
def kP_Pr_init (base : Nat) (sa : Nat → Nat) : pmT := pm_mt kcl base (kX_Pr_init base sa)
set_option maxRecDepth 100000 in
theorem kW_Pr_init (l : Launch) (D : va_G) (base : Nat) (sa : Nat → Nat) : pm_Met l D kcl base (kZ sa) ⟨"RoutingField$Prefix", "<init>", "()V"⟩ (.code ⟨"RoutingField$Prefix", "<init>", "()V"⟩ prog_7_method_1_code 1 none :: pw_T) 1 20 (kP_Pr_init base sa) := by
  refine pm_met (by decide) rfl rfl ?_
  intro mc ms p e s m args below meth c hx hb hml hown hnm hts hbs hZ
  have ht : ∀ w ∈ pw_T, w.before args s = true := fun w h => hts w (List.mem_cons_of_mem _ h)
  exact ⟨hx, hb, hown, hbs, pm_look_all kD_Pr_init, kf_ok ht hZ kF_Pr_ok (fun _ => hnm), km_ok ht kM_Pr_ok, kci_ok ht kI_Pr_ok, kli_ok ht kJ_Pr_ok, kar_ok ht hZ kA_Pr_ok,
    pm_look_all (List.forall_mem_cons.mpr ⟨pm_cokO hx hb hml hown (ht _ (pw_in 73 (by decide +kernel) rfl)) (ht _ (pw_in 31 (by decide +kernel) rfl)) (ht _ (pw_in 32 rfl rfl)) (by decide) (by decide), fun _ h => absurd h List.not_mem_nil⟩),
    hZ, kst_ok ht hZ (kS_Pr_ok sa), knar_ok ht, ktx_ok (kE_Pr_ok sa)⟩
def kC_Da_init : List (Nat × Instr) := [(0, .aload_n 0), (1, .invokespecial 3), (4, .aload_n 0), (5, .new 9), (8, .dup), (9, .sipush 600), (12, .invokespecial 11), (15, .putfield 14), (18, .aload_n 0), (19, .new 20), (22, .dup), (23, .invokespecial 22), (26, .putfield 23), (29, .aload_n 0), (30, .new 20), (33, .dup), (34, .invokespecial 22), (37, .putfield 27), (40, .aload_n 0), (41, .iconst 1), (42, .putfield 30), (45, .aload_n 0), (46, .iconst 4), (47, .putfield 34), (50, .aload_n 0), (51, .iconst 0), (52, .putfield 38), (55, .aload_n 0), (56, .iconst 0), (57, .putfield 41), (60, .aload_n 0), (61, .aconst_null), (62, .putfield 44), (65, .aload_n 0), (66, .aconst_null), (67, .putfield 48), (70, .aload_n 0), (71, .iconst 0), (72, .putfield 52), (75, .aload_n 0), (76, .iconst 4), (77, .putfield 55), (80, .aload_n 0), (81, .iconst 4), (82, .putfield 58), (85, .return_)]
set_option maxRecDepth 100000 in
theorem kD_Da_init : ∀ q ∈ kC_Da_init, decode prog_4_method_1_code q.1 = .ok (q.2, pm_len q.1 q.2) := by decide +kernel
def kX_Da_init (base : Nat) (sa : Nat → Nat) : pmX := (pm_look kC_Da_init, kfld kF_Da true, kmk kM_Da, kci kI_Da, kli kJ_Da, kar kA_Da, pm_look [(3, (1, 1, pm_oi)), (11, (1, 2, pm_rcv 0 (kP_By_init base sa))), (22, (1, 1, pm_rcv 5 (kP_Pr_init base sa)))], kst (kS_Da sa), ktx sa kE_Da, 1, none)
def kP_Da_init (base : Nat) (sa : Nat → Nat) : pmT := pm_mt kcl base (kX_Da_init base sa)
set_option maxRecDepth 100000 in
theorem kW_Da_init (l : Launch) (D : va_G) (base : Nat) (sa : Nat → Nat) : pm_Met l D kcl base (kZ sa) ⟨"RoutingField$Datagram", "<init>", "()V"⟩ (.code ⟨"RoutingField$Datagram", "<init>", "()V"⟩ prog_4_method_1_code 1 none :: pw_T) 2 41 (kP_Da_init base sa) := by
  refine pm_met (by decide) rfl rfl ?_
  intro mc ms p e s m args below meth c hx hb hml hown hnm hts hbs hZ
  have ht : ∀ w ∈ pw_T, w.before args s = true := fun w h => hts w (List.mem_cons_of_mem _ h)
  exact ⟨hx, hb, hown, hbs, pm_look_all kD_Da_init, kf_ok ht hZ kF_Da_ok (fun _ => hnm), km_ok ht kM_Da_ok, kci_ok ht kI_Da_ok, kli_ok ht kJ_Da_ok, kar_ok ht hZ kA_Da_ok,
    pm_look_all (List.forall_mem_cons.mpr ⟨pm_cokO hx hb hml hown (ht _ (pw_in 65 (by decide +kernel) rfl)) (ht _ (pw_in 31 (by decide +kernel) rfl)) (ht _ (pw_in 32 rfl rfl)) (by decide) (by decide), List.forall_mem_cons.mpr ⟨pm_cokI hbs hZ ⟨hx, hb, hml, hown, hts⟩ (kW_By_init l D base sa) (fun mc ms => cwI 1 hts (pw_gC (pw_in 37 rfl rfl)) rfl rfl rfl (ht _ (pw_in 2 (by decide +kernel) rfl)) (ht _ (pw_in 67 (by decide +kernel) rfl)) (ht _ (pw_in 36 (by decide +kernel) rfl)) rfl (by decide +kernel) ⟨by decide, by decide⟩), List.forall_mem_cons.mpr ⟨pm_cokI hbs hZ ⟨hx, hb, hml, hown, hts⟩ (kW_Pr_init l D base sa) (fun mc ms => cwI 0 hts (pw_gC (pw_in 72 rfl rfl)) rfl rfl rfl (ht _ (pw_in 4 (by decide +kernel) rfl)) (ht _ (pw_in 70 (by decide +kernel) rfl)) (ht _ (pw_in 71 (by decide +kernel) rfl)) rfl (by decide +kernel) ⟨by decide, by decide⟩), fun _ h => absurd h List.not_mem_nil⟩⟩⟩),
    hZ, kst_ok ht hZ (kS_Da_ok sa), knar_ok ht, ktx_ok (kE_Da_ok sa)⟩
def kC_Ta_init : List (Nat × Instr) := [(0, .aload_n 0), (1, .invokespecial 1), (4, .aload_n 0), (5, .bipush 16), (7, .anewarray 7), (10, .putfield 9), (13, .aload_n 0), (14, .iconst 0), (15, .putfield 15), (18, .return_)]
set_option maxRecDepth 100000 in
theorem kD_Ta_init : ∀ q ∈ kC_Ta_init, decode prog_12_method_1_code q.1 = .ok (q.2, pm_len q.1 q.2) := by decide +kernel
def kX_Ta_init (base : Nat) (sa : Nat → Nat) : pmX := (pm_look kC_Ta_init, kfld kF_Ta true, kmk kM_Ta, kci kI_Ta, kli kJ_Ta, kar kA_Ta, pm_look [(1, (1, 1, pm_oi))], kst (kS_Ta sa), ktx sa kE_Ta, 1, none)
def kP_Ta_init (base : Nat) (sa : Nat → Nat) : pmT := pm_mt kcl base (kX_Ta_init base sa)
set_option maxRecDepth 100000 in
theorem kW_Ta_init (l : Launch) (D : va_G) (base : Nat) (sa : Nat → Nat) : pm_Met l D kcl base (kZ sa) ⟨"RoutingField$Table", "<init>", "()V"⟩ (.code ⟨"RoutingField$Table", "<init>", "()V"⟩ prog_12_method_1_code 1 none :: pw_T) 1 20 (kP_Ta_init base sa) := by
  refine pm_met (by decide) rfl rfl ?_
  intro mc ms p e s m args below meth c hx hb hml hown hnm hts hbs hZ
  have ht : ∀ w ∈ pw_T, w.before args s = true := fun w h => hts w (List.mem_cons_of_mem _ h)
  exact ⟨hx, hb, hown, hbs, pm_look_all kD_Ta_init, kf_ok ht hZ kF_Ta_ok (fun _ => hnm), km_ok ht kM_Ta_ok, kci_ok ht kI_Ta_ok, kli_ok ht kJ_Ta_ok, kar_ok ht hZ kA_Ta_ok,
    pm_look_all (List.forall_mem_cons.mpr ⟨pm_cokO hx hb hml hown (ht _ (pw_in 170 (by decide +kernel) rfl)) (ht _ (pw_in 31 (by decide +kernel) rfl)) (ht _ (pw_in 32 rfl rfl)) (by decide) (by decide), fun _ h => absurd h List.not_mem_nil⟩),
    hZ, kst_ok ht hZ (kS_Ta_ok sa), knar_ok ht, ktx_ok (kE_Ta_ok sa)⟩
def kC_Rf_init_0 : List (Nat × Instr) := [(0, .aload_n 0), (1, .invokespecial 3), (4, .aload_n 0), (5, .new 9), (8, .dup), (9, .bipush 64), (11, .invokespecial 11), (14, .putfield 14), (17, .aload_n 0), (18, .new 9), (21, .dup), (22, .bipush 64), (24, .invokespecial 11), (27, .putfield 18), (30, .aload_n 0), (31, .new 9), (34, .dup), (35, .bipush 64), (37, .invokespecial 11), (40, .putfield 21), (43, .aload_n 0), (44, .aconst_null), (45, .putfield 24), (48, .aload_n 0), (49, .iconst 0), (50, .putfield 28), (53, .aload_n 0), (54, .iconst 0), (55, .putfield 32), (58, .aload_n 0), (59, .bipush 10), (61, .anewarray 35), (64, .putfield 37), (67, .aload_n 0), (68, .iconst 0), (69, .putfield 41), (72, .aload_n 0), (73, .bipush 6), (75, .anewarray 44), (78, .putfield 46), (81, .aload_n 0), (82, .iconst 0), (83, .putfield 50), (86, .aload_n 0), (87, .bipush 8), (89, .anewarray 53), (92, .putfield 55), (95, .aload_n 0), (96, .iconst 0), (97, .putfield 59)]
set_option maxRecDepth 100000 in
theorem kD_Rf_init_0 : ∀ q ∈ kC_Rf_init_0, decode prog_1_method_1_code q.1 = .ok (q.2, pm_len q.1 q.2) := by decide +kernel
def kC_Rf_init_1 : List (Nat × Instr) := [(100, .aload_n 0), (101, .sipush 256), (104, .anewarray 62), (107, .putfield 64), (110, .aload_n 0), (111, .iconst 0), (112, .putfield 68), (115, .aload_n 0), (116, .sipush 258), (119, .anewarray 62), (122, .putfield 71), (125, .aload_n 0), (126, .iconst 0), (127, .putfield 74), (130, .aload_n 0), (131, .new 62), (134, .dup), (135, .invokespecial 77), (138, .putfield 78), (141, .aload_n 0), (142, .new 82), (145, .dup), (146, .invokespecial 84), (149, .putfield 85), (152, .aload_n 0), (153, .new 89), (156, .dup), (157, .invokespecial 91), (160, .putfield 92), (163, .aload_n 0), (164, .new 89), (167, .dup), (168, .invokespecial 91), (171, .putfield 96), (174, .return_)]
set_option maxRecDepth 100000 in
theorem kD_Rf_init_1 : ∀ q ∈ kC_Rf_init_1, decode prog_1_method_1_code q.1 = .ok (q.2, pm_len q.1 q.2) := by decide +kernel
def kC_Rf_init : List (Nat × Instr) := kC_Rf_init_0 ++ (kC_Rf_init_1)
theorem kD_Rf_init : ∀ q ∈ kC_Rf_init, decode prog_1_method_1_code q.1 = .ok (q.2, pm_len q.1 q.2) := List.forall_mem_append.mpr ⟨kD_Rf_init_0, kD_Rf_init_1⟩
def kX_Rf_init (base : Nat) (sa : Nat → Nat) : pmX := (pm_look kC_Rf_init, kfld kF_Rf true, kmk kM_Rf, kci kI_Rf, kli kJ_Rf, kar kA_Rf, pm_look [(3, (1, 1, pm_oi)), (11, (1, 2, pm_rcv 0 (kP_By_init base sa))), (77, (1, 1, pm_rcv 2 (kP_Da_init base sa))), (84, (1, 1, pm_rcv 10 (kP_Ta_init base sa))), (91, (1, 1, pm_rcv 5 (kP_Pr_init base sa)))], kst (kS_Rf sa), ktx sa kE_Rf, 1, none)
def kP_Rf_init (base : Nat) (sa : Nat → Nat) : pmT := pm_mt kcl base (kX_Rf_init base sa)
set_option maxRecDepth 100000 in
theorem kW_Rf_init (l : Launch) (D : va_G) (base : Nat) (sa : Nat → Nat) : pm_Met l D kcl base (kZ sa) ⟨"RoutingField", "<init>", "()V"⟩ (.code ⟨"RoutingField", "<init>", "()V"⟩ prog_1_method_1_code 1 none :: pw_T) 3 61 (kP_Rf_init base sa) := by
  refine pm_met (by decide) rfl rfl ?_
  intro mc ms p e s m args below meth c hx hb hml hown hnm hts hbs hZ
  have ht : ∀ w ∈ pw_T, w.before args s = true := fun w h => hts w (List.mem_cons_of_mem _ h)
  exact ⟨hx, hb, hown, hbs, pm_look_all kD_Rf_init, kf_ok ht hZ kF_Rf_ok (fun _ => hnm), km_ok ht kM_Rf_ok, kci_ok ht kI_Rf_ok, kli_ok ht kJ_Rf_ok, kar_ok ht hZ kA_Rf_ok,
    pm_look_all (List.forall_mem_cons.mpr ⟨pm_cokO hx hb hml hown (ht _ (pw_in 30 (by decide +kernel) rfl)) (ht _ (pw_in 31 (by decide +kernel) rfl)) (ht _ (pw_in 32 rfl rfl)) (by decide) (by decide), List.forall_mem_cons.mpr ⟨pm_cokI hbs hZ ⟨hx, hb, hml, hown, hts⟩ (kW_By_init l D base sa) (fun mc ms => cwI 1 hts (pw_gC (pw_in 37 rfl rfl)) rfl rfl rfl (ht _ (pw_in 2 (by decide +kernel) rfl)) (ht _ (pw_in 35 (by decide +kernel) rfl)) (ht _ (pw_in 36 (by decide +kernel) rfl)) rfl (by decide +kernel) ⟨by decide, by decide⟩), List.forall_mem_cons.mpr ⟨pm_cokI hbs hZ ⟨hx, hb, hml, hown, hts⟩ (kW_Da_init l D base sa) (fun mc ms => cwI 0 hts (pw_gC (pw_in 64 rfl rfl)) rfl rfl rfl (ht _ (pw_in 3 (by decide +kernel) rfl)) (ht _ (pw_in 62 (by decide +kernel) rfl)) (ht _ (pw_in 63 (by decide +kernel) rfl)) rfl (by decide +kernel) ⟨by decide, by decide⟩), List.forall_mem_cons.mpr ⟨pm_cokI hbs hZ ⟨hx, hb, hml, hown, hts⟩ (kW_Ta_init l D base sa) (fun mc ms => cwI 0 hts (pw_gC (pw_in 169 rfl rfl)) rfl rfl rfl (ht _ (pw_in 5 (by decide +kernel) rfl)) (ht _ (pw_in 167 (by decide +kernel) rfl)) (ht _ (pw_in 168 (by decide +kernel) rfl)) rfl (by decide +kernel) ⟨by decide, by decide⟩), List.forall_mem_cons.mpr ⟨pm_cokI hbs hZ ⟨hx, hb, hml, hown, hts⟩ (kW_Pr_init l D base sa) (fun mc ms => cwI 0 hts (pw_gC (pw_in 72 rfl rfl)) rfl rfl rfl (ht _ (pw_in 4 (by decide +kernel) rfl)) (ht _ (pw_in 186 (by decide +kernel) rfl)) (ht _ (pw_in 71 (by decide +kernel) rfl)) rfl (by decide +kernel) ⟨by decide, by decide⟩), fun _ h => absurd h List.not_mem_nil⟩⟩⟩⟩⟩),
    hZ, kst_ok ht hZ (kS_Rf_ok sa), knar_ok ht, ktx_ok (kE_Rf_ok sa)⟩
def kC_By_add : List (Nat × Instr) := [(0, .aload_n 0), (1, .getfield 15), (4, .aload_n 0), (5, .getfield 9), (8, .arraylength), (9, .if_icmp .lt 44), (12, .aload_n 0), (13, .getfield 9), (16, .arraylength), (17, .iconst 2), (18, .imul), (19, .newarray .byte), (21, .astore_n 2), (22, .iconst 0), (23, .istore_n 3), (24, .iload_n 3), (25, .aload_n 0), (26, .getfield 9), (29, .arraylength), (30, .if_icmp .ge 18), (33, .aload_n 2), (34, .iload_n 3), (35, .aload_n 0), (36, .getfield 9), (39, .iload_n 3), (40, .baload), (41, .bastore), (42, .iinc 3 1), (45, .goto (-21)), (48, .aload_n 0), (49, .aload_n 2), (50, .putfield 9), (53, .aload_n 0), (54, .getfield 9), (57, .aload_n 0), (58, .getfield 15), (61, .iload_n 1), (62, .i2b), (63, .bastore), (64, .aload_n 0), (65, .dup), (66, .getfield 15), (69, .iconst 1), (70, .iadd), (71, .putfield 15), (74, .return_)]
set_option maxRecDepth 100000 in
theorem kD_By_add : ∀ q ∈ kC_By_add, decode prog_2_method_7_code q.1 = .ok (q.2, pm_len q.1 q.2) := by decide +kernel
def kX_By_add (base : Nat) (sa : Nat → Nat) : pmX := (pm_look kC_By_add, kfld kF_By false, kmk kM_By, kci kI_By, kli kJ_By, kar kA_By, pm_look [], kst (kS_By sa), ktx sa kE_By, 4, none)
def kP_By_add (base : Nat) (sa : Nat → Nat) : pmT := pm_mt kcl base (kX_By_add base sa)
set_option maxRecDepth 100000 in
theorem kW_By_add (l : Launch) (D : va_G) (base : Nat) (sa : Nat → Nat) : pm_Met l D kcl base (kZ sa) ⟨"RoutingField$Bytes", "add", "(I)V"⟩ (.code ⟨"RoutingField$Bytes", "add", "(I)V"⟩ prog_2_method_7_code 4 none :: pw_T) 0 0 (kP_By_add base sa) := by
  refine pm_met (by decide) rfl rfl ?_
  intro mc ms p e s m args below meth c hx hb hml hown hnm hts hbs hZ
  have ht : ∀ w ∈ pw_T, w.before args s = true := fun w h => hts w (List.mem_cons_of_mem _ h)
  exact ⟨hx, hb, hown, hbs, pm_look_all kD_By_add, kf_ok ht hZ kF_By_ok (fun h => by cases h), km_ok ht kM_By_ok, kci_ok ht kI_By_ok, kli_ok ht kJ_By_ok, kar_ok ht hZ kA_By_ok,
    pm_look_all (fun _ h => absurd h List.not_mem_nil),
    hZ, kst_ok ht hZ (kS_By_ok sa), knar_ok ht, ktx_ok (kE_By_ok sa)⟩
def kC_By_addNumber : List (Nat × Instr) := [(0, .iload_n 3), (1, .bipush 8), (3, .imul), (4, .bipush 8), (6, .isub), (7, .istore 4), (9, .iload 4), (11, .ifCond .lt 18), (14, .aload_n 0), (15, .lload_n 1), (16, .iload 4), (18, .lushr), (19, .l2i), (20, .invokevirtual 23), (23, .iinc 4 (-8)), (26, .goto (-17)), (29, .return_)]
set_option maxRecDepth 100000 in
theorem kD_By_addNumber : ∀ q ∈ kC_By_addNumber, decode prog_2_method_8_code q.1 = .ok (q.2, pm_len q.1 q.2) := by decide +kernel
def kX_By_addNumber (base : Nat) (sa : Nat → Nat) : pmX := (pm_look kC_By_addNumber, kfld kF_By false, kmk kM_By, kci kI_By, kli kJ_By, kar kA_By, pm_look [(23, (0, 2, pm_rcv 0 (kP_By_add base sa)))], kst (kS_By sa), ktx sa kE_By, 5, none)
def kP_By_addNumber (base : Nat) (sa : Nat → Nat) : pmT := pm_mt kcl base (kX_By_addNumber base sa)
set_option maxRecDepth 100000 in
theorem kW_By_addNumber (l : Launch) (D : va_G) (base : Nat) (sa : Nat → Nat) : pm_Met l D kcl base (kZ sa) ⟨"RoutingField$Bytes", "addNumber", "(JI)V"⟩ (.code ⟨"RoutingField$Bytes", "addNumber", "(JI)V"⟩ prog_2_method_8_code 5 none :: pw_T) 1 23 (kP_By_addNumber base sa) := by
  refine pm_met (by decide) rfl rfl ?_
  intro mc ms p e s m args below meth c hx hb hml hown hnm hts hbs hZ
  have ht : ∀ w ∈ pw_T, w.before args s = true := fun w h => hts w (List.mem_cons_of_mem _ h)
  exact ⟨hx, hb, hown, hbs, pm_look_all kD_By_addNumber, kf_ok ht hZ kF_By_ok (fun h => by cases h), km_ok ht kM_By_ok, kci_ok ht kI_By_ok, kli_ok ht kJ_By_ok, kar_ok ht hZ kA_By_ok,
    pm_look_all (List.forall_mem_cons.mpr ⟨pm_cokV hbs hZ ⟨hx, hb, hml, hown, hts⟩ (kW_By_add l D base sa) (fun mc ms => cwV 1 hts (pw_gV (pw_in 269 (by decide +kernel) rfl) (pw_in 270 (by decide +kernel) rfl) (pw_in 271 (by decide +kernel) rfl) (pw_in 2 (by decide +kernel) rfl) (pw_in 272 rfl rfl)) rfl rfl rfl (by decide +kernel) ⟨by decide, by decide⟩) (ci := 0) rfl, fun _ h => absurd h List.not_mem_nil⟩),
    hZ, kst_ok ht hZ (kS_By_ok sa), knar_ok ht, ktx_ok (kE_By_ok sa)⟩
def kC_Rf_feed : List (Nat × Instr) := [(0, .aload_n 0), (1, .getfield 14), (4, .getfield 99), (7, .bipush 20), (9, .iadd), (10, .sipush 4096), (13, .if_icmp .le 5), (16, .iconst 0), (17, .ireturn), (18, .aload_n 0), (19, .getfield 14), (22, .iload_n 1), (23, .i2l), (24, .iconst 4), (25, .invokevirtual 102), (28, .aload_n 0), (29, .getfield 14), (32, .iload_n 2), (33, .i2l), (34, .iconst 4), (35, .invokevirtual 102), (38, .aload_n 0), (39, .getfield 14), (42, .iload_n 3), (43, .i2l), (44, .iconst 4), (45, .invokevirtual 102), (48, .aload_n 0), (49, .getfield 14), (52, .iload 4), (54, .i2l), (55, .iconst 4), (56, .invokevirtual 102), (59, .aload_n 0), (60, .getfield 14), (63, .iload 5), (65, .i2l), (66, .iconst 4), (67, .invokevirtual 102), (70, .iconst 1), (71, .ireturn)]
set_option maxRecDepth 100000 in
theorem kD_Rf_feed : ∀ q ∈ kC_Rf_feed, decode prog_1_method_2_code q.1 = .ok (q.2, pm_len q.1 q.2) := by decide +kernel
def kX_Rf_feed (base : Nat) (sa : Nat → Nat) : pmX := (pm_look kC_Rf_feed, kfld kF_Rf false, kmk kM_Rf, kci kI_Rf, kli kJ_Rf, kar kA_Rf, pm_look [(102, (0, 3, pm_rcv 0 (kP_By_addNumber base sa)))], kst (kS_Rf sa), ktx sa kE_Rf, 6, (some .boolean))
def kP_Rf_feed (base : Nat) (sa : Nat → Nat) : pmT := pm_mt kcl base (kX_Rf_feed base sa)
set_option maxRecDepth 100000 in
theorem kW_Rf_feed (l : Launch) (D : va_G) (base : Nat) (sa : Nat → Nat) : pm_Met l D kcl base (kZ sa) ⟨"RoutingField", "feed", "(IIIII)Z"⟩ (.code ⟨"RoutingField", "feed", "(IIIII)Z"⟩ prog_1_method_2_code 6 (some .boolean) :: pw_T) 2 47 (kP_Rf_feed base sa) := by
  refine pm_met (by decide) rfl rfl ?_
  intro mc ms p e s m args below meth c hx hb hml hown hnm hts hbs hZ
  have ht : ∀ w ∈ pw_T, w.before args s = true := fun w h => hts w (List.mem_cons_of_mem _ h)
  exact ⟨hx, hb, hown, hbs, pm_look_all kD_Rf_feed, kf_ok ht hZ kF_Rf_ok (fun h => by cases h), km_ok ht kM_Rf_ok, kci_ok ht kI_Rf_ok, kli_ok ht kJ_Rf_ok, kar_ok ht hZ kA_Rf_ok,
    pm_look_all (List.forall_mem_cons.mpr ⟨pm_cokV hbs hZ ⟨hx, hb, hml, hown, hts⟩ (kW_By_addNumber l D base sa) (fun mc ms => cwV 2 hts (pw_gV (pw_in 265 (by decide +kernel) rfl) (pw_in 266 (by decide +kernel) rfl) (pw_in 267 (by decide +kernel) rfl) (pw_in 2 (by decide +kernel) rfl) (pw_in 268 rfl rfl)) rfl rfl rfl (by decide +kernel) ⟨by decide, by decide⟩) (ci := 0) rfl, fun _ h => absurd h List.not_mem_nil⟩),
    hZ, kst_ok ht hZ (kS_Rf_ok sa), knar_ok ht, ktx_ok (kE_Rf_ok sa)⟩
def kC_Rf_end : List (Nat × Instr) := [(0, .iload_n 1), (1, .ifCond .lt 14), (4, .iload_n 1), (5, .aload_n 0), (6, .getfield 14), (9, .getfield 99), (12, .if_icmp .le 5), (15, .iconst 0), (16, .ireturn), (17, .aload_n 0), (18, .getfield 14), (21, .iload_n 1), (22, .putfield 99), (25, .iconst 1), (26, .ireturn)]
set_option maxRecDepth 100000 in
theorem kD_Rf_end : ∀ q ∈ kC_Rf_end, decode prog_1_method_3_code q.1 = .ok (q.2, pm_len q.1 q.2) := by decide +kernel
def kX_Rf_end (base : Nat) (sa : Nat → Nat) : pmX := (pm_look kC_Rf_end, kfld kF_Rf false, kmk kM_Rf, kci kI_Rf, kli kJ_Rf, kar kA_Rf, pm_look [], kst (kS_Rf sa), ktx sa kE_Rf, 2, (some .boolean))
def kP_Rf_end (base : Nat) (sa : Nat → Nat) : pmT := pm_mt kcl base (kX_Rf_end base sa)
set_option maxRecDepth 100000 in
theorem kW_Rf_end (l : Launch) (D : va_G) (base : Nat) (sa : Nat → Nat) : pm_Met l D kcl base (kZ sa) ⟨"RoutingField", "end", "(I)Z"⟩ (.code ⟨"RoutingField", "end", "(I)Z"⟩ prog_1_method_3_code 2 (some .boolean) :: pw_T) 0 0 (kP_Rf_end base sa) := by
  refine pm_met (by decide) rfl rfl ?_
  intro mc ms p e s m args below meth c hx hb hml hown hnm hts hbs hZ
  have ht : ∀ w ∈ pw_T, w.before args s = true := fun w h => hts w (List.mem_cons_of_mem _ h)
  exact ⟨hx, hb, hown, hbs, pm_look_all kD_Rf_end, kf_ok ht hZ kF_Rf_ok (fun h => by cases h), km_ok ht kM_Rf_ok, kci_ok ht kI_Rf_ok, kli_ok ht kJ_Rf_ok, kar_ok ht hZ kA_Rf_ok,
    pm_look_all (fun _ h => absurd h List.not_mem_nil),
    hZ, kst_ok ht hZ (kS_Rf_ok sa), knar_ok ht, ktx_ok (kE_Rf_ok sa)⟩
def kC_Ch_init : List (Nat × Instr) := [(0, .aload_n 0), (1, .invokespecial 5), (4, .aload_n 0), (5, .iconst 0), (6, .putfield 11), (9, .aload_n 0), (10, .bipush 16), (12, .newarray .byte), (14, .putfield 15), (17, .aload_n 0), (18, .iconst 0), (19, .putfield 19), (22, .aload_n 0), (23, .iconst 4), (24, .newarray .int), (26, .putfield 23), (29, .aload_n 0), (30, .iconst 4), (31, .newarray .int), (33, .putfield 27), (36, .aload_n 0), (37, .iconst 4), (38, .newarray .int), (40, .putfield 30), (43, .aload_n 0), (44, .iconst 4), (45, .newarray .int), (47, .putfield 33), (50, .aload_n 0), (51, .iconst 4), (52, .bipush 16), (58, .putfield 38), (61, .aload_n 0), (62, .aconst_null), (63, .putfield 41), (66, .aload_n 0), (67, .iconst 0), (68, .putfield 44), (71, .aload_n 0), (72, .iconst 5), (73, .newarray .int), (75, .putfield 47), (78, .aload_n 0), (79, .bipush 80), (81, .newarray .int), (83, .putfield 50), (86, .return_)]
set_option maxRecDepth 100000 in
theorem kD_Ch_init : ∀ q ∈ kC_Ch_init, decode prog_3_method_1_code q.1 = .ok (q.2, pm_len q.1 q.2) := by decide +kernel
def kX_Ch_init (base : Nat) (sa : Nat → Nat) : pmX := (pm_look kC_Ch_init, kfld kF_Ch true, kmk kM_Ch, kci kI_Ch, kli kJ_Ch, kar kA_Ch, pm_look [(5, (1, 1, pm_oi))], kst (kS_Ch sa), ktx sa kE_Ch, 1, none)
def kP_Ch_init (base : Nat) (sa : Nat → Nat) : pmT := pm_mt kcl base (kX_Ch_init base sa)
set_option maxRecDepth 100000 in
theorem kW_Ch_init (l : Launch) (D : va_G) (base : Nat) (sa : Nat → Nat) : pm_Met l D kcl base (kZ sa) ⟨"RoutingField$Chain", "<init>", "()V"⟩ (.code ⟨"RoutingField$Chain", "<init>", "()V"⟩ prog_3_method_1_code 1 none :: pw_T) 1 20 (kP_Ch_init base sa) := by
  refine pm_met (by decide) rfl rfl ?_
  intro mc ms p e s m args below meth c hx hb hml hown hnm hts hbs hZ
  have ht : ∀ w ∈ pw_T, w.before args s = true := fun w h => hts w (List.mem_cons_of_mem _ h)
  exact ⟨hx, hb, hown, hbs, pm_look_all kD_Ch_init, kf_ok ht hZ kF_Ch_ok (fun _ => hnm), km_ok ht kM_Ch_ok, kci_ok ht kI_Ch_ok, kli_ok ht kJ_Ch_ok, kar_ok ht hZ kA_Ch_ok,
    pm_look_all (List.forall_mem_cons.mpr ⟨pm_cokO hx hb hml hown (ht _ (pw_in 294 (by decide +kernel) rfl)) (ht _ (pw_in 31 (by decide +kernel) rfl)) (ht _ (pw_in 32 rfl rfl)) (by decide) (by decide), fun _ h => absurd h List.not_mem_nil⟩),
    hZ, kst_ok ht hZ (kS_Ch_ok sa), knar_ok ht, ktx_ok (kE_Ch_ok sa)⟩
def kC_Re_init : List (Nat × Instr) := [(0, .aload_n 0), (1, .invokespecial 3), (4, .aload_n 0), (5, .bipush 24), (7, .newarray .int), (9, .putfield 9), (12, .aload_n 0), (13, .bipush 24), (15, .newarray .int), (17, .putfield 15), (20, .aload_n 0), (21, .iconst 0), (22, .putfield 18), (25, .aload_n 0), (26, .iconst 0), (27, .putfield 22), (30, .aload_n 0), (31, .iconst 0), (32, .putfield 25), (35, .aload_n 0), (36, .new 28), (39, .dup), (40, .invokespecial 30), (43, .putfield 31), (46, .aload_n 0), (47, .bipush 16), (49, .newarray .byte), (51, .putfield 37), (54, .aload_n 0), (55, .iconst (-1)), (56, .putfield 41), (59, .aload_n 0), (60, .iconst (-1)), (61, .putfield 44), (64, .aload_n 0), (65, .iconst 0), (66, .putfield 47), (69, .aload_n 0), (70, .new 35), (73, .dup), (74, .invokespecial 51), (77, .putfield 52), (80, .aload_n 0), (81, .aload_n 1), (82, .putfield 56), (85, .return_)]
set_option maxRecDepth 100000 in
theorem kD_Re_init : ∀ q ∈ kC_Re_init, decode prog_9_method_1_code q.1 = .ok (q.2, pm_len q.1 q.2) := by decide +kernel
def kX_Re_init (base : Nat) (sa : Nat → Nat) : pmX := (pm_look kC_Re_init, kfld kF_Re true, kmk kM_Re, kci kI_Re, kli kJ_Re, kar kA_Re, pm_look [(3, (1, 1, pm_oi)), (30, (1, 1, pm_rcv 5 (kP_Pr_init base sa))), (51, (1, 1, pm_rcv 1 (kP_Ch_init base sa)))], kst (kS_Re sa), ktx sa kE_Re, 2, none)
def kP_Re_init (base : Nat) (sa : Nat → Nat) : pmT := pm_mt kcl base (kX_Re_init base sa)
set_option maxRecDepth 100000 in
theorem kW_Re_init (l : Launch) (D : va_G) (base : Nat) (sa : Nat → Nat) : pm_Met l D kcl base (kZ sa) ⟨"RoutingField$Reader", "<init>", "(LRoutingField;)V"⟩ (.code ⟨"RoutingField$Reader", "<init>", "(LRoutingField;)V"⟩ prog_9_method_1_code 2 none :: pw_T) 2 40 (kP_Re_init base sa) := by
  refine pm_met (by decide) rfl rfl ?_
  intro mc ms p e s m args below meth c hx hb hml hown hnm hts hbs hZ
  have ht : ∀ w ∈ pw_T, w.before args s = true := fun w h => hts w (List.mem_cons_of_mem _ h)
  exact ⟨hx, hb, hown, hbs, pm_look_all kD_Re_init, kf_ok ht hZ kF_Re_ok (fun _ => hnm), km_ok ht kM_Re_ok, kci_ok ht kI_Re_ok, kli_ok ht kJ_Re_ok, kar_ok ht hZ kA_Re_ok,
    pm_look_all (List.forall_mem_cons.mpr ⟨pm_cokO hx hb hml hown (ht _ (pw_in 286 (by decide +kernel) rfl)) (ht _ (pw_in 31 (by decide +kernel) rfl)) (ht _ (pw_in 32 rfl rfl)) (by decide) (by decide), List.forall_mem_cons.mpr ⟨pm_cokI hbs hZ ⟨hx, hb, hml, hown, hts⟩ (kW_Pr_init l D base sa) (fun mc ms => cwI 0 hts (pw_gC (pw_in 72 rfl rfl)) rfl rfl rfl (ht _ (pw_in 4 (by decide +kernel) rfl)) (ht _ (pw_in 288 (by decide +kernel) rfl)) (ht _ (pw_in 71 (by decide +kernel) rfl)) rfl (by decide +kernel) ⟨by decide, by decide⟩), List.forall_mem_cons.mpr ⟨pm_cokI hbs hZ ⟨hx, hb, hml, hown, hts⟩ (kW_Ch_init l D base sa) (fun mc ms => cwI 0 hts (pw_gC (pw_in 293 rfl rfl)) rfl rfl rfl (ht _ (pw_in 8 (by decide +kernel) rfl)) (ht _ (pw_in 291 (by decide +kernel) rfl)) (ht _ (pw_in 292 (by decide +kernel) rfl)) rfl (by decide +kernel) ⟨by decide, by decide⟩), fun _ h => absurd h List.not_mem_nil⟩⟩⟩),
    hZ, kst_ok ht hZ (kS_Re_ok sa), knar_ok ht, ktx_ok (kE_Re_ok sa)⟩
def kC_By_at : List (Nat × Instr) := [(0, .iload_n 1), (1, .ifCond .lt 11), (4, .iload_n 1), (5, .aload_n 0), (6, .getfield 15), (9, .if_icmp .lt 7), (12, .iconst (-1)), (13, .goto 13), (16, .aload_n 0), (17, .getfield 9), (20, .iload_n 1), (21, .baload), (22, .sipush 255), (25, .iand), (26, .ireturn)]
set_option maxRecDepth 100000 in
theorem kD_By_at : ∀ q ∈ kC_By_at, decode prog_2_method_3_code q.1 = .ok (q.2, pm_len q.1 q.2) := by decide +kernel
def kX_By_at (base : Nat) (sa : Nat → Nat) : pmX := (pm_look kC_By_at, kfld kF_By false, kmk kM_By, kci kI_By, kli kJ_By, kar kA_By, pm_look [], kst (kS_By sa), ktx sa kE_By, 2, (some .int))
def kP_By_at (base : Nat) (sa : Nat → Nat) : pmT := pm_mt kcl base (kX_By_at base sa)
set_option maxRecDepth 100000 in
theorem kW_By_at (l : Launch) (D : va_G) (base : Nat) (sa : Nat → Nat) : pm_Met l D kcl base (kZ sa) ⟨"RoutingField$Bytes", "at", "(I)I"⟩ (.code ⟨"RoutingField$Bytes", "at", "(I)I"⟩ prog_2_method_3_code 2 (some .int) :: pw_T) 0 0 (kP_By_at base sa) := by
  refine pm_met (by decide) rfl rfl ?_
  intro mc ms p e s m args below meth c hx hb hml hown hnm hts hbs hZ
  have ht : ∀ w ∈ pw_T, w.before args s = true := fun w h => hts w (List.mem_cons_of_mem _ h)
  exact ⟨hx, hb, hown, hbs, pm_look_all kD_By_at, kf_ok ht hZ kF_By_ok (fun h => by cases h), km_ok ht kM_By_ok, kci_ok ht kI_By_ok, kli_ok ht kJ_By_ok, kar_ok ht hZ kA_By_ok,
    pm_look_all (fun _ h => absurd h List.not_mem_nil),
    hZ, kst_ok ht hZ (kS_By_ok sa), knar_ok ht, ktx_ok (kE_By_ok sa)⟩
def kC_Re_parse_0 : List (Nat × Instr) := [(0, .aload_n 0), (1, .iconst 0), (2, .putfield 18), (5, .iconst 0), (6, .istore_n 3), (7, .iload_n 1), (8, .istore 4), (10, .iload 4), (12, .iload_n 2), (13, .if_icmp .ge 124), (16, .aload_n 0), (17, .getfield 56), (20, .getfield 64), (23, .iload 4), (25, .invokevirtual 68), (28, .istore 5), (30, .iload 5), (32, .bipush 32), (34, .if_icmp .eq 10), (37, .iload 5), (39, .bipush 9), (41, .if_icmp .ne 7), (44, .iconst 1), (45, .goto 4), (48, .iconst 0), (49, .istore 6), (51, .iload 6), (53, .ifCond .ne 39), (56, .iload_n 3), (57, .ifCond .ne 35), (60, .aload_n 0), (61, .dup), (62, .getfield 18), (65, .iconst 1), (66, .iadd), (67, .putfield 18), (70, .aload_n 0), (71, .getfield 18), (74, .bipush 24), (76, .if_icmp .gt 16), (79, .aload_n 0), (80, .getfield 9), (83, .aload_n 0), (84, .getfield 18), (87, .iconst 1), (88, .isub), (89, .iload 4), (91, .iastore), (92, .iload 6), (94, .ifCond .ne 7)]
set_option maxRecDepth 100000 in
theorem kD_Re_parse_0 : ∀ q ∈ kC_Re_parse_0, decode prog_9_method_3_code q.1 = .ok (q.2, pm_len q.1 q.2) := by decide +kernel
def kC_Re_parse_1 : List (Nat × Instr) := [(97, .iconst 1), (98, .goto 4), (101, .iconst 0), (102, .istore_n 3), (103, .iload_n 3), (104, .ifCond .eq 27), (107, .aload_n 0), (108, .getfield 18), (111, .bipush 24), (113, .if_icmp .gt 18), (116, .aload_n 0), (117, .getfield 15), (120, .aload_n 0), (121, .getfield 18), (124, .iconst 1), (125, .isub), (126, .iload 4), (128, .iconst 1), (129, .iadd), (130, .iastore), (131, .iinc 4 1), (134, .goto (-124)), (137, .return_)]
set_option maxRecDepth 100000 in
theorem kD_Re_parse_1 : ∀ q ∈ kC_Re_parse_1, decode prog_9_method_3_code q.1 = .ok (q.2, pm_len q.1 q.2) := by decide +kernel
def kC_Re_parse : List (Nat × Instr) := kC_Re_parse_0 ++ (kC_Re_parse_1)
theorem kD_Re_parse : ∀ q ∈ kC_Re_parse, decode prog_9_method_3_code q.1 = .ok (q.2, pm_len q.1 q.2) := List.forall_mem_append.mpr ⟨kD_Re_parse_0, kD_Re_parse_1⟩
def kX_Re_parse (base : Nat) (sa : Nat → Nat) : pmX := (pm_look kC_Re_parse, kfld kF_Re false, kmk kM_Re, kci kI_Re, kli kJ_Re, kar kA_Re, pm_look [(68, (0, 2, pm_rcv 0 (kP_By_at base sa)))], kst (kS_Re sa), ktx sa kE_Re, 7, none)
def kP_Re_parse (base : Nat) (sa : Nat → Nat) : pmT := pm_mt kcl base (kX_Re_parse base sa)
set_option maxRecDepth 100000 in
theorem kW_Re_parse (l : Launch) (D : va_G) (base : Nat) (sa : Nat → Nat) : pm_Met l D kcl base (kZ sa) ⟨"RoutingField$Reader", "parse", "(II)V"⟩ (.code ⟨"RoutingField$Reader", "parse", "(II)V"⟩ prog_9_method_3_code 7 none :: pw_T) 1 21 (kP_Re_parse base sa) := by
  refine pm_met (by decide) rfl rfl ?_
  intro mc ms p e s m args below meth c hx hb hml hown hnm hts hbs hZ
  have ht : ∀ w ∈ pw_T, w.before args s = true := fun w h => hts w (List.mem_cons_of_mem _ h)
  exact ⟨hx, hb, hown, hbs, pm_look_all kD_Re_parse, kf_ok ht hZ kF_Re_ok (fun h => by cases h), km_ok ht kM_Re_ok, kci_ok ht kI_Re_ok, kli_ok ht kJ_Re_ok, kar_ok ht hZ kA_Re_ok,
    pm_look_all (List.forall_mem_cons.mpr ⟨pm_cokV hbs hZ ⟨hx, hb, hml, hown, hts⟩ (kW_By_at l D base sa) (fun mc ms => cwV 1 hts (pw_gV (pw_in 396 (by decide +kernel) rfl) (pw_in 385 (by decide +kernel) rfl) (pw_in 386 (by decide +kernel) rfl) (pw_in 2 (by decide +kernel) rfl) (pw_in 387 rfl rfl)) rfl rfl rfl (by decide +kernel) ⟨by decide, by decide⟩) (ci := 0) rfl, fun _ h => absurd h List.not_mem_nil⟩),
    hZ, kst_ok ht hZ (kS_Re_ok sa), knar_ok ht, ktx_ok (kE_Re_ok sa)⟩
def kC_Re_isWord : List (Nat × Instr) := [(0, .iload_n 1), (1, .ifCond .lt 21), (4, .iload_n 1), (5, .aload_n 0), (6, .getfield 18), (9, .if_icmp .ge 13), (12, .iload_n 1), (13, .bipush 24), (15, .if_icmp .ge 7), (18, .iconst 1), (19, .goto 4), (22, .iconst 0), (23, .ireturn)]
set_option maxRecDepth 100000 in
theorem kD_Re_isWord : ∀ q ∈ kC_Re_isWord, decode prog_9_method_4_code q.1 = .ok (q.2, pm_len q.1 q.2) := by decide +kernel
def kX_Re_isWord (base : Nat) (sa : Nat → Nat) : pmX := (pm_look kC_Re_isWord, kfld kF_Re false, kmk kM_Re, kci kI_Re, kli kJ_Re, kar kA_Re, pm_look [], kst (kS_Re sa), ktx sa kE_Re, 2, (some .boolean))
def kP_Re_isWord (base : Nat) (sa : Nat → Nat) : pmT := pm_mt kcl base (kX_Re_isWord base sa)
set_option maxRecDepth 100000 in
theorem kW_Re_isWord (l : Launch) (D : va_G) (base : Nat) (sa : Nat → Nat) : pm_Met l D kcl base (kZ sa) ⟨"RoutingField$Reader", "isWord", "(I)Z"⟩ (.code ⟨"RoutingField$Reader", "isWord", "(I)Z"⟩ prog_9_method_4_code 2 (some .boolean) :: pw_T) 0 0 (kP_Re_isWord base sa) := by
  refine pm_met (by decide) rfl rfl ?_
  intro mc ms p e s m args below meth c hx hb hml hown hnm hts hbs hZ
  have ht : ∀ w ∈ pw_T, w.before args s = true := fun w h => hts w (List.mem_cons_of_mem _ h)
  exact ⟨hx, hb, hown, hbs, pm_look_all kD_Re_isWord, kf_ok ht hZ kF_Re_ok (fun h => by cases h), km_ok ht kM_Re_ok, kci_ok ht kI_Re_ok, kli_ok ht kJ_Re_ok, kar_ok ht hZ kA_Re_ok,
    pm_look_all (fun _ h => absurd h List.not_mem_nil),
    hZ, kst_ok ht hZ (kS_Re_ok sa), knar_ok ht, ktx_ok (kE_Re_ok sa)⟩
def kC_St_length : List (Nat × Instr) := [(0, .aload_n 0), (1, .getfield 9), (4, .arraylength), (5, .aload_n 0), (6, .invokevirtual 315), (9, .ishr), (10, .ireturn)]
set_option maxRecDepth 100000 in
theorem kD_St_length : ∀ q ∈ kC_St_length, decode prog_19_method_54_code q.1 = .ok (q.2, pm_len q.1 q.2) := by decide +kernel
def kX_St_length (base : Nat) (sa : Nat → Nat) : pmX := (pm_look kC_St_length, kfld kF_St false, kmk kM_St, kci kI_St, kli kJ_St, kar kA_St, pm_look [], kst (kS_St sa), ktx sa kE_St, 1, (some .int))
def kP_St_length (base : Nat) (sa : Nat → Nat) : pmT := pm_mt kcl base (kX_St_length base sa)
set_option maxRecDepth 100000 in
theorem kW_St_length (l : Launch) (D : va_G) (base : Nat) (sa : Nat → Nat) : pm_Met l D kcl base (kZ sa) ⟨"java/lang/String", "length", "()I"⟩ (.code ⟨"java/lang/String", "length", "()I"⟩ prog_19_method_54_code 1 (some .int) :: pw_T) 0 0 (kP_St_length base sa) := by
  refine pm_met (by decide) rfl rfl ?_
  intro mc ms p e s m args below meth c hx hb hml hown hnm hts hbs hZ
  have ht : ∀ w ∈ pw_T, w.before args s = true := fun w h => hts w (List.mem_cons_of_mem _ h)
  exact ⟨hx, hb, hown, hbs, pm_look_all kD_St_length, kf_ok ht hZ kF_St_ok (fun h => by cases h), km_ok ht kM_St_ok, kci_ok ht kI_St_ok, kli_ok ht kJ_St_ok, kar_ok ht hZ kA_St_ok,
    pm_look_all (fun _ h => absurd h List.not_mem_nil),
    hZ, kst_ok ht hZ (kS_St_ok sa), knar_ok ht, ktx_ok (kE_St_ok sa)⟩
def kC_St_charAt : List (Nat × Instr) := [(0, .aload_n 0), (1, .invokevirtual 469), (4, .ifCond .eq 12), (7, .aload_n 0), (8, .getfield 9), (11, .iload_n 1), (12, .invokestatic 472), (15, .ireturn), (16, .aload_n 0), (17, .getfield 9), (20, .iload_n 1), (21, .invokestatic 475), (24, .ireturn)]
set_option maxRecDepth 100000 in
theorem kD_St_charAt : ∀ q ∈ kC_St_charAt, decode prog_19_method_56_code q.1 = .ok (q.2, pm_len q.1 q.2) := by decide +kernel
def kX_St_charAt (base : Nat) (sa : Nat → Nat) : pmX := (pm_look kC_St_charAt, kfld kF_St false, kmk kM_St, kci kI_St, kli kJ_St, kar kA_St, pm_look [], kst (kS_St sa), ktx sa kE_St, 2, (some .char))
def kP_St_charAt (base : Nat) (sa : Nat → Nat) : pmT := pm_mt kcl base (kX_St_charAt base sa)
set_option maxRecDepth 100000 in
theorem kW_St_charAt (l : Launch) (D : va_G) (base : Nat) (sa : Nat → Nat) : pm_Met l D kcl base (kZ sa) ⟨"java/lang/String", "charAt", "(I)C"⟩ (.code ⟨"java/lang/String", "charAt", "(I)C"⟩ prog_19_method_56_code 2 (some .char) :: pw_T) 0 0 (kP_St_charAt base sa) := by
  refine pm_met (by decide) rfl rfl ?_
  intro mc ms p e s m args below meth c hx hb hml hown hnm hts hbs hZ
  have ht : ∀ w ∈ pw_T, w.before args s = true := fun w h => hts w (List.mem_cons_of_mem _ h)
  exact ⟨hx, hb, hown, hbs, pm_look_all kD_St_charAt, kf_ok ht hZ kF_St_ok (fun h => by cases h), km_ok ht kM_St_ok, kci_ok ht kI_St_ok, kli_ok ht kJ_St_ok, kar_ok ht hZ kA_St_ok,
    pm_look_all (fun _ h => absurd h List.not_mem_nil),
    hZ, kst_ok ht hZ (kS_St_ok sa), knar_ok ht, ktx_ok (kE_St_ok sa)⟩
def kC_Re_is : List (Nat × Instr) := [(0, .aload_n 0), (1, .iload_n 1), (2, .invokevirtual 159), (5, .ifCond .eq 23), (8, .aload_n 0), (9, .getfield 15), (12, .iload_n 1), (13, .iaload), (14, .aload_n 0), (15, .getfield 9), (18, .iload_n 1), (19, .iaload), (20, .isub), (21, .aload_n 2), (22, .invokevirtual 163), (25, .if_icmp .eq 5), (28, .iconst 0), (29, .ireturn), (30, .iconst 0), (31, .istore_n 3), (32, .iload_n 3), (33, .aload_n 2), (34, .invokevirtual 163), (37, .if_icmp .ge 37), (40, .aload_n 0), (41, .getfield 56), (44, .getfield 64), (47, .aload_n 0), (48, .getfield 9), (51, .iload_n 1), (52, .iaload), (53, .iload_n 3), (54, .iadd), (55, .invokevirtual 68), (58, .aload_n 2), (59, .iload_n 3), (60, .invokevirtual 168), (63, .if_icmp .eq 5), (66, .iconst 0), (67, .ireturn), (68, .iinc 3 1), (71, .goto (-39)), (74, .iconst 1), (75, .ireturn)]
set_option maxRecDepth 100000 in
theorem kD_Re_is : ∀ q ∈ kC_Re_is, decode prog_9_method_5_code q.1 = .ok (q.2, pm_len q.1 q.2) := by decide +kernel
def kX_Re_is (base : Nat) (sa : Nat → Nat) : pmX := (pm_look kC_Re_is, kfld kF_Re false, kmk kM_Re, kci kI_Re, kli kJ_Re, kar kA_Re, pm_look [(159, (0, 2, pm_rcv 7 (kP_Re_isWord base sa))), (163, (0, 1, pm_rcv 13 (kP_St_length base sa))), (68, (0, 2, pm_rcv 0 (kP_By_at base sa))), (168, (0, 2, pm_rcv 13 (kP_St_charAt base sa)))], kst (kS_Re sa), ktx sa kE_Re, 4, (some .boolean))
def kP_Re_is (base : Nat) (sa : Nat → Nat) : pmT := pm_mt kcl base (kX_Re_is base sa)
set_option maxRecDepth 100000 in
theorem kW_Re_is (l : Launch) (D : va_G) (base : Nat) (sa : Nat → Nat) : pm_Met l D kcl base (kZ sa) ⟨"RoutingField$Reader", "is", "(ILjava/lang/String;)Z"⟩ (.code ⟨"RoutingField$Reader", "is", "(ILjava/lang/String;)Z"⟩ prog_9_method_5_code 4 (some .boolean) :: pw_T) 1 21 (kP_Re_is base sa) := by
  refine pm_met (by decide) rfl rfl ?_
  intro mc ms p e s m args below meth c hx hb hml hown hnm hts hbs hZ
  have ht : ∀ w ∈ pw_T, w.before args s = true := fun w h => hts w (List.mem_cons_of_mem _ h)
  exact ⟨hx, hb, hown, hbs, pm_look_all kD_Re_is, kf_ok ht hZ kF_Re_ok (fun h => by cases h), km_ok ht kM_Re_ok, kci_ok ht kI_Re_ok, kli_ok ht kJ_Re_ok, kar_ok ht hZ kA_Re_ok,
    pm_look_all (List.forall_mem_cons.mpr ⟨pm_cokV hbs hZ ⟨hx, hb, hml, hown, hts⟩ (kW_Re_isWord l D base sa) (fun mc ms => cwV 1 hts (pw_gV (pw_in 402 (by decide +kernel) rfl) (pw_in 404 (by decide +kernel) rfl) (pw_sel 2 (q := (⟨"RoutingField$Reader", "isWord", "(I)Z"⟩, 12)) (by decide +kernel)) (pw_in 7 (by decide +kernel) rfl) (pw_in 405 rfl rfl)) rfl rfl rfl (by decide +kernel) ⟨by decide, by decide⟩) (ci := 7) rfl, List.forall_mem_cons.mpr ⟨pm_cokV hbs hZ ⟨hx, hb, hml, hown, hts⟩ (kW_St_length l D base sa) (fun mc ms => cwV 0 hts (pw_gV (pw_in 406 (by decide +kernel) rfl) (pw_in 407 (by decide +kernel) rfl) (pw_in 408 (by decide +kernel) rfl) (pw_in 9 (by decide +kernel) rfl) (pw_in 409 rfl rfl)) rfl rfl rfl (by decide +kernel) ⟨by decide, by decide⟩) (ci := 13) rfl, List.forall_mem_cons.mpr ⟨pm_cokV hbs hZ ⟨hx, hb, hml, hown, hts⟩ (kW_By_at l D base sa) (fun mc ms => cwV 1 hts (pw_gV (pw_in 396 (by decide +kernel) rfl) (pw_in 385 (by decide +kernel) rfl) (pw_in 386 (by decide +kernel) rfl) (pw_in 2 (by decide +kernel) rfl) (pw_in 387 rfl rfl)) rfl rfl rfl (by decide +kernel) ⟨by decide, by decide⟩) (ci := 0) rfl, List.forall_mem_cons.mpr ⟨pm_cokV hbs hZ ⟨hx, hb, hml, hown, hts⟩ (kW_St_charAt l D base sa) (fun mc ms => cwV 1 hts (pw_gV (pw_in 416 (by decide +kernel) rfl) (pw_in 417 (by decide +kernel) rfl) (pw_in 418 (by decide +kernel) rfl) (pw_in 9 (by decide +kernel) rfl) (pw_in 419 rfl rfl)) rfl rfl rfl (by decide +kernel) ⟨by decide, by decide⟩) (ci := 13) rfl, fun _ h => absurd h List.not_mem_nil⟩⟩⟩⟩),
    hZ, kst_ok ht hZ (kS_Re_ok sa), knar_ok ht, ktx_ok (kE_Re_ok sa)⟩
def kC_Re_hasOptions_0 : List (Nat × Instr) := [(0, .aload_n 0), (1, .iconst 0), (2, .putfield 22), (5, .aload_n 0), (6, .iconst 0), (7, .putfield 25), (10, .aload_n 0), (11, .getfield 18), (14, .iload_n 1), (15, .if_icmp .lt 24), (18, .aload_n 0), (19, .getfield 18), (22, .iload_n 1), (23, .iconst 4), (24, .iadd), (25, .if_icmp .gt 14), (28, .aload_n 0), (29, .getfield 18), (32, .iload_n 1), (33, .isub), (34, .iconst 2), (35, .irem), (36, .ifCond .eq 5), (39, .iconst 0), (40, .ireturn), (41, .iload_n 1), (42, .istore 4), (44, .iload 4), (46, .aload_n 0), (47, .getfield 18), (50, .if_icmp .ge 67), (53, .aload_n 0), (54, .iload 4), (56, .aload_n 2), (57, .invokevirtual 76), (60, .ifCond .eq 21), (63, .aload_n 0), (64, .getfield 22), (67, .ifCond .ne 14), (70, .aload_n 0), (71, .iload 4), (73, .iconst 1), (74, .iadd), (75, .putfield 22), (78, .goto 33), (81, .aload_n 0), (82, .iload 4), (84, .aload_n 3), (85, .invokevirtual 76), (88, .ifCond .eq 21)]
set_option maxRecDepth 100000 in
theorem kD_Re_hasOptions_0 : ∀ q ∈ kC_Re_hasOptions_0, decode prog_9_method_16_code q.1 = .ok (q.2, pm_len q.1 q.2) := by decide +kernel
def kC_Re_hasOptions_1 : List (Nat × Instr) := [(91, .aload_n 0), (92, .getfield 25), (95, .ifCond .ne 14), (98, .aload_n 0), (99, .iload 4), (101, .iconst 1), (102, .iadd), (103, .putfield 25), (106, .goto 5), (109, .iconst 0), (110, .ireturn), (111, .iinc 4 2), (114, .goto (-70)), (117, .iconst 1), (118, .ireturn)]
set_option maxRecDepth 100000 in
theorem kD_Re_hasOptions_1 : ∀ q ∈ kC_Re_hasOptions_1, decode prog_9_method_16_code q.1 = .ok (q.2, pm_len q.1 q.2) := by decide +kernel
def kC_Re_hasOptions : List (Nat × Instr) := kC_Re_hasOptions_0 ++ (kC_Re_hasOptions_1)
theorem kD_Re_hasOptions : ∀ q ∈ kC_Re_hasOptions, decode prog_9_method_16_code q.1 = .ok (q.2, pm_len q.1 q.2) := List.forall_mem_append.mpr ⟨kD_Re_hasOptions_0, kD_Re_hasOptions_1⟩
def kX_Re_hasOptions (base : Nat) (sa : Nat → Nat) : pmX := (pm_look kC_Re_hasOptions, kfld kF_Re false, kmk kM_Re, kci kI_Re, kli kJ_Re, kar kA_Re, pm_look [(76, (0, 3, pm_rcv 7 (kP_Re_is base sa)))], kst (kS_Re sa), ktx sa kE_Re, 5, (some .boolean))
def kP_Re_hasOptions (base : Nat) (sa : Nat → Nat) : pmT := pm_mt kcl base (kX_Re_hasOptions base sa)
set_option maxRecDepth 100000 in
theorem kW_Re_hasOptions (l : Launch) (D : va_G) (base : Nat) (sa : Nat → Nat) : pm_Met l D kcl base (kZ sa) ⟨"RoutingField$Reader", "hasOptions", "(ILjava/lang/String;Ljava/lang/String;)Z"⟩ (.code ⟨"RoutingField$Reader", "hasOptions", "(ILjava/lang/String;Ljava/lang/String;)Z"⟩ prog_9_method_16_code 5 (some .boolean) :: pw_T) 2 44 (kP_Re_hasOptions base sa) := by
  refine pm_met (by decide) rfl rfl ?_
  intro mc ms p e s m args below meth c hx hb hml hown hnm hts hbs hZ
  have ht : ∀ w ∈ pw_T, w.before args s = true := fun w h => hts w (List.mem_cons_of_mem _ h)
  exact ⟨hx, hb, hown, hbs, pm_look_all kD_Re_hasOptions, kf_ok ht hZ kF_Re_ok (fun h => by cases h), km_ok ht kM_Re_ok, kci_ok ht kI_Re_ok, kli_ok ht kJ_Re_ok, kar_ok ht hZ kA_Re_ok,
    pm_look_all (List.forall_mem_cons.mpr ⟨pm_cokV hbs hZ ⟨hx, hb, hml, hown, hts⟩ (kW_Re_is l D base sa) (fun mc ms => cwV 2 hts (pw_gV (pw_in 398 (by decide +kernel) rfl) (pw_in 400 (by decide +kernel) rfl) (pw_sel 1 (q := (⟨"RoutingField$Reader", "is", "(ILjava/lang/String;)Z"⟩, 12)) (by decide +kernel)) (pw_in 7 (by decide +kernel) rfl) (pw_in 401 rfl rfl)) rfl rfl rfl (by decide +kernel) ⟨by decide, by decide⟩) (ci := 7) rfl, fun _ h => absurd h List.not_mem_nil⟩),
    hZ, kst_ok ht hZ (kS_Re_ok sa), knar_ok ht, ktx_ok (kE_Re_ok sa)⟩
def kC_Re_isName : List (Nat × Instr) := [(0, .aload_n 0), (1, .iload_n 1), (2, .invokevirtual 159), (5, .ifCond .eq 21), (8, .aload_n 0), (9, .getfield 15), (12, .iload_n 1), (13, .iaload), (14, .aload_n 0), (15, .getfield 9), (18, .iload_n 1), (19, .iaload), (20, .isub), (21, .bipush 12), (23, .if_icmp .le 5), (26, .iconst 0), (27, .ireturn), (28, .aload_n 0), (29, .getfield 9), (32, .iload_n 1), (33, .iaload), (34, .istore_n 2), (35, .iload_n 2), (36, .aload_n 0), (37, .getfield 15), (40, .iload_n 1), (41, .iaload), (42, .if_icmp .ge 47), (45, .aload_n 0), (46, .getfield 56), (49, .getfield 64), (52, .iload_n 2), (53, .invokevirtual 68), (56, .istore_n 3), (57, .iload_n 3), (58, .bipush 97), (60, .if_icmp .lt 9), (63, .iload_n 3), (64, .bipush 122), (66, .if_icmp .le 17), (69, .iload_n 3), (70, .bipush 48), (72, .if_icmp .lt 9), (75, .iload_n 3), (76, .bipush 57), (78, .if_icmp .le 5), (81, .iconst 0), (82, .ireturn), (83, .iinc 2 1), (86, .goto (-51)), (89, .iconst 1), (90, .ireturn)]
set_option maxRecDepth 100000 in
theorem kD_Re_isName : ∀ q ∈ kC_Re_isName, decode prog_9_method_6_code q.1 = .ok (q.2, pm_len q.1 q.2) := by decide +kernel
def kX_Re_isName (base : Nat) (sa : Nat → Nat) : pmX := (pm_look kC_Re_isName, kfld kF_Re false, kmk kM_Re, kci kI_Re, kli kJ_Re, kar kA_Re, pm_look [(159, (0, 2, pm_rcv 7 (kP_Re_isWord base sa))), (68, (0, 2, pm_rcv 0 (kP_By_at base sa)))], kst (kS_Re sa), ktx sa kE_Re, 4, (some .boolean))
def kP_Re_isName (base : Nat) (sa : Nat → Nat) : pmT := pm_mt kcl base (kX_Re_isName base sa)
set_option maxRecDepth 100000 in
theorem kW_Re_isName (l : Launch) (D : va_G) (base : Nat) (sa : Nat → Nat) : pm_Met l D kcl base (kZ sa) ⟨"RoutingField$Reader", "isName", "(I)Z"⟩ (.code ⟨"RoutingField$Reader", "isName", "(I)Z"⟩ prog_9_method_6_code 4 (some .boolean) :: pw_T) 1 21 (kP_Re_isName base sa) := by
  refine pm_met (by decide) rfl rfl ?_
  intro mc ms p e s m args below meth c hx hb hml hown hnm hts hbs hZ
  have ht : ∀ w ∈ pw_T, w.before args s = true := fun w h => hts w (List.mem_cons_of_mem _ h)
  exact ⟨hx, hb, hown, hbs, pm_look_all kD_Re_isName, kf_ok ht hZ kF_Re_ok (fun h => by cases h), km_ok ht kM_Re_ok, kci_ok ht kI_Re_ok, kli_ok ht kJ_Re_ok, kar_ok ht hZ kA_Re_ok,
    pm_look_all (List.forall_mem_cons.mpr ⟨pm_cokV hbs hZ ⟨hx, hb, hml, hown, hts⟩ (kW_Re_isWord l D base sa) (fun mc ms => cwV 1 hts (pw_gV (pw_in 402 (by decide +kernel) rfl) (pw_in 404 (by decide +kernel) rfl) (pw_sel 2 (q := (⟨"RoutingField$Reader", "isWord", "(I)Z"⟩, 12)) (by decide +kernel)) (pw_in 7 (by decide +kernel) rfl) (pw_in 405 rfl rfl)) rfl rfl rfl (by decide +kernel) ⟨by decide, by decide⟩) (ci := 7) rfl, List.forall_mem_cons.mpr ⟨pm_cokV hbs hZ ⟨hx, hb, hml, hown, hts⟩ (kW_By_at l D base sa) (fun mc ms => cwV 1 hts (pw_gV (pw_in 396 (by decide +kernel) rfl) (pw_in 385 (by decide +kernel) rfl) (pw_in 386 (by decide +kernel) rfl) (pw_in 2 (by decide +kernel) rfl) (pw_in 387 rfl rfl)) rfl rfl rfl (by decide +kernel) ⟨by decide, by decide⟩) (ci := 0) rfl, fun _ h => absurd h List.not_mem_nil⟩⟩),
    hZ, kst_ok ht hZ (kS_Re_ok sa), knar_ok ht, ktx_ok (kE_Re_ok sa)⟩
def kC_Re_linkNamed : List (Nat × Instr) := [(0, .iconst 0), (1, .istore_n 2), (2, .iload_n 2), (3, .aload_n 0), (4, .getfield 56), (7, .getfield 194), (10, .if_icmp .ge 31), (13, .aload_n 0), (14, .iload_n 1), (15, .aload_n 0), (16, .getfield 56), (19, .getfield 197), (22, .iload_n 2), (23, .aaload), (24, .getfield 201), (27, .invokevirtual 76), (30, .ifCond .eq 5), (33, .iload_n 2), (34, .ireturn), (35, .iinc 2 1), (38, .goto (-36)), (41, .iconst (-1)), (42, .ireturn)]
set_option maxRecDepth 100000 in
theorem kD_Re_linkNamed : ∀ q ∈ kC_Re_linkNamed, decode prog_9_method_11_code q.1 = .ok (q.2, pm_len q.1 q.2) := by decide +kernel
def kX_Re_linkNamed (base : Nat) (sa : Nat → Nat) : pmX := (pm_look kC_Re_linkNamed, kfld kF_Re false, kmk kM_Re, kci kI_Re, kli kJ_Re, kar kA_Re, pm_look [(76, (0, 3, pm_rcv 7 (kP_Re_is base sa)))], kst (kS_Re sa), ktx sa kE_Re, 3, (some .int))
def kP_Re_linkNamed (base : Nat) (sa : Nat → Nat) : pmT := pm_mt kcl base (kX_Re_linkNamed base sa)
set_option maxRecDepth 100000 in
theorem kW_Re_linkNamed (l : Launch) (D : va_G) (base : Nat) (sa : Nat → Nat) : pm_Met l D kcl base (kZ sa) ⟨"RoutingField$Reader", "linkNamed", "(I)I"⟩ (.code ⟨"RoutingField$Reader", "linkNamed", "(I)I"⟩ prog_9_method_11_code 3 (some .int) :: pw_T) 2 44 (kP_Re_linkNamed base sa) := by
  refine pm_met (by decide) rfl rfl ?_
  intro mc ms p e s m args below meth c hx hb hml hown hnm hts hbs hZ
  have ht : ∀ w ∈ pw_T, w.before args s = true := fun w h => hts w (List.mem_cons_of_mem _ h)
  exact ⟨hx, hb, hown, hbs, pm_look_all kD_Re_linkNamed, kf_ok ht hZ kF_Re_ok (fun h => by cases h), km_ok ht kM_Re_ok, kci_ok ht kI_Re_ok, kli_ok ht kJ_Re_ok, kar_ok ht hZ kA_Re_ok,
    pm_look_all (List.forall_mem_cons.mpr ⟨pm_cokV hbs hZ ⟨hx, hb, hml, hown, hts⟩ (kW_Re_is l D base sa) (fun mc ms => cwV 2 hts (pw_gV (pw_in 398 (by decide +kernel) rfl) (pw_in 400 (by decide +kernel) rfl) (pw_sel 1 (q := (⟨"RoutingField$Reader", "is", "(ILjava/lang/String;)Z"⟩, 12)) (by decide +kernel)) (pw_in 7 (by decide +kernel) rfl) (pw_in 401 rfl rfl)) rfl rfl rfl (by decide +kernel) ⟨by decide, by decide⟩) (ci := 7) rfl, fun _ h => absurd h List.not_mem_nil⟩),
    hZ, kst_ok ht hZ (kS_Re_ok sa), knar_ok ht, ktx_ok (kE_Re_ok sa)⟩
