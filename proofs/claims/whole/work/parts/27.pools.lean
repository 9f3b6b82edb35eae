/-! The pools themselves. -/
def kF_Rf : List (Nat × kfE) := [(99, (0, 1, .int, true), 42, false, false), (342, (5, 0, .int, true), 81, false, false), (225, (5, 3, .int, true), 91, false, false), (165, (2, 0, .object "RoutingField$Bytes", false), 106, false, false), (172, (2, 1, .object "RoutingField$Prefix", false), 110, false, false), (187, (2, 3, .boolean, true), 115, false, false), (178, (2, 4, .int, true), 118, false, false), (181, (2, 5, .int, true), 121, false, false), (184, (2, 6, .int, true), 124, false, false), (190, (2, 7, .object "RoutingField$Router", true), 127, false, false), (279, (2, 8, .object "RoutingField$Link", true), 130, false, false), (298, (2, 9, .int, true), 133, false, false), (394, (10, 0, .array (.object "RoutingField$Route"), true), 175, false, false), (261, (10, 1, .int, true), 178, false, false), (14, (11, 0, .object "RoutingField$Bytes", false), 187, false, true), (18, (11, 1, .object "RoutingField$Bytes", true), 189, false, true), (21, (11, 2, .object "RoutingField$Bytes", true), 190, false, true), (24, (11, 3, .object "RoutingField$Reader", true), 191, false, true), (28, (11, 4, .int, true), 192, false, true), (32, (11, 5, .int, true), 193, false, true), (37, (11, 6, .array (.object "RoutingField$Link"), false), 195, false, true), (41, (11, 7, .int, true), 197, false, true), (46, (11, 8, .array (.object "RoutingField$Router"), false), 199, false, true), (50, (11, 9, .int, true), 201, false, true), (55, (11, 10, .array (.object "RoutingField$PrefixList"), false), 203, false, true), (59, (11, 11, .int, true), 206, false, true), (64, (11, 12, .array (.object "RoutingField$Datagram"), false), 208, false, true), (68, (11, 13, .int, true), 209, false, true), (71, (11, 14, .array (.object "RoutingField$Datagram"), false), 210, false, true), (74, (11, 15, .int, true), 211, false, true), (78, (11, 16, .object "RoutingField$Datagram", true), 212, false, true), (85, (11, 17, .object "RoutingField$Table", false), 214, false, true), (92, (11, 18, .object "RoutingField$Prefix", false), 216, false, true), (96, (11, 19, .object "RoutingField$Prefix", false), 218, false, true), (527, (1, 0, .boolean, true), 300, false, false), (532, (1, 1, .array .byte, false), 302, false, false), (539, (1, 2, .int, true), 306, false, false), (542, (1, 3, .array .int, false), 308, false, false), (545, (1, 4, .array .int, false), 310, false, false), (556, (1, 5, .array .int, false), 312, false, false), (559, (1, 6, .array .int, false), 314, false, false), (552, (1, 7, .array (.array .byte), false), 316, false, false), (390, (3, 0, .object "java/lang/String", false), 552, false, false), (287, (3, 1, .int, false), 554, false, false), (295, (3, 2, .int, false), 556, false, false), (162, (3, 3, .int, false), 559, false, false), (136, (3, 4, .boolean, true), 561, false, false), (292, (3, 5, .int, true), 565, false, false), (149, (3, 6, .int, true), 567, false, false), (244, (3, 7, .object "RoutingField$Bytes", false), 569, false, false), (449, (6, 0, .object "java/lang/String", false), 620, false, false), (458, (6, 1, .array (.object "RoutingField$Prefix"), false), 622, false, false), (450, (6, 2, .array .boolean, false), 624, false, false), (462, (6, 3, .array .int, false), 626, false, false), (467, (6, 4, .array .int, false), 628, false, false), (446, (6, 5, .int, true), 630, false, false), (474, (9, 1, .object "java/lang/String", false), 648, false, false), (230, (9, 2, .int, false), 650, false, false), (125, (9, 3, .boolean, true), 652, false, false), (335, (9, 4, .array (.object "RoutingField$Port"), false), 655, false, false), (332, (9, 5, .int, true), 658, false, false), (258, (9, 6, .object "RoutingField$Table", false), 660, false, false), (562, (9, 7, .object "RoutingField$Table", false), 663, false, false), (569, (9, 8, .array (.object "RoutingField$PrefixList"), false), 666, false, false), (495, (9, 9, .array (.array .int), false), 669, false, false), (499, (9, 10, .int, true), 672, false, false), (508, (9, 11, .array (.array .int), false), 675, false, false), (511, (9, 12, .int, true), 678, false, false), (605, (9, 13, .array .int, false), 681, false, false), (608, (9, 14, .array .int, false), 684, false, false), (477, (9, 15, .array .int, false), 686, false, false), (254, (9, 16, .array .int, false), 689, false, false), (339, (4, 0, .object "RoutingField$Link", false), 872, false, false), (347, (4, 3, .int, true), 878, false, false), (405, (4, 4, .int, true), 882, false, false), (422, (4, 5, .boolean, true), 886, false, false), (412, (4, 6, .object "RoutingField$Chain", false), 890, false, false), (584, (4, 7, .array (.object "RoutingField$Prefix"), false), 893, false, false), (579, (4, 8, .int, true), 897, false, false), (592, (4, 11, .array (.object "RoutingField$Prefix"), false), 904, false, false), (587, (4, 12, .int, true), 908, false, false), (595, (4, 13, .int, true), 912, false, false), (600, (4, 14, .boolean, true), 916, false, false), (355, (8, 0, .object "RoutingField$Prefix", false), 1043, false, false), (379, (8, 1, .object "RoutingField$Prefix", false), 1045, false, false), (370, (8, 3, .int, true), 1051, false, false), (364, (8, 4, .int, true), 1055, false, false), (567, (8, 5, .int, true), 1059, false, false), (385, (8, 6, .object "RoutingField$Port", true), 1062, false, false), (429, (8, 7, .boolean, true), 1065, false, false), (426, (8, 10, .int, true), 1072, false, false)]
set_option maxRecDepth 100000 in
theorem kF_Rf_ok : ∀ q ∈ kF_Rf, kf_chk "RoutingField" q = true := by decide +kernel
def kM_Rf : List (Nat × kmE) := [(9, (0, [.null, .int 0]), 33, 34, 2), (35, (3, [.null, .int 0, .int 0, .int 0, .int 0, .int 0, .int 0, .null]), 53, 477, 13), (44, (9, [.null, .null, .int 0, .int 0, .null, .int 0, .null, .null, .null, .null, .int 0, .null, .int 0, .null, .null, .null, .null, .int 0, .int 0, .int 0]), 55, 597, 15), (53, (6, [.null, .null, .null, .null, .null, .int 0]), 57, 609, 16), (62, (2, [.null, .null, .null, .int 0, .int 0, .int 0, .int 0, .null, .null, .int 0, .int 0, .int 0]), 59, 61, 3), (82, (10, [.null, .int 0]), 165, 166, 5), (89, (5, [.int 0, .long 0, .long 0, .int 0]), 185, 69, 4), (106, (7, [.null, .null, .null, .int 0, .int 0, .int 0, .null, .null, .int 0, .int 0, .int 0, .null]), 281, 282, 7), (247, (14, [.null, .null, .null, .null, .null, .int 0]), 1908, 1909, 24)]
set_option maxRecDepth 100000 in
theorem kM_Rf_ok : ∀ q ∈ kM_Rf, km_chk "RoutingField" q = true := by decide +kernel
def kA_Rf : List (Nat × String × Nat × Nat) := [(35, "RoutingField$Link", 53, 54), (44, "RoutingField$Router", 55, 56), (53, "RoutingField$PrefixList", 57, 58), (62, "RoutingField$Datagram", 59, 60), (89, "RoutingField$Prefix", 185, 617)]
set_option maxRecDepth 100000 in
theorem kA_Rf_ok : ∀ q ∈ kA_Rf, tables_1[q.2.2.1]? = some (.classLink "RoutingField" q.1 q.2.1) ∧ q.2.1 ∈ kZ5 := by decide +kernel
def kI_Rf : List (Nat × Int32 × Nat) := [(220, 40000, 1849)]
set_option maxRecDepth 100000 in
theorem kI_Rf_ok : ∀ q ∈ kI_Rf, tables_1[q.2.2]? = some (.constant "RoutingField" q.1 q.2.1) := by decide +kernel
def kJ_Rf : List (Nat × Int64 × Nat) := [(290, 3, 1223)]
set_option maxRecDepth 100000 in
theorem kJ_Rf_ok : ∀ q ∈ kJ_Rf, tables_1[q.2.2]? = some (.constantLong "RoutingField" q.1 q.2.1) := by decide +kernel
def kS_Rf (sa : Nat → Nat) : List (Nat × ksE) := []
def kE_Rf : List (Nat × String × Nat) := [(350, "", 3), (373, "static", 17), (375, "direct", 40), (377, "via", 41), (388, "-", 42), (401, "up", 43), (402, "down", 44), (404, "cost", 6), (433, "off", 12), (435, "simple", 13), (437, "poison", 14), (425, "passive", 11), (432, "changed", 47), (443, "link", 0), (444, "jitter", 1), (445, "mtu", 2), (447, "list", 25), (454, "permit", 23), (456, "deny", 24), (465, "ge", 26), (470, "le", 27), (472, "router", 4), (475, "timers", 38), (520, "join", 5), (526, "split", 7), (530, "password", 8), (540, "key", 15), (548, "md5", 9), (550, "sha", 10), (565, "tag", 18), (572, "filter", 20), (439, "in", 21), (441, "out", 22), (493, "distribute", 28), (577, "*", 29), (506, "offset", 30), (582, "summary", 31), (590, "neighbor", 32), (598, "default", 36), (603, "only", 37), (611, "redistribute", 33), (613, "connected", 34), (615, "own", 35), (249, "no such byte of the text", 48)]
theorem kS_Rf_ok (sa : Nat → Nat) : ∀ q ∈ kS_Rf sa, tables_1[q.2.2.2.1]? = some (kf_link "RoutingField" q.1 q.2.2.2.2 (q.2.1.1, q.2.1.2.1, q.2.1.2.2, false)) ∧ (q.2.2.2.2 = true → ("RoutingField", q.1, q.2.1.1, q.2.1.2.1, q.2.1.2.2, "RoutingField") ∈ kZ3) ∧ (q.2.1.1, q.2.1.2.1, q.2.1.2.2, q.2.2.1) ∈ (kZ sa).1 := fun _ h => absurd h List.not_mem_nil
set_option maxRecDepth 100000 in
theorem kE_Rf_in : ∀ q ∈ kE_Rf, ("RoutingField", q.1, q.2.1, q.2.2) ∈ kZ2 := by decide +kernel
theorem kE_Rf_ok (sa : Nat → Nat) : ∀ q ∈ kE_Rf, ("RoutingField", q.1, q.2.1, sa q.2.2) ∈ (kZ sa).2.1 := fun q hq => List.mem_map.mpr ⟨_, kE_Rf_in q hq, rfl⟩
def kF_By : List (Nat × kfE) := [(9, (0, 0, .array .byte, true), 39, false, true), (15, (0, 1, .int, true), 41, false, true), (67, (5, 0, .int, true), 79, false, false), (73, (5, 1, .long, true), 85, false, false), (64, (5, 3, .int, true), 92, false, false)]
set_option maxRecDepth 100000 in
theorem kF_By_ok : ∀ q ∈ kF_By, kf_chk "RoutingField$Bytes" q = true := by decide +kernel
def kM_By : List (Nat × kmE) := []
set_option maxRecDepth 100000 in
theorem kM_By_ok : ∀ q ∈ kM_By, km_chk "RoutingField$Bytes" q = true := by decide +kernel
def kA_By : List (Nat × String × Nat × Nat) := []
set_option maxRecDepth 100000 in
theorem kA_By_ok : ∀ q ∈ kA_By, tables_1[q.2.2.1]? = some (.classLink "RoutingField$Bytes" q.1 q.2.1) ∧ q.2.1 ∈ kZ5 := by decide +kernel
def kI_By : List (Nat × Int32 × Nat) := []
set_option maxRecDepth 100000 in
theorem kI_By_ok : ∀ q ∈ kI_By, tables_1[q.2.2]? = some (.constant "RoutingField$Bytes" q.1 q.2.1) := by decide +kernel
def kJ_By : List (Nat × Int64 × Nat) := [(77, 255, 1713)]
set_option maxRecDepth 100000 in
theorem kJ_By_ok : ∀ q ∈ kJ_By, tables_1[q.2.2]? = some (.constantLong "RoutingField$Bytes" q.1 q.2.1) := by decide +kernel
def kS_By (sa : Nat → Nat) : List (Nat × ksE) := []
def kE_By : List (Nat × String × Nat) := [(82, "::", 39), (43, "", 3)]
theorem kS_By_ok (sa : Nat → Nat) : ∀ q ∈ kS_By sa, tables_1[q.2.2.2.1]? = some (kf_link "RoutingField$Bytes" q.1 q.2.2.2.2 (q.2.1.1, q.2.1.2.1, q.2.1.2.2, false)) ∧ (q.2.2.2.2 = true → ("RoutingField$Bytes", q.1, q.2.1.1, q.2.1.2.1, q.2.1.2.2, "RoutingField") ∈ kZ3) ∧ (q.2.1.1, q.2.1.2.1, q.2.1.2.2, q.2.2.1) ∈ (kZ sa).1 := fun _ h => absurd h List.not_mem_nil
set_option maxRecDepth 100000 in
theorem kE_By_in : ∀ q ∈ kE_By, ("RoutingField$Bytes", q.1, q.2.1, q.2.2) ∈ kZ2 := by decide +kernel
theorem kE_By_ok (sa : Nat → Nat) : ∀ q ∈ kE_By, ("RoutingField$Bytes", q.1, q.2.1, sa q.2.2) ∈ (kZ sa).2.1 := fun q hq => List.mem_map.mpr ⟨_, kE_By_in q hq, rfl⟩
def kF_Ch : List (Nat × kfE) := [(130, (0, 0, .array .byte, true), 40, false, false), (102, (0, 1, .int, true), 45, false, false), (11, (1, 0, .boolean, true), 297, false, true), (15, (1, 1, .array .byte, false), 301, false, true), (19, (1, 2, .int, true), 303, false, true), (23, (1, 3, .array .int, false), 307, false, true), (27, (1, 4, .array .int, false), 309, false, true), (30, (1, 5, .array .int, false), 311, false, true), (33, (1, 6, .array .int, false), 313, false, true), (38, (1, 7, .array (.array .byte), false), 315, false, true), (41, (1, 8, .array .byte, true), 317, false, true), (44, (1, 9, .int, true), 318, false, true), (47, (1, 10, .array .int, false), 319, false, true), (50, (1, 11, .array .int, false), 320, false, true)]
set_option maxRecDepth 100000 in
theorem kF_Ch_ok : ∀ q ∈ kF_Ch, kf_chk "RoutingField$Chain" q = true := by decide +kernel
def kM_Ch : List (Nat × kmE) := []
set_option maxRecDepth 100000 in
theorem kM_Ch_ok : ∀ q ∈ kM_Ch, km_chk "RoutingField$Chain" q = true := by decide +kernel
def kA_Ch : List (Nat × String × Nat × Nat) := []
set_option maxRecDepth 100000 in
theorem kA_Ch_ok : ∀ q ∈ kA_Ch, tables_1[q.2.2.1]? = some (.classLink "RoutingField$Chain" q.1 q.2.1) ∧ q.2.1 ∈ kZ5 := by decide +kernel
def kI_Ch : List (Nat × Int32 × Nat) := [(154, 1732584193, 1182), (155, (-271733879), 1183), (156, (-1732584194), 1184), (157, 271733878, 1185), (158, (-1009589776), 1186), (174, 1518500249, 1203), (175, 1859775393, 1204), (176, (-1894007588), 1205), (177, (-899497514), 1206)]
set_option maxRecDepth 100000 in
theorem kI_Ch_ok : ∀ q ∈ kI_Ch, tables_1[q.2.2]? = some (.constant "RoutingField$Chain" q.1 q.2.1) := by decide +kernel
def kJ_Ch : List (Nat × Int64 × Nat) := [(73, 65535, 1136), (81, 2, 1138), (97, 3, 1144), (109, 4294901761, 1154), (121, 4294901763, 1423), (95, 4294901762, 1445)]
set_option maxRecDepth 100000 in
theorem kJ_Ch_ok : ∀ q ∈ kJ_Ch, tables_1[q.2.2]? = some (.constantLong "RoutingField$Chain" q.1 q.2.1) := by decide +kernel
def kS_Ch (sa : Nat → Nat) : List (Nat × ksE) := [(165, ("RoutingField$Chain", "SINES", "[I"), .ref (sa 1000), 1191, false), (168, ("RoutingField$Chain", "TURNS", "[I"), .ref (sa 1001), 1193, false)]
def kE_Ch : List (Nat × String × Nat) := [(53, "password", 8), (54, "chain", 45), (56, "open", 46)]
theorem kS_Ch_ok (sa : Nat → Nat) : ∀ q ∈ kS_Ch sa, tables_1[q.2.2.2.1]? = some (kf_link "RoutingField$Chain" q.1 q.2.2.2.2 (q.2.1.1, q.2.1.2.1, q.2.1.2.2, false)) ∧ (q.2.2.2.2 = true → ("RoutingField$Chain", q.1, q.2.1.1, q.2.1.2.1, q.2.1.2.2, "RoutingField") ∈ kZ3) ∧ (q.2.1.1, q.2.1.2.1, q.2.1.2.2, q.2.2.1) ∈ (kZ sa).1 := List.forall_mem_cons.mpr ⟨⟨(by decide +kernel : tables_1[1191]? = some (kf_link "RoutingField$Chain" 165 false ("RoutingField$Chain", "SINES", "[I", false))), fun h => by cases h, List.mem_of_getElem? (i := 1) rfl⟩, List.forall_mem_cons.mpr ⟨⟨(by decide +kernel : tables_1[1193]? = some (kf_link "RoutingField$Chain" 168 false ("RoutingField$Chain", "TURNS", "[I", false))), fun h => by cases h, List.mem_of_getElem? (i := 2) rfl⟩, fun _ h => absurd h List.not_mem_nil⟩⟩
set_option maxRecDepth 100000 in
theorem kE_Ch_in : ∀ q ∈ kE_Ch, ("RoutingField$Chain", q.1, q.2.1, q.2.2) ∈ kZ2 := by decide +kernel
theorem kE_Ch_ok (sa : Nat → Nat) : ∀ q ∈ kE_Ch, ("RoutingField$Chain", q.1, q.2.1, sa q.2.2) ∈ (kZ sa).2.1 := fun q hq => List.mem_map.mpr ⟨_, kE_Ch_in q hq, rfl⟩
def kF_Da : List (Nat × kfE) := [(61, (0, 1, .int, true), 43, false, false), (105, (5, 1, .long, true), 83, false, false), (109, (5, 2, .long, true), 87, false, false), (86, (5, 3, .int, true), 90, false, false), (14, (2, 0, .object "RoutingField$Bytes", false), 104, false, true), (23, (2, 1, .object "RoutingField$Prefix", false), 108, false, true), (27, (2, 2, .object "RoutingField$Prefix", false), 112, false, true), (30, (2, 3, .boolean, true), 114, false, true), (34, (2, 4, .int, true), 117, false, true), (38, (2, 5, .int, true), 120, false, true), (41, (2, 6, .int, true), 123, false, true), (44, (2, 7, .object "RoutingField$Router", true), 126, false, true), (48, (2, 8, .object "RoutingField$Link", true), 129, false, true), (52, (2, 9, .int, true), 132, false, true), (55, (2, 10, .int, true), 134, false, true), (58, (2, 11, .int, true), 137, false, true)]
set_option maxRecDepth 100000 in
theorem kF_Da_ok : ∀ q ∈ kF_Da, kf_chk "RoutingField$Datagram" q = true := by decide +kernel
def kM_Da : List (Nat × kmE) := [(9, (0, [.null, .int 0]), 66, 34, 2), (20, (5, [.int 0, .long 0, .long 0, .int 0]), 68, 69, 4)]
set_option maxRecDepth 100000 in
theorem kM_Da_ok : ∀ q ∈ kM_Da, km_chk "RoutingField$Datagram" q = true := by decide +kernel
def kA_Da : List (Nat × String × Nat × Nat) := [(20, "RoutingField$Prefix", 68, 617)]
set_option maxRecDepth 100000 in
theorem kA_Da_ok : ∀ q ∈ kA_Da, tables_1[q.2.2.1]? = some (.classLink "RoutingField$Datagram" q.1 q.2.1) ∧ q.2.1 ∈ kZ5 := by decide +kernel
def kI_Da : List (Nat × Int32 × Nat) := []
set_option maxRecDepth 100000 in
theorem kI_Da_ok : ∀ q ∈ kI_Da, tables_1[q.2.2]? = some (.constant "RoutingField$Datagram" q.1 q.2.1) := by decide +kernel
def kJ_Da : List (Nat × Int64 × Nat) := [(76, 16, 1460), (96, 2, 1524)]
set_option maxRecDepth 100000 in
theorem kJ_Da_ok : ∀ q ∈ kJ_Da, tables_1[q.2.2]? = some (.constantLong "RoutingField$Datagram" q.1 q.2.1) := by decide +kernel
def kS_Da (sa : Nat → Nat) : List (Nat × ksE) := []
def kE_Da : List (Nat × String × Nat) := []
theorem kS_Da_ok (sa : Nat → Nat) : ∀ q ∈ kS_Da sa, tables_1[q.2.2.2.1]? = some (kf_link "RoutingField$Datagram" q.1 q.2.2.2.2 (q.2.1.1, q.2.1.2.1, q.2.1.2.2, false)) ∧ (q.2.2.2.2 = true → ("RoutingField$Datagram", q.1, q.2.1.1, q.2.1.2.1, q.2.1.2.2, "RoutingField") ∈ kZ3) ∧ (q.2.1.1, q.2.1.2.1, q.2.1.2.2, q.2.2.1) ∈ (kZ sa).1 := fun _ h => absurd h List.not_mem_nil
set_option maxRecDepth 100000 in
theorem kE_Da_in : ∀ q ∈ kE_Da, ("RoutingField$Datagram", q.1, q.2.1, q.2.2) ∈ kZ2 := by decide +kernel
theorem kE_Da_ok (sa : Nat → Nat) : ∀ q ∈ kE_Da, ("RoutingField$Datagram", q.1, q.2.1, sa q.2.2) ∈ (kZ sa).2.1 := fun q hq => List.mem_map.mpr ⟨_, kE_Da_in q hq, rfl⟩
def kF_Li : List (Nat × kfE) := [(29, (3, 0, .object "java/lang/String", false), 550, false, true), (39, (3, 1, .int, false), 553, false, true), (42, (3, 2, .int, false), 555, false, true), (45, (3, 3, .int, false), 557, false, true), (7, (3, 4, .boolean, true), 560, false, true), (13, (3, 5, .int, true), 564, false, true), (17, (3, 6, .int, true), 566, false, true), (25, (3, 7, .object "RoutingField$Bytes", false), 568, false, true)]
set_option maxRecDepth 100000 in
theorem kF_Li_ok : ∀ q ∈ kF_Li, kf_chk "RoutingField$Link" q = true := by decide +kernel
def kM_Li : List (Nat × kmE) := [(20, (0, [.null, .int 0]), 547, 34, 2)]
set_option maxRecDepth 100000 in
theorem kM_Li_ok : ∀ q ∈ kM_Li, km_chk "RoutingField$Link" q = true := by decide +kernel
def kA_Li : List (Nat × String × Nat × Nat) := []
set_option maxRecDepth 100000 in
theorem kA_Li_ok : ∀ q ∈ kA_Li, tables_1[q.2.2.1]? = some (.classLink "RoutingField$Link" q.1 q.2.1) ∧ q.2.1 ∈ kZ5 := by decide +kernel
def kI_Li : List (Nat × Int32 × Nat) := []
set_option maxRecDepth 100000 in
theorem kI_Li_ok : ∀ q ∈ kI_Li, tables_1[q.2.2]? = some (.constant "RoutingField$Link" q.1 q.2.1) := by decide +kernel
def kJ_Li : List (Nat × Int64 × Nat) := []
set_option maxRecDepth 100000 in
theorem kJ_Li_ok : ∀ q ∈ kJ_Li, tables_1[q.2.2]? = some (.constantLong "RoutingField$Link" q.1 q.2.1) := by decide +kernel
def kS_Li (sa : Nat → Nat) : List (Nat × ksE) := []
def kE_Li : List (Nat × String × Nat) := []
theorem kS_Li_ok (sa : Nat → Nat) : ∀ q ∈ kS_Li sa, tables_1[q.2.2.2.1]? = some (kf_link "RoutingField$Link" q.1 q.2.2.2.2 (q.2.1.1, q.2.1.2.1, q.2.1.2.2, false)) ∧ (q.2.2.2.2 = true → ("RoutingField$Link", q.1, q.2.1.1, q.2.1.2.1, q.2.1.2.2, "RoutingField") ∈ kZ3) ∧ (q.2.1.1, q.2.1.2.1, q.2.1.2.2, q.2.2.1) ∈ (kZ sa).1 := fun _ h => absurd h List.not_mem_nil
set_option maxRecDepth 100000 in
theorem kE_Li_in : ∀ q ∈ kE_Li, ("RoutingField$Link", q.1, q.2.1, q.2.2) ∈ kZ2 := by decide +kernel
theorem kE_Li_ok (sa : Nat → Nat) : ∀ q ∈ kE_Li, ("RoutingField$Link", q.1, q.2.1, sa q.2.2) ∈ (kZ sa).2.1 := fun q hq => List.mem_map.mpr ⟨_, kE_Li_in q hq, rfl⟩
def kF_Po : List (Nat × kfE) := [(143, (0, 1, .int, true), 44, false, false), (86, (5, 0, .int, true), 76, false, false), (155, (5, 1, .long, true), 84, false, false), (114, (2, 0, .object "RoutingField$Bytes", false), 105, false, false), (127, (2, 1, .object "RoutingField$Prefix", false), 109, false, false), (140, (2, 10, .int, true), 135, false, false), (146, (2, 11, .int, true), 138, false, false), (98, (1, 0, .boolean, true), 298, false, false), (120, (1, 2, .int, true), 304, false, false), (93, (3, 3, .int, false), 558, false, false), (77, (4, 0, .object "RoutingField$Link", false), 870, false, true), (9, (4, 1, .object "RoutingField$Prefix", true), 873, false, true), (15, (4, 2, .object "RoutingField$Prefix", true), 874, false, true), (18, (4, 3, .int, true), 875, false, true), (22, (4, 4, .int, true), 879, false, true), (25, (4, 5, .boolean, true), 883, false, true), (32, (4, 6, .object "RoutingField$Chain", false), 887, false, true), (38, (4, 7, .array (.object "RoutingField$Prefix"), false), 891, false, true), (42, (4, 8, .int, true), 894, false, true), (45, (4, 9, .array .int, false), 898, false, true), (49, (4, 10, .array .boolean, false), 900, false, true), (53, (4, 11, .array (.object "RoutingField$Prefix"), false), 902, false, true), (56, (4, 12, .int, true), 905, false, true), (59, (4, 13, .int, true), 909, false, true), (62, (4, 14, .boolean, true), 913, false, true), (65, (4, 15, .int, true), 917, false, true), (68, (4, 16, .array .int, true), 919, false, true), (71, (4, 17, .array .int, true), 920, false, true), (74, (4, 18, .int, true), 921, false, true)]
set_option maxRecDepth 100000 in
theorem kF_Po_ok : ∀ q ∈ kF_Po, kf_chk "RoutingField$Port" q = true := by decide +kernel
def kM_Po : List (Nat × kmE) := [(29, (1, [.int 0, .null, .int 0, .null, .null, .null, .null, .null, .null, .int 0, .null, .null]), 867, 290, 8), (36, (5, [.int 0, .long 0, .long 0, .int 0]), 869, 69, 4)]
set_option maxRecDepth 100000 in
theorem kM_Po_ok : ∀ q ∈ kM_Po, km_chk "RoutingField$Port" q = true := by decide +kernel
def kA_Po : List (Nat × String × Nat × Nat) := [(36, "RoutingField$Prefix", 869, 617)]
set_option maxRecDepth 100000 in
theorem kA_Po_ok : ∀ q ∈ kA_Po, tables_1[q.2.2.1]? = some (.classLink "RoutingField$Port" q.1 q.2.1) ∧ q.2.1 ∈ kZ5 := by decide +kernel
def kI_Po : List (Nat × Int32 × Nat) := []
set_option maxRecDepth 100000 in
theorem kI_Po_ok : ∀ q ∈ kI_Po, tables_1[q.2.2]? = some (.constant "RoutingField$Port" q.1 q.2.1) := by decide +kernel
def kJ_Po : List (Nat × Int64 × Nat) := [(159, 4294967295, 1434), (153, 65535, 1446)]
set_option maxRecDepth 100000 in
theorem kJ_Po_ok : ∀ q ∈ kJ_Po, tables_1[q.2.2]? = some (.constantLong "RoutingField$Port" q.1 q.2.1) := by decide +kernel
def kS_Po (sa : Nat → Nat) : List (Nat × ksE) := []
def kE_Po : List (Nat × String × Nat) := []
theorem kS_Po_ok (sa : Nat → Nat) : ∀ q ∈ kS_Po sa, tables_1[q.2.2.2.1]? = some (kf_link "RoutingField$Port" q.1 q.2.2.2.2 (q.2.1.1, q.2.1.2.1, q.2.1.2.2, false)) ∧ (q.2.2.2.2 = true → ("RoutingField$Port", q.1, q.2.1.1, q.2.1.2.1, q.2.1.2.2, "RoutingField") ∈ kZ3) ∧ (q.2.1.1, q.2.1.2.1, q.2.1.2.2, q.2.2.1) ∈ (kZ sa).1 := fun _ h => absurd h List.not_mem_nil
set_option maxRecDepth 100000 in
theorem kE_Po_in : ∀ q ∈ kE_Po, ("RoutingField$Port", q.1, q.2.1, q.2.2) ∈ kZ2 := by decide +kernel
theorem kE_Po_ok (sa : Nat → Nat) : ∀ q ∈ kE_Po, ("RoutingField$Port", q.1, q.2.1, sa q.2.2) ∈ (kZ sa).2.1 := fun q hq => List.mem_map.mpr ⟨_, kE_Po_in q hq, rfl⟩
def kF_Pr : List (Nat × kfE) := [(9, (5, 0, .int, true), 74, false, true), (15, (5, 1, .long, true), 82, false, true), (19, (5, 2, .long, true), 86, false, true), (22, (5, 3, .int, true), 88, false, true)]
set_option maxRecDepth 100000 in
theorem kF_Pr_ok : ∀ q ∈ kF_Pr, kf_chk "RoutingField$Prefix" q = true := by decide +kernel
def kM_Pr : List (Nat × kmE) := []
set_option maxRecDepth 100000 in
theorem kM_Pr_ok : ∀ q ∈ kM_Pr, km_chk "RoutingField$Prefix" q = true := by decide +kernel
def kA_Pr : List (Nat × String × Nat × Nat) := []
set_option maxRecDepth 100000 in
theorem kA_Pr_ok : ∀ q ∈ kA_Pr, tables_1[q.2.2.1]? = some (.classLink "RoutingField$Prefix" q.1 q.2.1) ∧ q.2.1 ∈ kZ5 := by decide +kernel
def kI_Pr : List (Nat × Int32 × Nat) := [(27, 65535, 1707)]
set_option maxRecDepth 100000 in
theorem kI_Pr_ok : ∀ q ∈ kI_Pr, tables_1[q.2.2]? = some (.constant "RoutingField$Prefix" q.1 q.2.1) := by decide +kernel
def kJ_Pr : List (Nat × Int64 × Nat) := [(25, (-1), 794), (32, (-9223372036854775808), 1012), (51, 127, 1571), (53, 7, 1572), (55, 1018, 1573), (57, 255, 1574)]
set_option maxRecDepth 100000 in
theorem kJ_Pr_ok : ∀ q ∈ kJ_Pr, tables_1[q.2.2]? = some (.constantLong "RoutingField$Prefix" q.1 q.2.1) := by decide +kernel
def kS_Pr (sa : Nat → Nat) : List (Nat × ksE) := []
def kE_Pr : List (Nat × String × Nat) := []
theorem kS_Pr_ok (sa : Nat → Nat) : ∀ q ∈ kS_Pr sa, tables_1[q.2.2.2.1]? = some (kf_link "RoutingField$Prefix" q.1 q.2.2.2.2 (q.2.1.1, q.2.1.2.1, q.2.1.2.2, false)) ∧ (q.2.2.2.2 = true → ("RoutingField$Prefix", q.1, q.2.1.1, q.2.1.2.1, q.2.1.2.2, "RoutingField") ∈ kZ3) ∧ (q.2.1.1, q.2.1.2.1, q.2.1.2.2, q.2.2.1) ∈ (kZ sa).1 := fun _ h => absurd h List.not_mem_nil
set_option maxRecDepth 100000 in
theorem kE_Pr_in : ∀ q ∈ kE_Pr, ("RoutingField$Prefix", q.1, q.2.1, q.2.2) ∈ kZ2 := by decide +kernel
theorem kE_Pr_ok (sa : Nat → Nat) : ∀ q ∈ kE_Pr, ("RoutingField$Prefix", q.1, q.2.1, sa q.2.2) ∈ (kZ sa).2.1 := fun q hq => List.mem_map.mpr ⟨_, kE_Pr_in q hq, rfl⟩
def kF_Pl : List (Nat × kfE) := [(51, (5, 3, .int, true), 89, false, false), (21, (6, 0, .object "java/lang/String", false), 618, false, true), (27, (6, 1, .array (.object "RoutingField$Prefix"), false), 621, false, true), (31, (6, 2, .array .boolean, false), 623, false, true), (35, (6, 3, .array .int, false), 625, false, true), (39, (6, 4, .array .int, false), 627, false, true), (9, (6, 5, .int, true), 629, false, true)]
set_option maxRecDepth 100000 in
theorem kF_Pl_ok : ∀ q ∈ kF_Pl, kf_chk "RoutingField$PrefixList" q = true := by decide +kernel
def kM_Pl : List (Nat × kmE) := [(25, (5, [.int 0, .long 0, .long 0, .int 0]), 616, 69, 4)]
set_option maxRecDepth 100000 in
theorem kM_Pl_ok : ∀ q ∈ kM_Pl, km_chk "RoutingField$PrefixList" q = true := by decide +kernel
def kA_Pl : List (Nat × String × Nat × Nat) := [(25, "RoutingField$Prefix", 616, 617)]
set_option maxRecDepth 100000 in
theorem kA_Pl_ok : ∀ q ∈ kA_Pl, tables_1[q.2.2.1]? = some (.classLink "RoutingField$PrefixList" q.1 q.2.1) ∧ q.2.1 ∈ kZ5 := by decide +kernel
def kI_Pl : List (Nat × Int32 × Nat) := []
set_option maxRecDepth 100000 in
theorem kI_Pl_ok : ∀ q ∈ kI_Pl, tables_1[q.2.2]? = some (.constant "RoutingField$PrefixList" q.1 q.2.1) := by decide +kernel
def kJ_Pl : List (Nat × Int64 × Nat) := []
set_option maxRecDepth 100000 in
theorem kJ_Pl_ok : ∀ q ∈ kJ_Pl, tables_1[q.2.2]? = some (.constantLong "RoutingField$PrefixList" q.1 q.2.1) := by decide +kernel
def kS_Pl (sa : Nat → Nat) : List (Nat × ksE) := []
def kE_Pl : List (Nat × String × Nat) := []
theorem kS_Pl_ok (sa : Nat → Nat) : ∀ q ∈ kS_Pl sa, tables_1[q.2.2.2.1]? = some (kf_link "RoutingField$PrefixList" q.1 q.2.2.2.2 (q.2.1.1, q.2.1.2.1, q.2.1.2.2, false)) ∧ (q.2.2.2.2 = true → ("RoutingField$PrefixList", q.1, q.2.1.1, q.2.1.2.1, q.2.1.2.2, "RoutingField") ∈ kZ3) ∧ (q.2.1.1, q.2.1.2.1, q.2.1.2.2, q.2.2.1) ∈ (kZ sa).1 := fun _ h => absurd h List.not_mem_nil
set_option maxRecDepth 100000 in
theorem kE_Pl_in : ∀ q ∈ kE_Pl, ("RoutingField$PrefixList", q.1, q.2.1, q.2.2) ∈ kZ2 := by decide +kernel
theorem kE_Pl_ok (sa : Nat → Nat) : ∀ q ∈ kE_Pl, ("RoutingField$PrefixList", q.1, q.2.1, sa q.2.2) ∈ (kZ sa).2.1 := fun q hq => List.mem_map.mpr ⟨_, kE_Pl_in q hq, rfl⟩
def kF_Re : List (Nat × kfE) := [(276, (5, 0, .int, true), 80, false, false), (419, (5, 3, .int, true), 94, false, false), (387, (10, 1, .int, true), 179, false, false), (64, (11, 0, .object "RoutingField$Bytes", false), 188, true, false), (197, (11, 6, .array (.object "RoutingField$Link"), false), 196, true, false), (194, (11, 7, .int, true), 198, true, false), (210, (11, 8, .array (.object "RoutingField$Router"), false), 200, true, false), (207, (11, 9, .int, true), 202, true, false), (220, (11, 10, .array (.object "RoutingField$PrefixList"), false), 204, true, false), (217, (11, 11, .int, true), 207, true, false), (56, (7, 0, .object "RoutingField", false), 347, false, true), (9, (7, 1, .array .int, false), 348, false, true), (15, (7, 2, .array .int, false), 349, false, true), (18, (7, 3, .int, true), 350, false, true), (22, (7, 4, .int, true), 351, false, true), (25, (7, 5, .int, true), 352, false, true), (31, (7, 6, .object "RoutingField$Prefix", false), 353, false, true), (37, (7, 7, .array .byte, false), 354, false, true), (41, (7, 8, .int, true), 355, false, true), (44, (7, 9, .int, true), 356, false, true), (47, (7, 10, .boolean, true), 357, false, true), (52, (7, 11, .object "RoutingField$Chain", false), 358, false, true), (201, (3, 0, .object "java/lang/String", false), 551, false, false), (302, (3, 4, .boolean, true), 563, false, false), (224, (6, 0, .object "java/lang/String", false), 619, false, false), (214, (9, 1, .object "java/lang/String", false), 647, false, false), (299, (9, 3, .boolean, true), 653, false, false), (289, (9, 5, .int, true), 657, false, false), (377, (9, 7, .object "RoutingField$Table", false), 662, false, false), (413, (9, 8, .array (.object "RoutingField$PrefixList"), false), 665, false, false), (445, (9, 9, .array (.array .int), false), 668, false, false), (442, (9, 10, .int, true), 671, false, false), (456, (9, 11, .array (.array .int), false), 674, false, false), (453, (9, 12, .int, true), 677, false, false), (475, (9, 13, .array .int, false), 680, false, false), (478, (9, 14, .array .int, false), 683, false, false), (489, (9, 15, .array .int, false), 687, false, false), (364, (4, 3, .int, true), 877, false, false), (365, (4, 4, .int, true), 881, false, false), (363, (4, 5, .boolean, true), 885, false, false), (339, (4, 6, .object "RoutingField$Chain", false), 888, false, false), (459, (4, 8, .int, true), 896, false, false), (465, (4, 12, .int, true), 907, false, false), (483, (4, 13, .int, true), 911, false, false), (486, (4, 14, .boolean, true), 915, false, false), (392, (8, 4, .int, true), 1054, false, false), (397, (8, 5, .int, true), 1058, false, false)]
set_option maxRecDepth 100000 in
theorem kF_Re_ok : ∀ q ∈ kF_Re, kf_chk "RoutingField$Reader" q = true := by decide +kernel
def kM_Re : List (Nat × kmE) := [(28, (5, [.int 0, .long 0, .long 0, .int 0]), 287, 69, 4), (35, (1, [.int 0, .null, .int 0, .null, .null, .null, .null, .null, .null, .int 0, .null, .null]), 289, 290, 8), (202, (3, [.null, .int 0, .int 0, .int 0, .int 0, .int 0, .int 0, .null]), 476, 477, 13), (164, (13, [.null, .int 0, .int 0, .int 0]), 486, 487, 9), (215, (9, [.null, .null, .int 0, .int 0, .null, .int 0, .null, .null, .null, .null, .int 0, .null, .int 0, .null, .null, .null, .null, .int 0, .int 0, .int 0]), 596, 597, 15), (225, (6, [.null, .null, .null, .null, .null, .int 0]), 1308, 609, 16)]
set_option maxRecDepth 100000 in
theorem kM_Re_ok : ∀ q ∈ kM_Re, km_chk "RoutingField$Reader" q = true := by decide +kernel
def kA_Re : List (Nat × String × Nat × Nat) := [(28, "RoutingField$Prefix", 287, 617), (202, "RoutingField$Link", 476, 54), (215, "RoutingField$Router", 596, 56), (225, "RoutingField$PrefixList", 1308, 58)]
set_option maxRecDepth 100000 in
theorem kA_Re_ok : ∀ q ∈ kA_Re, tables_1[q.2.2.1]? = some (.classLink "RoutingField$Reader" q.1 q.2.1) ∧ q.2.1 ∈ kZ5 := by decide +kernel
def kI_Re : List (Nat × Int32 × Nat) := [(354, 99999, 852), (376, 65535, 1259)]
set_option maxRecDepth 100000 in
theorem kI_Re_ok : ∀ q ∈ kI_Re, tables_1[q.2.2]? = some (.constant "RoutingField$Reader" q.1 q.2.1) := by decide +kernel
def kJ_Re : List (Nat × Int64 × Nat) := []
set_option maxRecDepth 100000 in
theorem kJ_Re_ok : ∀ q ∈ kJ_Re, tables_1[q.2.2]? = some (.constantLong "RoutingField$Reader" q.1 q.2.1) := by decide +kernel
def kS_Re (sa : Nat → Nat) : List (Nat × ksE) := []
def kE_Re : List (Nat × String × Nat) := [(74, "link", 0), (244, "jitter", 1), (246, "mtu", 2), (172, "", 3), (84, "router", 4), (89, "join", 5), (312, "cost", 6), (313, "split", 7), (314, "password", 8), (316, "md5", 9), (318, "sha", 10), (320, "passive", 11), (321, "off", 12), (323, "simple", 13), (325, "poison", 14), (94, "key", 15), (99, "nokey", 16), (104, "static", 17), (242, "tag", 18), (109, "nostatic", 19), (114, "filter", 20), (405, "in", 21), (407, "out", 22), (409, "permit", 23), (411, "deny", 24), (119, "list", 25), (424, "ge", 26), (426, "le", 27), (124, "distribute", 28), (437, "*", 29), (129, "offset", 30), (134, "summary", 31), (139, "neighbor", 32), (144, "redistribute", 33), (471, "connected", 34), (473, "own", 35), (149, "default", 36), (481, "only", 37), (154, "timers", 38)]
theorem kS_Re_ok (sa : Nat → Nat) : ∀ q ∈ kS_Re sa, tables_1[q.2.2.2.1]? = some (kf_link "RoutingField$Reader" q.1 q.2.2.2.2 (q.2.1.1, q.2.1.2.1, q.2.1.2.2, false)) ∧ (q.2.2.2.2 = true → ("RoutingField$Reader", q.1, q.2.1.1, q.2.1.2.1, q.2.1.2.2, "RoutingField") ∈ kZ3) ∧ (q.2.1.1, q.2.1.2.1, q.2.1.2.2, q.2.2.1) ∈ (kZ sa).1 := fun _ h => absurd h List.not_mem_nil
set_option maxRecDepth 100000 in
theorem kE_Re_in : ∀ q ∈ kE_Re, ("RoutingField$Reader", q.1, q.2.1, q.2.2) ∈ kZ2 := by decide +kernel
theorem kE_Re_ok (sa : Nat → Nat) : ∀ q ∈ kE_Re, ("RoutingField$Reader", q.1, q.2.1, sa q.2.2) ∈ (kZ sa).2.1 := fun q hq => List.mem_map.mpr ⟨_, kE_Re_in q hq, rfl⟩
def kF_Ro : List (Nat × kfE) := [(51, (5, 0, .int, true), 75, false, false), (12, (8, 0, .object "RoutingField$Prefix", false), 1040, false, true), (18, (8, 1, .object "RoutingField$Prefix", false), 1044, false, true), (21, (8, 2, .object "RoutingField$Prefix", false), 1047, false, true), (24, (8, 3, .int, true), 1049, false, true), (28, (8, 4, .int, true), 1052, false, true), (31, (8, 5, .int, true), 1056, false, true), (34, (8, 6, .object "RoutingField$Port", true), 1060, false, true), (38, (8, 7, .boolean, true), 1063, false, true), (42, (8, 8, .int, true), 1066, false, true), (45, (8, 9, .int, true), 1068, false, true), (48, (8, 10, .int, true), 1070, false, true)]
set_option maxRecDepth 100000 in
theorem kF_Ro_ok : ∀ q ∈ kF_Ro, kf_chk "RoutingField$Route" q = true := by decide +kernel
def kM_Ro : List (Nat × kmE) := [(9, (5, [.int 0, .long 0, .long 0, .int 0]), 1038, 69, 4)]
set_option maxRecDepth 100000 in
theorem kM_Ro_ok : ∀ q ∈ kM_Ro, km_chk "RoutingField$Route" q = true := by decide +kernel
def kA_Ro : List (Nat × String × Nat × Nat) := [(9, "RoutingField$Prefix", 1038, 617)]
set_option maxRecDepth 100000 in
theorem kA_Ro_ok : ∀ q ∈ kA_Ro, tables_1[q.2.2.1]? = some (.classLink "RoutingField$Route" q.1 q.2.1) ∧ q.2.1 ∈ kZ5 := by decide +kernel
def kI_Ro : List (Nat × Int32 × Nat) := []
set_option maxRecDepth 100000 in
theorem kI_Ro_ok : ∀ q ∈ kI_Ro, tables_1[q.2.2]? = some (.constant "RoutingField$Route" q.1 q.2.1) := by decide +kernel
def kJ_Ro : List (Nat × Int64 × Nat) := []
set_option maxRecDepth 100000 in
theorem kJ_Ro_ok : ∀ q ∈ kJ_Ro, tables_1[q.2.2]? = some (.constantLong "RoutingField$Route" q.1 q.2.1) := by decide +kernel
def kS_Ro (sa : Nat → Nat) : List (Nat × ksE) := []
def kE_Ro : List (Nat × String × Nat) := []
theorem kS_Ro_ok (sa : Nat → Nat) : ∀ q ∈ kS_Ro sa, tables_1[q.2.2.2.1]? = some (kf_link "RoutingField$Route" q.1 q.2.2.2.2 (q.2.1.1, q.2.1.2.1, q.2.1.2.2, false)) ∧ (q.2.2.2.2 = true → ("RoutingField$Route", q.1, q.2.1.1, q.2.1.2.1, q.2.1.2.2, "RoutingField") ∈ kZ3) ∧ (q.2.1.1, q.2.1.2.1, q.2.1.2.2, q.2.2.1) ∈ (kZ sa).1 := fun _ h => absurd h List.not_mem_nil
set_option maxRecDepth 100000 in
theorem kE_Ro_in : ∀ q ∈ kE_Ro, ("RoutingField$Route", q.1, q.2.1, q.2.2) ∈ kZ2 := by decide +kernel
theorem kE_Ro_ok (sa : Nat → Nat) : ∀ q ∈ kE_Ro, ("RoutingField$Route", q.1, q.2.1, sa q.2.2) ∈ (kZ sa).2.1 := fun q hq => List.mem_map.mpr ⟨_, kE_Ro_in q hq, rfl⟩
def kF_Rr : List (Nat × kfE) := [(439, (0, 1, .int, true), 46, false, false), (128, (5, 0, .int, true), 77, false, false), (299, (5, 3, .int, true), 93, false, false), (344, (2, 0, .object "RoutingField$Bytes", false), 107, false, false), (373, (2, 1, .object "RoutingField$Prefix", false), 111, false, false), (382, (2, 2, .object "RoutingField$Prefix", false), 113, false, false), (379, (2, 3, .boolean, true), 116, false, false), (350, (2, 4, .int, true), 119, false, false), (387, (2, 5, .int, true), 122, false, false), (389, (2, 6, .int, true), 125, false, false), (392, (2, 7, .object "RoutingField$Router", true), 128, false, false), (418, (2, 8, .object "RoutingField$Link", true), 131, false, false), (436, (2, 10, .int, true), 136, false, false), (440, (2, 11, .int, true), 139, false, false), (198, (10, 0, .array (.object "RoutingField$Route"), true), 174, false, false), (195, (10, 1, .int, true), 177, false, false), (90, (11, 5, .int, true), 194, true, false), (247, (11, 10, .array (.object "RoutingField$PrefixList"), false), 205, true, false), (340, (11, 16, .object "RoutingField$Datagram", true), 213, true, false), (268, (11, 17, .object "RoutingField$Table", false), 215, true, false), (181, (11, 18, .object "RoutingField$Prefix", false), 217, true, false), (467, (11, 19, .object "RoutingField$Prefix", false), 219, true, false), (359, (1, 0, .boolean, true), 299, false, false), (333, (1, 2, .int, true), 305, false, false), (137, (3, 4, .boolean, true), 562, false, false), (74, (9, 0, .object "RoutingField", false), 645, false, true), (78, (9, 1, .object "java/lang/String", false), 646, false, true), (82, (9, 2, .int, false), 649, false, true), (9, (9, 3, .boolean, true), 651, false, true), (17, (9, 4, .array (.object "RoutingField$Port"), false), 654, false, true), (21, (9, 5, .int, true), 656, false, true), (28, (9, 6, .object "RoutingField$Table", false), 659, false, true), (32, (9, 7, .object "RoutingField$Table", false), 661, false, true), (37, (9, 8, .array (.object "RoutingField$PrefixList"), false), 664, false, true), (43, (9, 9, .array (.array .int), false), 667, false, true), (46, (9, 10, .int, true), 670, false, true), (49, (9, 11, .array (.array .int), false), 673, false, true), (52, (9, 12, .int, true), 676, false, true), (55, (9, 13, .array .int, false), 679, false, true), (59, (9, 14, .array .int, false), 682, false, true), (62, (9, 15, .array .int, false), 685, false, true), (65, (9, 16, .array .int, false), 688, false, true), (93, (9, 17, .int, true), 690, false, true), (68, (9, 18, .int, true), 691, false, true), (71, (9, 19, .int, true), 692, false, true), (96, (4, 0, .object "RoutingField$Link", false), 871, false, false), (161, (4, 3, .int, true), 876, false, false), (322, (4, 4, .int, true), 880, false, false), (254, (4, 5, .boolean, true), 884, false, false), (329, (4, 6, .object "RoutingField$Chain", false), 889, false, false), (312, (4, 7, .array (.object "RoutingField$Prefix"), false), 892, false, false), (309, (4, 8, .int, true), 895, false, false), (292, (4, 9, .array .int, false), 899, false, false), (295, (4, 10, .array .boolean, false), 901, false, false), (264, (4, 11, .array (.object "RoutingField$Prefix"), false), 903, false, false), (261, (4, 12, .int, true), 906, false, false), (271, (4, 13, .int, true), 910, false, false), (274, (4, 14, .boolean, true), 914, false, false), (366, (4, 15, .int, true), 918, false, false), (206, (8, 0, .object "RoutingField$Prefix", false), 1042, false, false), (503, (8, 1, .object "RoutingField$Prefix", false), 1046, false, false), (502, (8, 2, .object "RoutingField$Prefix", false), 1048, false, false), (171, (8, 3, .int, true), 1050, false, false), (121, (8, 4, .int, true), 1053, false, false), (168, (8, 5, .int, true), 1057, false, false), (174, (8, 6, .object "RoutingField$Port", true), 1061, false, false), (103, (8, 7, .boolean, true), 1064, false, false), (108, (8, 8, .int, true), 1067, false, false), (111, (8, 9, .int, true), 1069, false, false), (118, (8, 10, .int, true), 1071, false, false)]
set_option maxRecDepth 100000 in
theorem kF_Rr_ok : ∀ q ∈ kF_Rr, kf_chk "RoutingField$Router" q = true := by decide +kernel
def kM_Rr : List (Nat × kmE) := [(15, (4, [.null, .null, .null, .int 0, .int 0, .int 0, .null, .null, .int 0, .null, .null, .null, .int 0, .int 0, .int 0, .int 0, .null, .null, .int 0]), 602, 862, 18), (25, (10, [.null, .int 0]), 604, 166, 5), (35, (6, [.null, .null, .null, .null, .null, .int 0]), 606, 609, 16)]
set_option maxRecDepth 100000 in
theorem kM_Rr_ok : ∀ q ∈ kM_Rr, km_chk "RoutingField$Router" q = true := by decide +kernel
def kA_Rr : List (Nat × String × Nat × Nat) := [(15, "RoutingField$Port", 602, 603), (35, "RoutingField$PrefixList", 606, 58)]
set_option maxRecDepth 100000 in
theorem kA_Rr_ok : ∀ q ∈ kA_Rr, tables_1[q.2.2.1]? = some (.classLink "RoutingField$Router" q.1 q.2.1) ∧ q.2.1 ∈ kZ5 := by decide +kernel
def kI_Rr : List (Nat × Int32 × Nat) := []
set_option maxRecDepth 100000 in
theorem kI_Rr_ok : ∀ q ∈ kI_Rr, tables_1[q.2.2]? = some (.constant "RoutingField$Router" q.1 q.2.1) := by decide +kernel
def kJ_Rr : List (Nat × Int64 × Nat) := [(461, 16, 1549), (478, 255, 1562)]
set_option maxRecDepth 100000 in
theorem kJ_Rr_ok : ∀ q ∈ kJ_Rr, tables_1[q.2.2]? = some (.constantLong "RoutingField$Router" q.1 q.2.1) := by decide +kernel
def kS_Rr (sa : Nat → Nat) : List (Nat × ksE) := []
def kE_Rr : List (Nat × String × Nat) := [(85, "", 3)]
theorem kS_Rr_ok (sa : Nat → Nat) : ∀ q ∈ kS_Rr sa, tables_1[q.2.2.2.1]? = some (kf_link "RoutingField$Router" q.1 q.2.2.2.2 (q.2.1.1, q.2.1.2.1, q.2.1.2.2, false)) ∧ (q.2.2.2.2 = true → ("RoutingField$Router", q.1, q.2.1.1, q.2.1.2.1, q.2.1.2.2, "RoutingField") ∈ kZ3) ∧ (q.2.1.1, q.2.1.2.1, q.2.1.2.2, q.2.2.1) ∈ (kZ sa).1 := fun _ h => absurd h List.not_mem_nil
set_option maxRecDepth 100000 in
theorem kE_Rr_in : ∀ q ∈ kE_Rr, ("RoutingField$Router", q.1, q.2.1, q.2.2) ∈ kZ2 := by decide +kernel
theorem kE_Rr_ok (sa : Nat → Nat) : ∀ q ∈ kE_Rr, ("RoutingField$Router", q.1, q.2.1, sa q.2.2) ∈ (kZ sa).2.1 := fun q hq => List.mem_map.mpr ⟨_, kE_Rr_in q hq, rfl⟩
def kF_Ta : List (Nat × kfE) := [(41, (5, 0, .int, true), 78, false, false), (9, (10, 0, .array (.object "RoutingField$Route"), true), 173, false, true), (15, (10, 1, .int, true), 176, false, true), (19, (8, 0, .object "RoutingField$Prefix", false), 1041, false, false)]
set_option maxRecDepth 100000 in
theorem kF_Ta_ok : ∀ q ∈ kF_Ta, kf_chk "RoutingField$Table" q = true := by decide +kernel
def kM_Ta : List (Nat × kmE) := [(7, (8, [.null, .null, .null, .int 0, .int 0, .int 0, .null, .int 0, .int 0, .int 0, .int 0]), 171, 1033, 19)]
set_option maxRecDepth 100000 in
theorem kM_Ta_ok : ∀ q ∈ kM_Ta, km_chk "RoutingField$Table" q = true := by decide +kernel
def kA_Ta : List (Nat × String × Nat × Nat) := [(7, "RoutingField$Route", 171, 172)]
set_option maxRecDepth 100000 in
theorem kA_Ta_ok : ∀ q ∈ kA_Ta, tables_1[q.2.2.1]? = some (.classLink "RoutingField$Table" q.1 q.2.1) ∧ q.2.1 ∈ kZ5 := by decide +kernel
def kI_Ta : List (Nat × Int32 × Nat) := []
set_option maxRecDepth 100000 in
theorem kI_Ta_ok : ∀ q ∈ kI_Ta, tables_1[q.2.2]? = some (.constant "RoutingField$Table" q.1 q.2.1) := by decide +kernel
def kJ_Ta : List (Nat × Int64 × Nat) := []
set_option maxRecDepth 100000 in
theorem kJ_Ta_ok : ∀ q ∈ kJ_Ta, tables_1[q.2.2]? = some (.constantLong "RoutingField$Table" q.1 q.2.1) := by decide +kernel
def kS_Ta (sa : Nat → Nat) : List (Nat × ksE) := []
def kE_Ta : List (Nat × String × Nat) := []
theorem kS_Ta_ok (sa : Nat → Nat) : ∀ q ∈ kS_Ta sa, tables_1[q.2.2.2.1]? = some (kf_link "RoutingField$Table" q.1 q.2.2.2.2 (q.2.1.1, q.2.1.2.1, q.2.1.2.2, false)) ∧ (q.2.2.2.2 = true → ("RoutingField$Table", q.1, q.2.1.1, q.2.1.2.1, q.2.1.2.2, "RoutingField") ∈ kZ3) ∧ (q.2.1.1, q.2.1.2.1, q.2.1.2.2, q.2.2.1) ∈ (kZ sa).1 := fun _ h => absurd h List.not_mem_nil
set_option maxRecDepth 100000 in
theorem kE_Ta_in : ∀ q ∈ kE_Ta, ("RoutingField$Table", q.1, q.2.1, q.2.2) ∈ kZ2 := by decide +kernel
theorem kE_Ta_ok (sa : Nat → Nat) : ∀ q ∈ kE_Ta, ("RoutingField$Table", q.1, q.2.1, sa q.2.2) ∈ (kZ sa).2.1 := fun q hq => List.mem_map.mpr ⟨_, kE_Ta_in q hq, rfl⟩
def kF_La : List (Nat × kfE) := []
set_option maxRecDepth 100000 in
theorem kF_La_ok : ∀ q ∈ kF_La, kf_chk "RoutingFieldLaw" q = true := by decide +kernel
def kM_La : List (Nat × kmE) := [(8, (11, [.null, .null, .null, .null, .int 0, .int 0, .null, .int 0, .null, .int 0, .null, .int 0, .null, .int 0, .null, .int 0, .null, .null, .null, .null]), 25, 26, 1), (13, (14, [.null, .null, .null, .null, .null, .int 0]), 1903, 1909, 24), (16, (12, [.int 0, .int 0, .null, .int 0, .int 0, .null, .int 0, .null, .int 0, .null, .null, .int 0, .int 0, .long 0, .long 0, .int 0, .null, .int 0, .null, .null, .null, .null, .null, .null, .null, .null, .null, .int 0, .null, .null, .null, .null, .null, .null, .null, .null, .null, .int 0, .null, .null, .null, .null, .null, .null, .null, .null, .null, .null, .null, .null, .null, .null, .null, .null, .null, .null, .null, .null, .null, .null, .null, .null, .null, .null, .null, .null, .null, .null, .null, .null, .null, .null, .null, .null, .null, .null, .null, .null, .null, .null, .null, .null, .null, .null, .null, .null, .null, .null, .null, .null, .null, .null, .null, .null, .null, .null, .null, .null, .null, .null, .null, .int 0, .null, .null, .null, .null, .null, .null, .null, .null, .null, .null, .null, .null, .null, .null, .null, .null, .null, .null, .null, .null, .null, .int 0, .null, .null, .null, .null, .null, .null, .null, .null, .null, .null, .null, .null, .null, .null, .null, .int 0, .null, .null, .null, .null, .null, .int 0, .null, .null, .int 0, .null, .int 0, .null, .null, .int 0, .int 0, .int 0, .int 0, .null, .null, .null, .null, .null, .int 0, .int 0, .long 0, .long 0]), 1973, 1974, 6)]
set_option maxRecDepth 100000 in
theorem kM_La_ok : ∀ q ∈ kM_La, km_chk "RoutingFieldLaw" q = true := by decide +kernel
def kA_La : List (Nat × String × Nat × Nat) := []
set_option maxRecDepth 100000 in
theorem kA_La_ok : ∀ q ∈ kA_La, tables_1[q.2.2.1]? = some (.classLink "RoutingFieldLaw" q.1 q.2.1) ∧ q.2.1 ∈ kZ5 := by decide +kernel
def kI_La : List (Nat × Int32 × Nat) := []
set_option maxRecDepth 100000 in
theorem kI_La_ok : ∀ q ∈ kI_La, tables_1[q.2.2]? = some (.constant "RoutingFieldLaw" q.1 q.2.1) := by decide +kernel
def kJ_La : List (Nat × Int64 × Nat) := []
set_option maxRecDepth 100000 in
theorem kJ_La_ok : ∀ q ∈ kJ_La, tables_1[q.2.2]? = some (.constantLong "RoutingFieldLaw" q.1 q.2.1) := by decide +kernel
def kS_La (sa : Nat → Nat) : List (Nat × ksE) := []
def kE_La : List (Nat × String × Nat) := []
theorem kS_La_ok (sa : Nat → Nat) : ∀ q ∈ kS_La sa, tables_1[q.2.2.2.1]? = some (kf_link "RoutingFieldLaw" q.1 q.2.2.2.2 (q.2.1.1, q.2.1.2.1, q.2.1.2.2, false)) ∧ (q.2.2.2.2 = true → ("RoutingFieldLaw", q.1, q.2.1.1, q.2.1.2.1, q.2.1.2.2, "RoutingField") ∈ kZ3) ∧ (q.2.1.1, q.2.1.2.1, q.2.1.2.2, q.2.2.1) ∈ (kZ sa).1 := fun _ h => absurd h List.not_mem_nil
set_option maxRecDepth 100000 in
theorem kE_La_in : ∀ q ∈ kE_La, ("RoutingFieldLaw", q.1, q.2.1, q.2.2) ∈ kZ2 := by decide +kernel
theorem kE_La_ok (sa : Nat → Nat) : ∀ q ∈ kE_La, ("RoutingFieldLaw", q.1, q.2.1, sa q.2.2) ∈ (kZ sa).2.1 := fun q hq => List.mem_map.mpr ⟨_, kE_La_in q hq, rfl⟩
def kF_Mo : List (Nat × kfE) := [(427, (12, 0, .int, true), 1980, false, true), (657, (12, 1, .int, true), 1981, false, true), (7, (12, 2, .array .int, false), 1982, false, true), (452, (12, 3, .int, true), 1983, false, true), (523, (12, 4, .int, true), 1984, false, true), (13, (12, 5, .array .int, true), 1985, false, true), (1148, (12, 6, .int, true), 1986, false, true), (16, (12, 7, .array .int, true), 1987, false, true), (1114, (12, 8, .int, true), 1988, false, true), (19, (12, 9, .array .int, false), 1989, false, true), (22, (12, 10, .array .int, false), 1990, false, true), (530, (12, 11, .int, true), 1991, false, true), (487, (12, 12, .int, true), 1992, false, true), (490, (12, 13, .long, true), 1993, false, true), (494, (12, 14, .long, true), 1994, false, true), (513, (12, 15, .int, true), 1995, false, true), (25, (12, 16, .array .int, false), 1996, false, true), (474, (12, 17, .int, true), 1997, false, true), (28, (12, 18, .array .long, false), 1998, false, true), (32, (12, 19, .array .int, false), 1999, false, true), (35, (12, 20, .array .int, false), 2000, false, true), (38, (12, 21, .array .int, false), 2001, false, true), (41, (12, 22, .array .boolean, false), 2002, false, true), (45, (12, 23, .array .int, false), 2003, false, true), (48, (12, 24, .array .int, false), 2004, false, true), (51, (12, 25, .array .int, false), 2005, false, true), (54, (12, 26, .array .int, false), 2006, false, true), (480, (12, 27, .int, true), 2007, false, true), (57, (12, 28, .array .long, false), 2008, false, true), (60, (12, 29, .array .int, false), 2009, false, true), (63, (12, 30, .array .boolean, false), 2010, false, true), (66, (12, 31, .array .int, false), 2011, false, true), (69, (12, 32, .array .long, false), 2012, false, true), (72, (12, 33, .array .long, false), 2013, false, true), (75, (12, 34, .array .int, false), 2014, false, true), (78, (12, 35, .array .int, false), 2015, false, true), (81, (12, 36, .array .int, false), 2016, false, true), (477, (12, 37, .int, true), 2017, false, true), (84, (12, 38, .array .long, false), 2018, false, true), (87, (12, 39, .array .boolean, false), 2019, false, true), (90, (12, 40, .array .int, false), 2020, false, true), (93, (12, 41, .array .int, false), 2021, false, true), (96, (12, 42, .array .int, false), 2022, false, true), (99, (12, 43, .array .int, false), 2023, false, true), (102, (12, 44, .array .int, false), 2024, false, true), (105, (12, 45, .array .int, false), 2025, false, true), (108, (12, 46, .array .int, false), 2026, false, true), (111, (12, 47, .array .int, false), 2027, false, true), (114, (12, 48, .array .long, false), 2028, false, true), (117, (12, 49, .array .long, false), 2029, false, true), (120, (12, 50, .array .int, false), 2030, false, true), (123, (12, 51, .array .int, false), 2031, false, true), (126, (12, 52, .array .int, false), 2032, false, true), (129, (12, 53, .array .int, false), 2033, false, true), (132, (12, 54, .array .int, false), 2034, false, true), (135, (12, 55, .array .long, false), 2035, false, true), (138, (12, 56, .array .long, false), 2036, false, true), (141, (12, 57, .array .int, false), 2037, false, true), (144, (12, 58, .array .boolean, false), 2038, false, true), (147, (12, 59, .array .int, false), 2039, false, true), (150, (12, 60, .array .int, false), 2040, false, true), (153, (12, 61, .array .int, false), 2041, false, true), (156, (12, 62, .array .int, false), 2042, false, true), (159, (12, 63, .array .int, false), 2043, false, true), (162, (12, 64, .array .int, false), 2044, false, true), (165, (12, 65, .array .int, false), 2045, false, true), (168, (12, 66, .array .int, false), 2046, false, true), (171, (12, 67, .array .int, false), 2047, false, true), (174, (12, 68, .array .int, false), 2048, false, true), (177, (12, 69, .array .int, false), 2049, false, true), (180, (12, 70, .array .int, false), 2050, false, true), (183, (12, 71, .array .int, false), 2051, false, true), (186, (12, 72, .array .int, false), 2052, false, true), (189, (12, 73, .array .long, false), 2053, false, true), (192, (12, 74, .array .boolean, false), 2054, false, true), (195, (12, 75, .array .boolean, false), 2055, false, true), (198, (12, 76, .array .long, false), 2056, false, true), (201, (12, 77, .array .long, false), 2057, false, true), (204, (12, 78, .array .int, false), 2058, false, true), (207, (12, 79, .array .int, false), 2059, false, true), (210, (12, 80, .array .int, false), 2060, false, true), (213, (12, 81, .array .int, false), 2061, false, true), (216, (12, 82, .array .int, false), 2062, false, true), (219, (12, 83, .array .int, false), 2063, false, true), (222, (12, 84, .array .boolean, false), 2064, false, true), (225, (12, 85, .array .int, false), 2065, false, true), (228, (12, 86, .array .int, false), 2066, false, true), (231, (12, 87, .array .int, false), 2067, false, true), (234, (12, 88, .array .int, false), 2068, false, true), (237, (12, 89, .array .int, false), 2069, false, true), (240, (12, 90, .array .int, false), 2070, false, true), (243, (12, 91, .array .int, false), 2071, false, true), (246, (12, 92, .array .long, false), 2072, false, true), (249, (12, 93, .array .long, false), 2073, false, true), (252, (12, 94, .array .int, false), 2074, false, true), (255, (12, 95, .array .int, false), 2075, false, true), (258, (12, 96, .array .int, false), 2076, false, true), (261, (12, 97, .array .long, false), 2077, false, true), (264, (12, 98, .array .long, false), 2078, false, true), (267, (12, 99, .array .int, false), 2079, false, true), (270, (12, 100, .array .boolean, false), 2080, false, true), (1026, (12, 101, .int, true), 2081, false, true), (273, (12, 102, .array .int, true), 2082, false, true), (276, (12, 103, .array .long, true), 2083, false, true), (279, (12, 104, .array .long, true), 2084, false, true), (282, (12, 105, .array .int, false), 2085, false, true), (285, (12, 106, .array .int, false), 2086, false, true), (288, (12, 107, .array .long, false), 2087, false, true), (291, (12, 108, .array .long, false), 2088, false, true), (294, (12, 109, .array .int, false), 2089, false, true), (297, (12, 110, .array .int, false), 2090, false, true), (300, (12, 111, .array .int, false), 2091, false, true), (303, (12, 112, .array .int, false), 2092, false, true), (306, (12, 113, .array .int, false), 2093, false, true), (309, (12, 114, .array .long, false), 2094, false, true), (312, (12, 115, .array .long, false), 2095, false, true), (315, (12, 116, .array .int, false), 2096, false, true), (318, (12, 117, .array .long, false), 2097, false, true), (321, (12, 118, .array .long, false), 2098, false, true), (324, (12, 119, .array .boolean, false), 2099, false, true), (327, (12, 120, .array .int, false), 2100, false, true), (330, (12, 121, .array .int, false), 2101, false, true), (333, (12, 122, .array .int, false), 2102, false, true), (934, (12, 123, .int, true), 2103, false, true), (336, (12, 124, .array .int, false), 2104, false, true), (339, (12, 125, .array .boolean, false), 2105, false, true), (342, (12, 126, .array .int, false), 2106, false, true), (345, (12, 127, .array .int, false), 2107, false, true), (348, (12, 128, .array .boolean, false), 2108, false, true), (351, (12, 129, .array .long, false), 2109, false, true), (354, (12, 130, .array .long, false), 2110, false, true), (357, (12, 131, .array .int, false), 2111, false, true), (360, (12, 132, .array .long, false), 2112, false, true), (363, (12, 133, .array .long, false), 2113, false, true), (366, (12, 134, .array .int, false), 2114, false, true), (369, (12, 135, .array .int, false), 2115, false, true), (372, (12, 136, .array .int, false), 2116, false, true), (375, (12, 137, .array .int, false), 2117, false, true), (379, (12, 138, .array .int, false), 2118, false, true), (965, (12, 139, .int, true), 2119, false, true), (382, (12, 140, .array .long, false), 2120, false, true), (385, (12, 141, .array .long, false), 2121, false, true), (388, (12, 142, .array .int, false), 2122, false, true), (391, (12, 143, .array .int, false), 2123, false, true), (394, (12, 144, .array .int, false), 2124, false, true), (950, (12, 145, .int, true), 2125, false, true), (397, (12, 146, .array .int, false), 2126, false, true), (400, (12, 147, .array .int, false), 2127, false, true), (921, (12, 148, .int, true), 2128, false, true), (403, (12, 149, .array .int, false), 2129, false, true), (1005, (12, 150, .int, true), 2130, false, true), (406, (12, 151, .array .int, false), 2131, false, true), (409, (12, 152, .array .boolean, false), 2132, false, true), (780, (12, 153, .int, true), 2133, false, true), (783, (12, 154, .int, true), 2134, false, true), (786, (12, 155, .int, true), 2135, false, true), (773, (12, 156, .int, true), 2136, false, true), (412, (12, 157, .array .int, false), 2137, false, true), (415, (12, 158, .array .int, false), 2138, false, true), (418, (12, 159, .array .int, false), 2139, false, true), (421, (12, 160, .array .int, false), 2140, false, true), (424, (12, 161, .array .long, false), 2141, false, true), (1002, (12, 162, .int, true), 2142, false, true), (1008, (12, 163, .int, true), 2143, false, true), (1073, (12, 164, .long, true), 2144, false, true), (1076, (12, 165, .long, true), 2145, false, true)]
set_option maxRecDepth 100000 in
theorem kF_Mo_ok : ∀ q ∈ kF_Mo, kf_chk "RoutingFieldModel" q = true := by decide +kernel
def kM_Mo : List (Nat × kmE) := []
set_option maxRecDepth 100000 in
theorem kM_Mo_ok : ∀ q ∈ kM_Mo, km_chk "RoutingFieldModel" q = true := by decide +kernel
def kA_Mo : List (Nat × String × Nat × Nat) := []
set_option maxRecDepth 100000 in
theorem kA_Mo_ok : ∀ q ∈ kA_Mo, tables_1[q.2.2.1]? = some (.classLink "RoutingFieldModel" q.1 q.2.1) ∧ q.2.1 ∈ kZ5 := by decide +kernel
def kI_Mo : List (Nat × Int32 × Nat) := [(378, 179200, 1979), (692, 99999, 2632), (714, 65535, 2727), (892, 1732584193, 2748), (893, (-271733879), 2749), (894, (-1732584194), 2750), (895, 271733878, 2751), (896, (-1009589776), 2752), (888, 1518500249, 2766), (889, 1859775393, 2767), (890, (-1894007588), 2768), (891, (-899497514), 2769), (815, (-680876936), 2777), (816, (-389564586), 2778), (817, 606105819, 2779), (818, (-1044525330), 2780), (819, (-176418897), 2781), (820, 1200080426, 2782), (821, (-1473231341), 2783), (822, (-45705983), 2784), (823, 1770035416, 2785), (824, (-1958414417), 2786), (825, (-42063), 2787), (826, (-1990404162), 2788), (827, 1804603682, 2789), (828, (-40341101), 2790), (829, (-1502002290), 2791), (830, 1236535329, 2792), (831, (-165796510), 2793), (832, (-1069501632), 2794), (833, 643717713, 2795), (834, (-373897302), 2796), (835, (-701558691), 2797), (836, 38016083, 2798), (837, (-660478335), 2799), (838, (-405537848), 2800), (839, 568446438, 2801), (840, (-1019803690), 2802), (841, (-187363961), 2803), (842, 1163531501, 2804), (843, (-1444681467), 2805), (844, (-51403784), 2806), (845, 1735328473, 2807), (846, (-1926607734), 2808), (847, (-378558), 2809), (848, (-2022574463), 2810), (849, 1839030562, 2811), (850, (-35309556), 2812), (851, (-1530992060), 2813), (852, 1272893353, 2814), (853, (-155497632), 2815), (854, (-1094730640), 2816), (855, 681279174, 2817), (856, (-358537222), 2818), (857, (-722521979), 2819), (858, 76029189, 2820), (859, (-640364487), 2821), (860, (-421815835), 2822), (861, 530742520, 2823), (862, (-995338651), 2824), (863, (-198630844), 2825), (864, 1126891415, 2826), (865, (-1416354905), 2827), (866, (-57434055), 2828), (867, 1700485571, 2829), (868, (-1894986606), 2830), (869, (-1051523), 2831), (870, (-2054922799), 2832), (871, 1873313359, 2833), (872, (-30611744), 2834), (873, (-1560198380), 2835), (874, 1309151649, 2836), (875, (-145523070), 2837), (876, (-1120210379), 2838), (877, 718787259, 2839), (878, (-343485551), 2840), (1232, 40000, 3277)]
set_option maxRecDepth 100000 in
theorem kI_Mo_ok : ∀ q ∈ kI_Mo, tables_1[q.2.2]? = some (.constant "RoutingFieldModel" q.1 q.2.1) := by decide +kernel
def kJ_Mo : List (Nat × Int64 × Nat) := [(459, 37, 2519), (465, 40, 2523), (540, 782971, 2524), (632, 1048352218, 2529), (634, 21621, 2530), (624, 20992, 2538), (626, 30721, 2539), (628, 65688271285, 2540), (630, 982905, 2541), (545, 1882976218, 2562), (550, 664374, 2571), (660, 216780, 2576), (662, 49683580, 2577), (664, 2627531736724, 2578), (666, 24246, 2579), (668, 1969498085, 2580), (670, 1677407014, 2581), (431, (-1), 2656), (446, (-9223372036854775808), 2702), (811, 8, 2757), (813, 255, 2758), (937, 3, 2848), (555, 17825, 2849), (560, 36817825, 2858), (565, 1996896363, 2863), (709, 32047, 2868), (570, 2357196896363, 2876), (575, 638240218, 2881), (719, 374, 2890), (721, 24860, 2891), (723, 1652373180, 2896), (725, 264585, 2897), (580, 783180, 2898), (733, 285, 2903), (735, 485, 2904), (585, 1110755146402405, 2909), (590, 1551774620, 2918), (595, 80008514345, 2923), (600, 2315180035818, 2928), (605, 7603286755146402405, 2937), (746, 22177190624204, 2942), (748, 24934, 2943), (610, 16911458100, 2944), (615, 2071880739, 2949), (1061, 4294967295, 3018), (1046, 16, 3019), (1063, 127, 3023), (1065, 7, 3024), (1067, 1018, 3025), (1128, 65535, 3173), (1117, 5, 3193), (1157, 433800140, 3194), (1159, 35561, 3195), (1161, 13110667404, 3200), (1166, 856, 3205), (1168, 280934, 3206), (1170, 985814, 3207), (1172, 8193974, 3208), (1244, 1000, 3294), (1250, 15, 3299)]
set_option maxRecDepth 100000 in
theorem kJ_Mo_ok : ∀ q ∈ kJ_Mo, tables_1[q.2.2]? = some (.constantLong "RoutingFieldModel" q.1 q.2.1) := by decide +kernel
def kS_Mo (sa : Nat → Nat) : List (Nat × ksE) := []
def kE_Mo : List (Nat × String × Nat) := []
theorem kS_Mo_ok (sa : Nat → Nat) : ∀ q ∈ kS_Mo sa, tables_1[q.2.2.2.1]? = some (kf_link "RoutingFieldModel" q.1 q.2.2.2.2 (q.2.1.1, q.2.1.2.1, q.2.1.2.2, false)) ∧ (q.2.2.2.2 = true → ("RoutingFieldModel", q.1, q.2.1.1, q.2.1.2.1, q.2.1.2.2, "RoutingField") ∈ kZ3) ∧ (q.2.1.1, q.2.1.2.1, q.2.1.2.2, q.2.2.1) ∈ (kZ sa).1 := fun _ h => absurd h List.not_mem_nil
set_option maxRecDepth 100000 in
theorem kE_Mo_in : ∀ q ∈ kE_Mo, ("RoutingFieldModel", q.1, q.2.1, q.2.2) ∈ kZ2 := by decide +kernel
theorem kE_Mo_ok (sa : Nat → Nat) : ∀ q ∈ kE_Mo, ("RoutingFieldModel", q.1, q.2.1, sa q.2.2) ∈ (kZ sa).2.1 := fun q hq => List.mem_map.mpr ⟨_, kE_Mo_in q hq, rfl⟩
def kF_Ex : List (Nat × kfE) := []
set_option maxRecDepth 100000 in
theorem kF_Ex_ok : ∀ q ∈ kF_Ex, kf_chk "java/lang/Exception" q = true := by decide +kernel
def kM_Ex : List (Nat × kmE) := []
set_option maxRecDepth 100000 in
theorem kM_Ex_ok : ∀ q ∈ kM_Ex, km_chk "java/lang/Exception" q = true := by decide +kernel
def kA_Ex : List (Nat × String × Nat × Nat) := []
set_option maxRecDepth 100000 in
theorem kA_Ex_ok : ∀ q ∈ kA_Ex, tables_1[q.2.2.1]? = some (.classLink "java/lang/Exception" q.1 q.2.1) ∧ q.2.1 ∈ kZ5 := by decide +kernel
def kI_Ex : List (Nat × Int32 × Nat) := []
set_option maxRecDepth 100000 in
theorem kI_Ex_ok : ∀ q ∈ kI_Ex, tables_1[q.2.2]? = some (.constant "java/lang/Exception" q.1 q.2.1) := by decide +kernel
def kJ_Ex : List (Nat × Int64 × Nat) := []
set_option maxRecDepth 100000 in
theorem kJ_Ex_ok : ∀ q ∈ kJ_Ex, tables_1[q.2.2]? = some (.constantLong "java/lang/Exception" q.1 q.2.1) := by decide +kernel
def kS_Ex (sa : Nat → Nat) : List (Nat × ksE) := []
def kE_Ex : List (Nat × String × Nat) := []
theorem kS_Ex_ok (sa : Nat → Nat) : ∀ q ∈ kS_Ex sa, tables_1[q.2.2.2.1]? = some (kf_link "java/lang/Exception" q.1 q.2.2.2.2 (q.2.1.1, q.2.1.2.1, q.2.1.2.2, false)) ∧ (q.2.2.2.2 = true → ("java/lang/Exception", q.1, q.2.1.1, q.2.1.2.1, q.2.1.2.2, "RoutingField") ∈ kZ3) ∧ (q.2.1.1, q.2.1.2.1, q.2.1.2.2, q.2.2.1) ∈ (kZ sa).1 := fun _ h => absurd h List.not_mem_nil
set_option maxRecDepth 100000 in
theorem kE_Ex_in : ∀ q ∈ kE_Ex, ("java/lang/Exception", q.1, q.2.1, q.2.2) ∈ kZ2 := by decide +kernel
theorem kE_Ex_ok (sa : Nat → Nat) : ∀ q ∈ kE_Ex, ("java/lang/Exception", q.1, q.2.1, sa q.2.2) ∈ (kZ sa).2.1 := fun q hq => List.mem_map.mpr ⟨_, kE_Ex_in q hq, rfl⟩
def kF_Ig : List (Nat × kfE) := []
set_option maxRecDepth 100000 in
theorem kF_Ig_ok : ∀ q ∈ kF_Ig, kf_chk "java/lang/Integer" q = true := by decide +kernel
def kM_Ig : List (Nat × kmE) := []
set_option maxRecDepth 100000 in
theorem kM_Ig_ok : ∀ q ∈ kM_Ig, km_chk "java/lang/Integer" q = true := by decide +kernel
def kA_Ig : List (Nat × String × Nat × Nat) := []
set_option maxRecDepth 100000 in
theorem kA_Ig_ok : ∀ q ∈ kA_Ig, tables_1[q.2.2.1]? = some (.classLink "java/lang/Integer" q.1 q.2.1) ∧ q.2.1 ∈ kZ5 := by decide +kernel
def kI_Ig : List (Nat × Int32 × Nat) := [(265, 1431655765, 1545), (266, 858993459, 1546), (267, 252645135, 1547)]
set_option maxRecDepth 100000 in
theorem kI_Ig_ok : ∀ q ∈ kI_Ig, tables_1[q.2.2]? = some (.constant "java/lang/Integer" q.1 q.2.1) := by decide +kernel
def kJ_Ig : List (Nat × Int64 × Nat) := []
set_option maxRecDepth 100000 in
theorem kJ_Ig_ok : ∀ q ∈ kJ_Ig, tables_1[q.2.2]? = some (.constantLong "java/lang/Integer" q.1 q.2.1) := by decide +kernel
def kS_Ig (sa : Nat → Nat) : List (Nat × ksE) := []
def kE_Ig : List (Nat × String × Nat) := []
theorem kS_Ig_ok (sa : Nat → Nat) : ∀ q ∈ kS_Ig sa, tables_1[q.2.2.2.1]? = some (kf_link "java/lang/Integer" q.1 q.2.2.2.2 (q.2.1.1, q.2.1.2.1, q.2.1.2.2, false)) ∧ (q.2.2.2.2 = true → ("java/lang/Integer", q.1, q.2.1.1, q.2.1.2.1, q.2.1.2.2, "RoutingField") ∈ kZ3) ∧ (q.2.1.1, q.2.1.2.1, q.2.1.2.2, q.2.2.1) ∈ (kZ sa).1 := fun _ h => absurd h List.not_mem_nil
set_option maxRecDepth 100000 in
theorem kE_Ig_in : ∀ q ∈ kE_Ig, ("java/lang/Integer", q.1, q.2.1, q.2.2) ∈ kZ2 := by decide +kernel
theorem kE_Ig_ok (sa : Nat → Nat) : ∀ q ∈ kE_Ig, ("java/lang/Integer", q.1, q.2.1, sa q.2.2) ∈ (kZ sa).2.1 := fun q hq => List.mem_map.mpr ⟨_, kE_Ig_in q hq, rfl⟩
def kF_Rx : List (Nat × kfE) := []
set_option maxRecDepth 100000 in
theorem kF_Rx_ok : ∀ q ∈ kF_Rx, kf_chk "java/lang/RuntimeException" q = true := by decide +kernel
def kM_Rx : List (Nat × kmE) := []
set_option maxRecDepth 100000 in
theorem kM_Rx_ok : ∀ q ∈ kM_Rx, km_chk "java/lang/RuntimeException" q = true := by decide +kernel
def kA_Rx : List (Nat × String × Nat × Nat) := []
set_option maxRecDepth 100000 in
theorem kA_Rx_ok : ∀ q ∈ kA_Rx, tables_1[q.2.2.1]? = some (.classLink "java/lang/RuntimeException" q.1 q.2.1) ∧ q.2.1 ∈ kZ5 := by decide +kernel
def kI_Rx : List (Nat × Int32 × Nat) := []
set_option maxRecDepth 100000 in
theorem kI_Rx_ok : ∀ q ∈ kI_Rx, tables_1[q.2.2]? = some (.constant "java/lang/RuntimeException" q.1 q.2.1) := by decide +kernel
def kJ_Rx : List (Nat × Int64 × Nat) := []
set_option maxRecDepth 100000 in
theorem kJ_Rx_ok : ∀ q ∈ kJ_Rx, tables_1[q.2.2]? = some (.constantLong "java/lang/RuntimeException" q.1 q.2.1) := by decide +kernel
def kS_Rx (sa : Nat → Nat) : List (Nat × ksE) := []
def kE_Rx : List (Nat × String × Nat) := []
theorem kS_Rx_ok (sa : Nat → Nat) : ∀ q ∈ kS_Rx sa, tables_1[q.2.2.2.1]? = some (kf_link "java/lang/RuntimeException" q.1 q.2.2.2.2 (q.2.1.1, q.2.1.2.1, q.2.1.2.2, false)) ∧ (q.2.2.2.2 = true → ("java/lang/RuntimeException", q.1, q.2.1.1, q.2.1.2.1, q.2.1.2.2, "RoutingField") ∈ kZ3) ∧ (q.2.1.1, q.2.1.2.1, q.2.1.2.2, q.2.2.1) ∈ (kZ sa).1 := fun _ h => absurd h List.not_mem_nil
set_option maxRecDepth 100000 in
theorem kE_Rx_in : ∀ q ∈ kE_Rx, ("java/lang/RuntimeException", q.1, q.2.1, q.2.2) ∈ kZ2 := by decide +kernel
theorem kE_Rx_ok (sa : Nat → Nat) : ∀ q ∈ kE_Rx, ("java/lang/RuntimeException", q.1, q.2.1, sa q.2.2) ∈ (kZ sa).2.1 := fun q hq => List.mem_map.mpr ⟨_, kE_Rx_in q hq, rfl⟩
def kF_St : List (Nat × kfE) := [(9, (13, 0, .array .byte, false), 531, false, true), (15, (13, 1, .byte, false), 532, false, true)]
set_option maxRecDepth 100000 in
theorem kF_St_ok : ∀ q ∈ kF_St, kf_chk "java/lang/String" q = true := by decide +kernel
def kM_St : List (Nat × kmE) := []
set_option maxRecDepth 100000 in
theorem kM_St_ok : ∀ q ∈ kM_St, km_chk "java/lang/String" q = true := by decide +kernel
def kA_St : List (Nat × String × Nat × Nat) := []
set_option maxRecDepth 100000 in
theorem kA_St_ok : ∀ q ∈ kA_St, tables_1[q.2.2.1]? = some (.classLink "java/lang/String" q.1 q.2.1) ∧ q.2.1 ∈ kZ5 := by decide +kernel
def kI_St : List (Nat × Int32 × Nat) := []
set_option maxRecDepth 100000 in
theorem kI_St_ok : ∀ q ∈ kI_St, tables_1[q.2.2]? = some (.constant "java/lang/String" q.1 q.2.1) := by decide +kernel
def kJ_St : List (Nat × Int64 × Nat) := []
set_option maxRecDepth 100000 in
theorem kJ_St_ok : ∀ q ∈ kJ_St, tables_1[q.2.2]? = some (.constantLong "java/lang/String" q.1 q.2.1) := by decide +kernel
def kS_St (sa : Nat → Nat) : List (Nat × ksE) := [(38, ("java/lang/String", "COMPACT_STRINGS", "Z"), .int 1, 414, false)]
def kE_St : List (Nat × String × Nat) := [(7, "", 3)]
theorem kS_St_ok (sa : Nat → Nat) : ∀ q ∈ kS_St sa, tables_1[q.2.2.2.1]? = some (kf_link "java/lang/String" q.1 q.2.2.2.2 (q.2.1.1, q.2.1.2.1, q.2.1.2.2, false)) ∧ (q.2.2.2.2 = true → ("java/lang/String", q.1, q.2.1.1, q.2.1.2.1, q.2.1.2.2, "RoutingField") ∈ kZ3) ∧ (q.2.1.1, q.2.1.2.1, q.2.1.2.2, q.2.2.1) ∈ (kZ sa).1 := List.forall_mem_cons.mpr ⟨⟨(by decide +kernel : tables_1[414]? = some (kf_link "java/lang/String" 38 false ("java/lang/String", "COMPACT_STRINGS", "Z", false))), fun h => by cases h, List.mem_of_getElem? (i := 0) rfl⟩, fun _ h => absurd h List.not_mem_nil⟩
set_option maxRecDepth 100000 in
theorem kE_St_in : ∀ q ∈ kE_St, ("java/lang/String", q.1, q.2.1, q.2.2) ∈ kZ2 := by decide +kernel
theorem kE_St_ok (sa : Nat → Nat) : ∀ q ∈ kE_St, ("java/lang/String", q.1, q.2.1, sa q.2.2) ∈ (kZ sa).2.1 := fun q hq => List.mem_map.mpr ⟨_, kE_St_in q hq, rfl⟩
def kF_S1 : List (Nat × kfE) := []
set_option maxRecDepth 100000 in
theorem kF_S1_ok : ∀ q ∈ kF_S1, kf_chk "java/lang/StringLatin1" q = true := by decide +kernel
def kM_S1 : List (Nat × kmE) := []
set_option maxRecDepth 100000 in
theorem kM_S1_ok : ∀ q ∈ kM_S1, km_chk "java/lang/StringLatin1" q = true := by decide +kernel
def kA_S1 : List (Nat × String × Nat × Nat) := []
set_option maxRecDepth 100000 in
theorem kA_S1_ok : ∀ q ∈ kA_S1, tables_1[q.2.2.1]? = some (.classLink "java/lang/StringLatin1" q.1 q.2.1) ∧ q.2.1 ∈ kZ5 := by decide +kernel
def kI_S1 : List (Nat × Int32 × Nat) := []
set_option maxRecDepth 100000 in
theorem kI_S1_ok : ∀ q ∈ kI_S1, tables_1[q.2.2]? = some (.constant "java/lang/StringLatin1" q.1 q.2.1) := by decide +kernel
def kJ_S1 : List (Nat × Int64 × Nat) := []
set_option maxRecDepth 100000 in
theorem kJ_S1_ok : ∀ q ∈ kJ_S1, tables_1[q.2.2]? = some (.constantLong "java/lang/StringLatin1" q.1 q.2.1) := by decide +kernel
def kS_S1 (sa : Nat → Nat) : List (Nat × ksE) := []
def kE_S1 : List (Nat × String × Nat) := []
theorem kS_S1_ok (sa : Nat → Nat) : ∀ q ∈ kS_S1 sa, tables_1[q.2.2.2.1]? = some (kf_link "java/lang/StringLatin1" q.1 q.2.2.2.2 (q.2.1.1, q.2.1.2.1, q.2.1.2.2, false)) ∧ (q.2.2.2.2 = true → ("java/lang/StringLatin1", q.1, q.2.1.1, q.2.1.2.1, q.2.1.2.2, "RoutingField") ∈ kZ3) ∧ (q.2.1.1, q.2.1.2.1, q.2.1.2.2, q.2.2.1) ∈ (kZ sa).1 := fun _ h => absurd h List.not_mem_nil
set_option maxRecDepth 100000 in
theorem kE_S1_in : ∀ q ∈ kE_S1, ("java/lang/StringLatin1", q.1, q.2.1, q.2.2) ∈ kZ2 := by decide +kernel
theorem kE_S1_ok (sa : Nat → Nat) : ∀ q ∈ kE_S1, ("java/lang/StringLatin1", q.1, q.2.1, sa q.2.2) ∈ (kZ sa).2.1 := fun q hq => List.mem_map.mpr ⟨_, kE_S1_in q hq, rfl⟩
def kF_S2 : List (Nat × kfE) := []
set_option maxRecDepth 100000 in
theorem kF_S2_ok : ∀ q ∈ kF_S2, kf_chk "java/lang/StringUTF16" q = true := by decide +kernel
def kM_S2 : List (Nat × kmE) := []
set_option maxRecDepth 100000 in
theorem kM_S2_ok : ∀ q ∈ kM_S2, km_chk "java/lang/StringUTF16" q = true := by decide +kernel
def kA_S2 : List (Nat × String × Nat × Nat) := []
set_option maxRecDepth 100000 in
theorem kA_S2_ok : ∀ q ∈ kA_S2, tables_1[q.2.2.1]? = some (.classLink "java/lang/StringUTF16" q.1 q.2.1) ∧ q.2.1 ∈ kZ5 := by decide +kernel
def kI_S2 : List (Nat × Int32 × Nat) := [(20, 1073741823, 511)]
set_option maxRecDepth 100000 in
theorem kI_S2_ok : ∀ q ∈ kI_S2, tables_1[q.2.2]? = some (.constant "java/lang/StringUTF16" q.1 q.2.1) := by decide +kernel
def kJ_S2 : List (Nat × Int64 × Nat) := []
set_option maxRecDepth 100000 in
theorem kJ_S2_ok : ∀ q ∈ kJ_S2, tables_1[q.2.2]? = some (.constantLong "java/lang/StringUTF16" q.1 q.2.1) := by decide +kernel
def kS_S2 (sa : Nat → Nat) : List (Nat × ksE) := []
def kE_S2 : List (Nat × String × Nat) := []
theorem kS_S2_ok (sa : Nat → Nat) : ∀ q ∈ kS_S2 sa, tables_1[q.2.2.2.1]? = some (kf_link "java/lang/StringUTF16" q.1 q.2.2.2.2 (q.2.1.1, q.2.1.2.1, q.2.1.2.2, false)) ∧ (q.2.2.2.2 = true → ("java/lang/StringUTF16", q.1, q.2.1.1, q.2.1.2.1, q.2.1.2.2, "RoutingField") ∈ kZ3) ∧ (q.2.1.1, q.2.1.2.1, q.2.1.2.2, q.2.2.1) ∈ (kZ sa).1 := fun _ h => absurd h List.not_mem_nil
set_option maxRecDepth 100000 in
theorem kE_S2_in : ∀ q ∈ kE_S2, ("java/lang/StringUTF16", q.1, q.2.1, q.2.2) ∈ kZ2 := by decide +kernel
theorem kE_S2_ok (sa : Nat → Nat) : ∀ q ∈ kE_S2, ("java/lang/StringUTF16", q.1, q.2.1, sa q.2.2) ∈ (kZ sa).2.1 := fun q hq => List.mem_map.mpr ⟨_, kE_S2_in q hq, rfl⟩
def kF_Th : List (Nat × kfE) := []
set_option maxRecDepth 100000 in
theorem kF_Th_ok : ∀ q ∈ kF_Th, kf_chk "java/lang/Throwable" q = true := by decide +kernel
def kM_Th : List (Nat × kmE) := []
set_option maxRecDepth 100000 in
theorem kM_Th_ok : ∀ q ∈ kM_Th, km_chk "java/lang/Throwable" q = true := by decide +kernel
def kA_Th : List (Nat × String × Nat × Nat) := []
set_option maxRecDepth 100000 in
theorem kA_Th_ok : ∀ q ∈ kA_Th, tables_1[q.2.2.1]? = some (.classLink "java/lang/Throwable" q.1 q.2.1) ∧ q.2.1 ∈ kZ5 := by decide +kernel
def kI_Th : List (Nat × Int32 × Nat) := []
set_option maxRecDepth 100000 in
theorem kI_Th_ok : ∀ q ∈ kI_Th, tables_1[q.2.2]? = some (.constant "java/lang/Throwable" q.1 q.2.1) := by decide +kernel
def kJ_Th : List (Nat × Int64 × Nat) := []
set_option maxRecDepth 100000 in
theorem kJ_Th_ok : ∀ q ∈ kJ_Th, tables_1[q.2.2]? = some (.constantLong "java/lang/Throwable" q.1 q.2.1) := by decide +kernel
def kS_Th (sa : Nat → Nat) : List (Nat × ksE) := []
def kE_Th : List (Nat × String × Nat) := []
theorem kS_Th_ok (sa : Nat → Nat) : ∀ q ∈ kS_Th sa, tables_1[q.2.2.2.1]? = some (kf_link "java/lang/Throwable" q.1 q.2.2.2.2 (q.2.1.1, q.2.1.2.1, q.2.1.2.2, false)) ∧ (q.2.2.2.2 = true → ("java/lang/Throwable", q.1, q.2.1.1, q.2.1.2.1, q.2.1.2.2, "RoutingField") ∈ kZ3) ∧ (q.2.1.1, q.2.1.2.1, q.2.1.2.2, q.2.2.1) ∈ (kZ sa).1 := fun _ h => absurd h List.not_mem_nil
set_option maxRecDepth 100000 in
theorem kE_Th_in : ∀ q ∈ kE_Th, ("java/lang/Throwable", q.1, q.2.1, q.2.2) ∈ kZ2 := by decide +kernel
theorem kE_Th_ok (sa : Nat → Nat) : ∀ q ∈ kE_Th, ("java/lang/Throwable", q.1, q.2.1, sa q.2.2) ∈ (kZ sa).2.1 := fun q hq => List.mem_map.mpr ⟨_, kE_Th_in q hq, rfl⟩
def kF_Ns : List (Nat × kfE) := []
set_option maxRecDepth 100000 in
theorem kF_Ns_ok : ∀ q ∈ kF_Ns, kf_chk "java/util/NoSuchElementException" q = true := by decide +kernel
def kM_Ns : List (Nat × kmE) := []
set_option maxRecDepth 100000 in
theorem kM_Ns_ok : ∀ q ∈ kM_Ns, km_chk "java/util/NoSuchElementException" q = true := by decide +kernel
def kA_Ns : List (Nat × String × Nat × Nat) := []
set_option maxRecDepth 100000 in
theorem kA_Ns_ok : ∀ q ∈ kA_Ns, tables_1[q.2.2.1]? = some (.classLink "java/util/NoSuchElementException" q.1 q.2.1) ∧ q.2.1 ∈ kZ5 := by decide +kernel
def kI_Ns : List (Nat × Int32 × Nat) := []
set_option maxRecDepth 100000 in
theorem kI_Ns_ok : ∀ q ∈ kI_Ns, tables_1[q.2.2]? = some (.constant "java/util/NoSuchElementException" q.1 q.2.1) := by decide +kernel
def kJ_Ns : List (Nat × Int64 × Nat) := []
set_option maxRecDepth 100000 in
theorem kJ_Ns_ok : ∀ q ∈ kJ_Ns, tables_1[q.2.2]? = some (.constantLong "java/util/NoSuchElementException" q.1 q.2.1) := by decide +kernel
def kS_Ns (sa : Nat → Nat) : List (Nat × ksE) := []
def kE_Ns : List (Nat × String × Nat) := []
theorem kS_Ns_ok (sa : Nat → Nat) : ∀ q ∈ kS_Ns sa, tables_1[q.2.2.2.1]? = some (kf_link "java/util/NoSuchElementException" q.1 q.2.2.2.2 (q.2.1.1, q.2.1.2.1, q.2.1.2.2, false)) ∧ (q.2.2.2.2 = true → ("java/util/NoSuchElementException", q.1, q.2.1.1, q.2.1.2.1, q.2.1.2.2, "RoutingField") ∈ kZ3) ∧ (q.2.1.1, q.2.1.2.1, q.2.1.2.2, q.2.2.1) ∈ (kZ sa).1 := fun _ h => absurd h List.not_mem_nil
set_option maxRecDepth 100000 in
theorem kE_Ns_in : ∀ q ∈ kE_Ns, ("java/util/NoSuchElementException", q.1, q.2.1, q.2.2) ∈ kZ2 := by decide +kernel
theorem kE_Ns_ok (sa : Nat → Nat) : ∀ q ∈ kE_Ns, ("java/util/NoSuchElementException", q.1, q.2.1, sa q.2.2) ∈ (kZ sa).2.1 := fun q hq => List.mem_map.mpr ⟨_, kE_Ns_in q hq, rfl⟩
