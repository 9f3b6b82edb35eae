theorem kn_Rf : Cond.initialized "RoutingField" ∈ pw_T := pw_in 1 (by decide +kernel) rfl
set_option maxRecDepth 100000 in
theorem kF_Rf_ok : ∀ q ∈ kF_Rf, kf_chk "RoutingField" q = true := by decide +kernel
set_option maxRecDepth 100000 in
theorem kM_Rf_ok : ∀ q ∈ kM_Rf, km_chk "RoutingField" q = true := by decide +kernel
set_option maxRecDepth 100000 in
theorem kA_Rf_ok : ∀ q ∈ kA_Rf, tables_1[q.2.2.1]? = some (.classLink "RoutingField" q.1 q.2.1) ∧ q.2.1 ∈ kZ5 := by decide +kernel
set_option maxRecDepth 100000 in
theorem kI_Rf_ok : ∀ q ∈ kI_Rf, tables_1[q.2.2]? = some (.constant "RoutingField" q.1 q.2.1) := by decide +kernel
set_option maxRecDepth 100000 in
theorem kJ_Rf_ok : ∀ q ∈ kJ_Rf, tables_1[q.2.2]? = some (.constantLong "RoutingField" q.1 q.2.1) := by decide +kernel
theorem kS_Rf_ok (sa : Nat → Nat) : ∀ q ∈ kS_Rf sa, tables_1[q.2.2.2.1]? = some (kf_link "RoutingField" q.1 q.2.2.2.2 (q.2.1.1, q.2.1.2.1, q.2.1.2.2, false)) ∧ (q.2.2.2.2 = true → ("RoutingField", q.1, q.2.1.1, q.2.1.2.1, q.2.1.2.2, "RoutingField") ∈ kZ3) ∧ (q.2.1.1, q.2.1.2.1, q.2.1.2.2, q.2.2.1) ∈ (kZ sa).1 := fun _ h => absurd h List.not_mem_nil
set_option maxRecDepth 100000 in
theorem kE_Rf_in : ∀ q ∈ kE_Rf, ("RoutingField", q.1, q.2.1, q.2.2) ∈ kZ2 := by decide +kernel
theorem kE_Rf_ok (sa : Nat → Nat) : ∀ q ∈ kE_Rf, ("RoutingField", q.1, q.2.1, sa q.2.2) ∈ (kZ sa).2.1 := fun q hq => List.mem_map.mpr ⟨_, kE_Rf_in q hq, rfl⟩
theorem kn_By : Cond.initialized "RoutingField$Bytes" ∈ pw_T := pw_in 2 (by decide +kernel) rfl
set_option maxRecDepth 100000 in
theorem kF_By_ok : ∀ q ∈ kF_By, kf_chk "RoutingField$Bytes" q = true := by decide +kernel
set_option maxRecDepth 100000 in
theorem kM_By_ok : ∀ q ∈ kM_By, km_chk "RoutingField$Bytes" q = true := by decide +kernel
set_option maxRecDepth 100000 in
theorem kA_By_ok : ∀ q ∈ kA_By, tables_1[q.2.2.1]? = some (.classLink "RoutingField$Bytes" q.1 q.2.1) ∧ q.2.1 ∈ kZ5 := by decide +kernel
set_option maxRecDepth 100000 in
theorem kI_By_ok : ∀ q ∈ kI_By, tables_1[q.2.2]? = some (.constant "RoutingField$Bytes" q.1 q.2.1) := by decide +kernel
set_option maxRecDepth 100000 in
theorem kJ_By_ok : ∀ q ∈ kJ_By, tables_1[q.2.2]? = some (.constantLong "RoutingField$Bytes" q.1 q.2.1) := by decide +kernel
theorem kS_By_ok (sa : Nat → Nat) : ∀ q ∈ kS_By sa, tables_1[q.2.2.2.1]? = some (kf_link "RoutingField$Bytes" q.1 q.2.2.2.2 (q.2.1.1, q.2.1.2.1, q.2.1.2.2, false)) ∧ (q.2.2.2.2 = true → ("RoutingField$Bytes", q.1, q.2.1.1, q.2.1.2.1, q.2.1.2.2, "RoutingField") ∈ kZ3) ∧ (q.2.1.1, q.2.1.2.1, q.2.1.2.2, q.2.2.1) ∈ (kZ sa).1 := fun _ h => absurd h List.not_mem_nil
set_option maxRecDepth 100000 in
theorem kE_By_in : ∀ q ∈ kE_By, ("RoutingField$Bytes", q.1, q.2.1, q.2.2) ∈ kZ2 := by decide +kernel
theorem kE_By_ok (sa : Nat → Nat) : ∀ q ∈ kE_By, ("RoutingField$Bytes", q.1, q.2.1, sa q.2.2) ∈ (kZ sa).2.1 := fun q hq => List.mem_map.mpr ⟨_, kE_By_in q hq, rfl⟩
theorem kn_Ch : Cond.initialized "RoutingField$Chain" ∈ pw_T := pw_in 8 (by decide +kernel) rfl
set_option maxRecDepth 100000 in
theorem kF_Ch_ok : ∀ q ∈ kF_Ch, kf_chk "RoutingField$Chain" q = true := by decide +kernel
set_option maxRecDepth 100000 in
theorem kM_Ch_ok : ∀ q ∈ kM_Ch, km_chk "RoutingField$Chain" q = true := by decide +kernel
set_option maxRecDepth 100000 in
theorem kA_Ch_ok : ∀ q ∈ kA_Ch, tables_1[q.2.2.1]? = some (.classLink "RoutingField$Chain" q.1 q.2.1) ∧ q.2.1 ∈ kZ5 := by decide +kernel
set_option maxRecDepth 100000 in
theorem kI_Ch_ok : ∀ q ∈ kI_Ch, tables_1[q.2.2]? = some (.constant "RoutingField$Chain" q.1 q.2.1) := by decide +kernel
set_option maxRecDepth 100000 in
theorem kJ_Ch_ok : ∀ q ∈ kJ_Ch, tables_1[q.2.2]? = some (.constantLong "RoutingField$Chain" q.1 q.2.1) := by decide +kernel
theorem kS_Ch_ok (sa : Nat → Nat) : ∀ q ∈ kS_Ch sa, tables_1[q.2.2.2.1]? = some (kf_link "RoutingField$Chain" q.1 q.2.2.2.2 (q.2.1.1, q.2.1.2.1, q.2.1.2.2, false)) ∧ (q.2.2.2.2 = true → ("RoutingField$Chain", q.1, q.2.1.1, q.2.1.2.1, q.2.1.2.2, "RoutingField") ∈ kZ3) ∧ (q.2.1.1, q.2.1.2.1, q.2.1.2.2, q.2.2.1) ∈ (kZ sa).1 := List.forall_mem_cons.mpr ⟨⟨(by decide +kernel : tables_1[1191]? = some (kf_link "RoutingField$Chain" 165 false ("RoutingField$Chain", "SINES", "[I", false))), (fun h => by cases h), List.mem_of_getElem? (i := 2) rfl⟩, List.forall_mem_cons.mpr ⟨⟨(by decide +kernel : tables_1[1193]? = some (kf_link "RoutingField$Chain" 168 false ("RoutingField$Chain", "TURNS", "[I", false))), (fun h => by cases h), List.mem_of_getElem? (i := 3) rfl⟩, fun _ h => absurd h List.not_mem_nil⟩⟩
set_option maxRecDepth 100000 in
theorem kE_Ch_in : ∀ q ∈ kE_Ch, ("RoutingField$Chain", q.1, q.2.1, q.2.2) ∈ kZ2 := by decide +kernel
theorem kE_Ch_ok (sa : Nat → Nat) : ∀ q ∈ kE_Ch, ("RoutingField$Chain", q.1, q.2.1, sa q.2.2) ∈ (kZ sa).2.1 := fun q hq => List.mem_map.mpr ⟨_, kE_Ch_in q hq, rfl⟩
theorem kn_Da : Cond.initialized "RoutingField$Datagram" ∈ pw_T := pw_in 3 (by decide +kernel) rfl
set_option maxRecDepth 100000 in
theorem kF_Da_ok : ∀ q ∈ kF_Da, kf_chk "RoutingField$Datagram" q = true := by decide +kernel
set_option maxRecDepth 100000 in
theorem kM_Da_ok : ∀ q ∈ kM_Da, km_chk "RoutingField$Datagram" q = true := by decide +kernel
set_option maxRecDepth 100000 in
theorem kA_Da_ok : ∀ q ∈ kA_Da, tables_1[q.2.2.1]? = some (.classLink "RoutingField$Datagram" q.1 q.2.1) ∧ q.2.1 ∈ kZ5 := by decide +kernel
set_option maxRecDepth 100000 in
theorem kI_Da_ok : ∀ q ∈ kI_Da, tables_1[q.2.2]? = some (.constant "RoutingField$Datagram" q.1 q.2.1) := by decide +kernel
set_option maxRecDepth 100000 in
theorem kJ_Da_ok : ∀ q ∈ kJ_Da, tables_1[q.2.2]? = some (.constantLong "RoutingField$Datagram" q.1 q.2.1) := by decide +kernel
theorem kS_Da_ok (sa : Nat → Nat) : ∀ q ∈ kS_Da sa, tables_1[q.2.2.2.1]? = some (kf_link "RoutingField$Datagram" q.1 q.2.2.2.2 (q.2.1.1, q.2.1.2.1, q.2.1.2.2, false)) ∧ (q.2.2.2.2 = true → ("RoutingField$Datagram", q.1, q.2.1.1, q.2.1.2.1, q.2.1.2.2, "RoutingField") ∈ kZ3) ∧ (q.2.1.1, q.2.1.2.1, q.2.1.2.2, q.2.2.1) ∈ (kZ sa).1 := fun _ h => absurd h List.not_mem_nil
set_option maxRecDepth 100000 in
theorem kE_Da_in : ∀ q ∈ kE_Da, ("RoutingField$Datagram", q.1, q.2.1, q.2.2) ∈ kZ2 := by decide +kernel
theorem kE_Da_ok (sa : Nat → Nat) : ∀ q ∈ kE_Da, ("RoutingField$Datagram", q.1, q.2.1, sa q.2.2) ∈ (kZ sa).2.1 := fun q hq => List.mem_map.mpr ⟨_, kE_Da_in q hq, rfl⟩
theorem kn_Li : Cond.initialized "RoutingField$Link" ∈ pw_T := pw_in 13 (by decide +kernel) rfl
set_option maxRecDepth 100000 in
theorem kF_Li_ok : ∀ q ∈ kF_Li, kf_chk "RoutingField$Link" q = true := by decide +kernel
set_option maxRecDepth 100000 in
theorem kM_Li_ok : ∀ q ∈ kM_Li, km_chk "RoutingField$Link" q = true := by decide +kernel
set_option maxRecDepth 100000 in
theorem kA_Li_ok : ∀ q ∈ kA_Li, tables_1[q.2.2.1]? = some (.classLink "RoutingField$Link" q.1 q.2.1) ∧ q.2.1 ∈ kZ5 := by decide +kernel
set_option maxRecDepth 100000 in
theorem kI_Li_ok : ∀ q ∈ kI_Li, tables_1[q.2.2]? = some (.constant "RoutingField$Link" q.1 q.2.1) := by decide +kernel
set_option maxRecDepth 100000 in
theorem kJ_Li_ok : ∀ q ∈ kJ_Li, tables_1[q.2.2]? = some (.constantLong "RoutingField$Link" q.1 q.2.1) := by decide +kernel
theorem kS_Li_ok (sa : Nat → Nat) : ∀ q ∈ kS_Li sa, tables_1[q.2.2.2.1]? = some (kf_link "RoutingField$Link" q.1 q.2.2.2.2 (q.2.1.1, q.2.1.2.1, q.2.1.2.2, false)) ∧ (q.2.2.2.2 = true → ("RoutingField$Link", q.1, q.2.1.1, q.2.1.2.1, q.2.1.2.2, "RoutingField") ∈ kZ3) ∧ (q.2.1.1, q.2.1.2.1, q.2.1.2.2, q.2.2.1) ∈ (kZ sa).1 := fun _ h => absurd h List.not_mem_nil
set_option maxRecDepth 100000 in
theorem kE_Li_in : ∀ q ∈ kE_Li, ("RoutingField$Link", q.1, q.2.1, q.2.2) ∈ kZ2 := by decide +kernel
theorem kE_Li_ok (sa : Nat → Nat) : ∀ q ∈ kE_Li, ("RoutingField$Link", q.1, q.2.1, sa q.2.2) ∈ (kZ sa).2.1 := fun q hq => List.mem_map.mpr ⟨_, kE_Li_in q hq, rfl⟩
theorem kn_Po : Cond.initialized "RoutingField$Port" ∈ pw_T := pw_in 18 (by decide +kernel) rfl
set_option maxRecDepth 100000 in
theorem kF_Po_ok : ∀ q ∈ kF_Po, kf_chk "RoutingField$Port" q = true := by decide +kernel
set_option maxRecDepth 100000 in
theorem kM_Po_ok : ∀ q ∈ kM_Po, km_chk "RoutingField$Port" q = true := by decide +kernel
set_option maxRecDepth 100000 in
theorem kA_Po_ok : ∀ q ∈ kA_Po, tables_1[q.2.2.1]? = some (.classLink "RoutingField$Port" q.1 q.2.1) ∧ q.2.1 ∈ kZ5 := by decide +kernel
set_option maxRecDepth 100000 in
theorem kI_Po_ok : ∀ q ∈ kI_Po, tables_1[q.2.2]? = some (.constant "RoutingField$Port" q.1 q.2.1) := by decide +kernel
set_option maxRecDepth 100000 in
theorem kJ_Po_ok : ∀ q ∈ kJ_Po, tables_1[q.2.2]? = some (.constantLong "RoutingField$Port" q.1 q.2.1) := by decide +kernel
theorem kS_Po_ok (sa : Nat → Nat) : ∀ q ∈ kS_Po sa, tables_1[q.2.2.2.1]? = some (kf_link "RoutingField$Port" q.1 q.2.2.2.2 (q.2.1.1, q.2.1.2.1, q.2.1.2.2, false)) ∧ (q.2.2.2.2 = true → ("RoutingField$Port", q.1, q.2.1.1, q.2.1.2.1, q.2.1.2.2, "RoutingField") ∈ kZ3) ∧ (q.2.1.1, q.2.1.2.1, q.2.1.2.2, q.2.2.1) ∈ (kZ sa).1 := fun _ h => absurd h List.not_mem_nil
set_option maxRecDepth 100000 in
theorem kE_Po_in : ∀ q ∈ kE_Po, ("RoutingField$Port", q.1, q.2.1, q.2.2) ∈ kZ2 := by decide +kernel
theorem kE_Po_ok (sa : Nat → Nat) : ∀ q ∈ kE_Po, ("RoutingField$Port", q.1, q.2.1, sa q.2.2) ∈ (kZ sa).2.1 := fun q hq => List.mem_map.mpr ⟨_, kE_Po_in q hq, rfl⟩
theorem kn_Pr : Cond.initialized "RoutingField$Prefix" ∈ pw_T := pw_in 4 (by decide +kernel) rfl
set_option maxRecDepth 100000 in
theorem kF_Pr_ok : ∀ q ∈ kF_Pr, kf_chk "RoutingField$Prefix" q = true := by decide +kernel
set_option maxRecDepth 100000 in
theorem kM_Pr_ok : ∀ q ∈ kM_Pr, km_chk "RoutingField$Prefix" q = true := by decide +kernel
set_option maxRecDepth 100000 in
theorem kA_Pr_ok : ∀ q ∈ kA_Pr, tables_1[q.2.2.1]? = some (.classLink "RoutingField$Prefix" q.1 q.2.1) ∧ q.2.1 ∈ kZ5 := by decide +kernel
set_option maxRecDepth 100000 in
theorem kI_Pr_ok : ∀ q ∈ kI_Pr, tables_1[q.2.2]? = some (.constant "RoutingField$Prefix" q.1 q.2.1) := by decide +kernel
set_option maxRecDepth 100000 in
theorem kJ_Pr_ok : ∀ q ∈ kJ_Pr, tables_1[q.2.2]? = some (.constantLong "RoutingField$Prefix" q.1 q.2.1) := by decide +kernel
theorem kS_Pr_ok (sa : Nat → Nat) : ∀ q ∈ kS_Pr sa, tables_1[q.2.2.2.1]? = some (kf_link "RoutingField$Prefix" q.1 q.2.2.2.2 (q.2.1.1, q.2.1.2.1, q.2.1.2.2, false)) ∧ (q.2.2.2.2 = true → ("RoutingField$Prefix", q.1, q.2.1.1, q.2.1.2.1, q.2.1.2.2, "RoutingField") ∈ kZ3) ∧ (q.2.1.1, q.2.1.2.1, q.2.1.2.2, q.2.2.1) ∈ (kZ sa).1 := fun _ h => absurd h List.not_mem_nil
set_option maxRecDepth 100000 in
theorem kE_Pr_in : ∀ q ∈ kE_Pr, ("RoutingField$Prefix", q.1, q.2.1, q.2.2) ∈ kZ2 := by decide +kernel
theorem kE_Pr_ok (sa : Nat → Nat) : ∀ q ∈ kE_Pr, ("RoutingField$Prefix", q.1, q.2.1, sa q.2.2) ∈ (kZ sa).2.1 := fun q hq => List.mem_map.mpr ⟨_, kE_Pr_in q hq, rfl⟩
theorem kn_Pl : Cond.initialized "RoutingField$PrefixList" ∈ pw_T := pw_in 16 (by decide +kernel) rfl
set_option maxRecDepth 100000 in
theorem kF_Pl_ok : ∀ q ∈ kF_Pl, kf_chk "RoutingField$PrefixList" q = true := by decide +kernel
set_option maxRecDepth 100000 in
theorem kM_Pl_ok : ∀ q ∈ kM_Pl, km_chk "RoutingField$PrefixList" q = true := by decide +kernel
set_option maxRecDepth 100000 in
theorem kA_Pl_ok : ∀ q ∈ kA_Pl, tables_1[q.2.2.1]? = some (.classLink "RoutingField$PrefixList" q.1 q.2.1) ∧ q.2.1 ∈ kZ5 := by decide +kernel
set_option maxRecDepth 100000 in
theorem kI_Pl_ok : ∀ q ∈ kI_Pl, tables_1[q.2.2]? = some (.constant "RoutingField$PrefixList" q.1 q.2.1) := by decide +kernel
set_option maxRecDepth 100000 in
theorem kJ_Pl_ok : ∀ q ∈ kJ_Pl, tables_1[q.2.2]? = some (.constantLong "RoutingField$PrefixList" q.1 q.2.1) := by decide +kernel
theorem kS_Pl_ok (sa : Nat → Nat) : ∀ q ∈ kS_Pl sa, tables_1[q.2.2.2.1]? = some (kf_link "RoutingField$PrefixList" q.1 q.2.2.2.2 (q.2.1.1, q.2.1.2.1, q.2.1.2.2, false)) ∧ (q.2.2.2.2 = true → ("RoutingField$PrefixList", q.1, q.2.1.1, q.2.1.2.1, q.2.1.2.2, "RoutingField") ∈ kZ3) ∧ (q.2.1.1, q.2.1.2.1, q.2.1.2.2, q.2.2.1) ∈ (kZ sa).1 := fun _ h => absurd h List.not_mem_nil
set_option maxRecDepth 100000 in
theorem kE_Pl_in : ∀ q ∈ kE_Pl, ("RoutingField$PrefixList", q.1, q.2.1, q.2.2) ∈ kZ2 := by decide +kernel
theorem kE_Pl_ok (sa : Nat → Nat) : ∀ q ∈ kE_Pl, ("RoutingField$PrefixList", q.1, q.2.1, sa q.2.2) ∈ (kZ sa).2.1 := fun q hq => List.mem_map.mpr ⟨_, kE_Pl_in q hq, rfl⟩
theorem kn_Re : Cond.initialized "RoutingField$Reader" ∈ pw_T := pw_in 7 (by decide +kernel) rfl
set_option maxRecDepth 100000 in
theorem kF_Re_ok : ∀ q ∈ kF_Re, kf_chk "RoutingField$Reader" q = true := by decide +kernel
set_option maxRecDepth 100000 in
theorem kM_Re_ok : ∀ q ∈ kM_Re, km_chk "RoutingField$Reader" q = true := by decide +kernel
