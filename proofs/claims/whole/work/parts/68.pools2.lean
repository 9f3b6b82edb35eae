theorem kS_Ma_ok (sa : Nat → Nat) : ∀ q ∈ kS_Ma sa, tables_1[q.2.2.2.1]? = some (kf_link "java/lang/Math" q.1 q.2.2.2.2 (q.2.1.1, q.2.1.2.1, q.2.1.2.2, false)) ∧ (q.2.2.2.2 = true → ("java/lang/Math", q.1, q.2.1.1, q.2.1.2.1, q.2.1.2.2, "RoutingField") ∈ kZ3) ∧ (q.2.1.1, q.2.1.2.1, q.2.1.2.2, q.2.2.1) ∈ (kZ sa).1 := fun _ h => absurd h List.not_mem_nil
set_option maxRecDepth 100000 in
theorem kE_Ma_in : ∀ q ∈ kE_Ma, ("java/lang/Math", q.1, q.2.1, q.2.2) ∈ kZ2 := by decide +kernel
theorem kE_Ma_ok (sa : Nat → Nat) : ∀ q ∈ kE_Ma, ("java/lang/Math", q.1, q.2.1, sa q.2.2) ∈ (kZ sa).2.1 := fun q hq => List.mem_map.mpr ⟨_, kE_Ma_in q hq, rfl⟩
set_option maxRecDepth 100000 in
theorem kF_Ob_ok : ∀ q ∈ kF_Ob, kf_chk "java/lang/Object" q = true := by decide +kernel
set_option maxRecDepth 100000 in
theorem kM_Ob_ok : ∀ q ∈ kM_Ob, km_chk "java/lang/Object" q = true := by decide +kernel
set_option maxRecDepth 100000 in
theorem kA_Ob_ok : ∀ q ∈ kA_Ob, tables_1[q.2.2.1]? = some (.classLink "java/lang/Object" q.1 q.2.1) ∧ q.2.1 ∈ kZ5 := by decide +kernel
set_option maxRecDepth 100000 in
theorem kI_Ob_ok : ∀ q ∈ kI_Ob, tables_1[q.2.2]? = some (.constant "java/lang/Object" q.1 q.2.1) := by decide +kernel
set_option maxRecDepth 100000 in
theorem kJ_Ob_ok : ∀ q ∈ kJ_Ob, tables_1[q.2.2]? = some (.constantLong "java/lang/Object" q.1 q.2.1) := by decide +kernel
theorem kS_Ob_ok (sa : Nat → Nat) : ∀ q ∈ kS_Ob sa, tables_1[q.2.2.2.1]? = some (kf_link "java/lang/Object" q.1 q.2.2.2.2 (q.2.1.1, q.2.1.2.1, q.2.1.2.2, false)) ∧ (q.2.2.2.2 = true → ("java/lang/Object", q.1, q.2.1.1, q.2.1.2.1, q.2.1.2.2, "RoutingField") ∈ kZ3) ∧ (q.2.1.1, q.2.1.2.1, q.2.1.2.2, q.2.2.1) ∈ (kZ sa).1 := fun _ h => absurd h List.not_mem_nil
set_option maxRecDepth 100000 in
theorem kE_Ob_in : ∀ q ∈ kE_Ob, ("java/lang/Object", q.1, q.2.1, q.2.2) ∈ kZ2 := by decide +kernel
theorem kE_Ob_ok (sa : Nat → Nat) : ∀ q ∈ kE_Ob, ("java/lang/Object", q.1, q.2.1, sa q.2.2) ∈ (kZ sa).2.1 := fun q hq => List.mem_map.mpr ⟨_, kE_Ob_in q hq, rfl⟩
theorem kn_Rx : Cond.initialized "java/lang/RuntimeException" ∈ pw_T := pw_in 23 (by decide +kernel) rfl
set_option maxRecDepth 100000 in
theorem kF_Rx_ok : ∀ q ∈ kF_Rx, kf_chk "java/lang/RuntimeException" q = true := by decide +kernel
set_option maxRecDepth 100000 in
theorem kM_Rx_ok : ∀ q ∈ kM_Rx, km_chk "java/lang/RuntimeException" q = true := by decide +kernel
set_option maxRecDepth 100000 in
theorem kA_Rx_ok : ∀ q ∈ kA_Rx, tables_1[q.2.2.1]? = some (.classLink "java/lang/RuntimeException" q.1 q.2.1) ∧ q.2.1 ∈ kZ5 := by decide +kernel
set_option maxRecDepth 100000 in
theorem kI_Rx_ok : ∀ q ∈ kI_Rx, tables_1[q.2.2]? = some (.constant "java/lang/RuntimeException" q.1 q.2.1) := by decide +kernel
set_option maxRecDepth 100000 in
theorem kJ_Rx_ok : ∀ q ∈ kJ_Rx, tables_1[q.2.2]? = some (.constantLong "java/lang/RuntimeException" q.1 q.2.1) := by decide +kernel
theorem kS_Rx_ok (sa : Nat → Nat) : ∀ q ∈ kS_Rx sa, tables_1[q.2.2.2.1]? = some (kf_link "java/lang/RuntimeException" q.1 q.2.2.2.2 (q.2.1.1, q.2.1.2.1, q.2.1.2.2, false)) ∧ (q.2.2.2.2 = true → ("java/lang/RuntimeException", q.1, q.2.1.1, q.2.1.2.1, q.2.1.2.2, "RoutingField") ∈ kZ3) ∧ (q.2.1.1, q.2.1.2.1, q.2.1.2.2, q.2.2.1) ∈ (kZ sa).1 := fun _ h => absurd h List.not_mem_nil
set_option maxRecDepth 100000 in
theorem kE_Rx_in : ∀ q ∈ kE_Rx, ("java/lang/RuntimeException", q.1, q.2.1, q.2.2) ∈ kZ2 := by decide +kernel
theorem kE_Rx_ok (sa : Nat → Nat) : ∀ q ∈ kE_Rx, ("java/lang/RuntimeException", q.1, q.2.1, sa q.2.2) ∈ (kZ sa).2.1 := fun q hq => List.mem_map.mpr ⟨_, kE_Rx_in q hq, rfl⟩
theorem kn_St : Cond.initialized "java/lang/String" ∈ pw_T := pw_in 9 (by decide +kernel) rfl
set_option maxRecDepth 100000 in
theorem kF_St_ok : ∀ q ∈ kF_St, kf_chk "java/lang/String" q = true := by decide +kernel
set_option maxRecDepth 100000 in
theorem kM_St_ok : ∀ q ∈ kM_St, km_chk "java/lang/String" q = true := by decide +kernel
set_option maxRecDepth 100000 in
theorem kA_St_ok : ∀ q ∈ kA_St, tables_1[q.2.2.1]? = some (.classLink "java/lang/String" q.1 q.2.1) ∧ q.2.1 ∈ kZ5 := by decide +kernel
set_option maxRecDepth 100000 in
theorem kI_St_ok : ∀ q ∈ kI_St, tables_1[q.2.2]? = some (.constant "java/lang/String" q.1 q.2.1) := by decide +kernel
set_option maxRecDepth 100000 in
theorem kJ_St_ok : ∀ q ∈ kJ_St, tables_1[q.2.2]? = some (.constantLong "java/lang/String" q.1 q.2.1) := by decide +kernel
theorem kS_St_ok (sa : Nat → Nat) : ∀ q ∈ kS_St sa, tables_1[q.2.2.2.1]? = some (kf_link "java/lang/String" q.1 q.2.2.2.2 (q.2.1.1, q.2.1.2.1, q.2.1.2.2, false)) ∧ (q.2.2.2.2 = true → ("java/lang/String", q.1, q.2.1.1, q.2.1.2.1, q.2.1.2.2, "RoutingField") ∈ kZ3) ∧ (q.2.1.1, q.2.1.2.1, q.2.1.2.2, q.2.2.1) ∈ (kZ sa).1 := List.forall_mem_cons.mpr ⟨⟨(by decide +kernel : tables_1[414]? = some (kf_link "java/lang/String" 38 false ("java/lang/String", "COMPACT_STRINGS", "Z", false))), (fun h => by cases h), List.mem_of_getElem? (i := 0) rfl⟩, List.forall_mem_cons.mpr ⟨⟨(by decide +kernel : tables_1[430]? = some (kf_link "java/lang/String" 1053 false ("jdk/internal/util/Preconditions", "SIOOBE_FORMATTER", "Ljava/util/function/BiFunction;", false))), (fun h => by cases h), List.mem_of_getElem? (i := 1) rfl⟩, fun _ h => absurd h List.not_mem_nil⟩⟩
set_option maxRecDepth 100000 in
theorem kE_St_in : ∀ q ∈ kE_St, ("java/lang/String", q.1, q.2.1, q.2.2) ∈ kZ2 := by decide +kernel
theorem kE_St_ok (sa : Nat → Nat) : ∀ q ∈ kE_St, ("java/lang/String", q.1, q.2.1, sa q.2.2) ∈ (kZ sa).2.1 := fun q hq => List.mem_map.mpr ⟨_, kE_St_in q hq, rfl⟩
theorem kn_S1 : Cond.initialized "java/lang/StringLatin1" ∈ pw_T := pw_in 10 (by decide +kernel) rfl
set_option maxRecDepth 100000 in
theorem kF_S1_ok : ∀ q ∈ kF_S1, kf_chk "java/lang/StringLatin1" q = true := by decide +kernel
set_option maxRecDepth 100000 in
theorem kM_S1_ok : ∀ q ∈ kM_S1, km_chk "java/lang/StringLatin1" q = true := by decide +kernel
set_option maxRecDepth 100000 in
theorem kA_S1_ok : ∀ q ∈ kA_S1, tables_1[q.2.2.1]? = some (.classLink "java/lang/StringLatin1" q.1 q.2.1) ∧ q.2.1 ∈ kZ5 := by decide +kernel
set_option maxRecDepth 100000 in
theorem kI_S1_ok : ∀ q ∈ kI_S1, tables_1[q.2.2]? = some (.constant "java/lang/StringLatin1" q.1 q.2.1) := by decide +kernel
set_option maxRecDepth 100000 in
theorem kJ_S1_ok : ∀ q ∈ kJ_S1, tables_1[q.2.2]? = some (.constantLong "java/lang/StringLatin1" q.1 q.2.1) := by decide +kernel
theorem kS_S1_ok (sa : Nat → Nat) : ∀ q ∈ kS_S1 sa, tables_1[q.2.2.2.1]? = some (kf_link "java/lang/StringLatin1" q.1 q.2.2.2.2 (q.2.1.1, q.2.1.2.1, q.2.1.2.2, false)) ∧ (q.2.2.2.2 = true → ("java/lang/StringLatin1", q.1, q.2.1.1, q.2.1.2.1, q.2.1.2.2, "RoutingField") ∈ kZ3) ∧ (q.2.1.1, q.2.1.2.1, q.2.1.2.2, q.2.2.1) ∈ (kZ sa).1 := fun _ h => absurd h List.not_mem_nil
set_option maxRecDepth 100000 in
theorem kE_S1_in : ∀ q ∈ kE_S1, ("java/lang/StringLatin1", q.1, q.2.1, q.2.2) ∈ kZ2 := by decide +kernel
theorem kE_S1_ok (sa : Nat → Nat) : ∀ q ∈ kE_S1, ("java/lang/StringLatin1", q.1, q.2.1, sa q.2.2) ∈ (kZ sa).2.1 := fun q hq => List.mem_map.mpr ⟨_, kE_S1_in q hq, rfl⟩
theorem kn_S2 : Cond.initialized "java/lang/StringUTF16" ∈ pw_T := pw_in 12 (by decide +kernel) rfl
set_option maxRecDepth 100000 in
theorem kF_S2_ok : ∀ q ∈ kF_S2, kf_chk "java/lang/StringUTF16" q = true := by decide +kernel
set_option maxRecDepth 100000 in
theorem kM_S2_ok : ∀ q ∈ kM_S2, km_chk "java/lang/StringUTF16" q = true := by decide +kernel
set_option maxRecDepth 100000 in
theorem kA_S2_ok : ∀ q ∈ kA_S2, tables_1[q.2.2.1]? = some (.classLink "java/lang/StringUTF16" q.1 q.2.1) ∧ q.2.1 ∈ kZ5 := by decide +kernel
set_option maxRecDepth 100000 in
theorem kI_S2_ok : ∀ q ∈ kI_S2, tables_1[q.2.2]? = some (.constant "java/lang/StringUTF16" q.1 q.2.1) := by decide +kernel
set_option maxRecDepth 100000 in
theorem kJ_S2_ok : ∀ q ∈ kJ_S2, tables_1[q.2.2]? = some (.constantLong "java/lang/StringUTF16" q.1 q.2.1) := by decide +kernel
theorem kS_S2_ok (sa : Nat → Nat) : ∀ q ∈ kS_S2 sa, tables_1[q.2.2.2.1]? = some (kf_link "java/lang/StringUTF16" q.1 q.2.2.2.2 (q.2.1.1, q.2.1.2.1, q.2.1.2.2, false)) ∧ (q.2.2.2.2 = true → ("java/lang/StringUTF16", q.1, q.2.1.1, q.2.1.2.1, q.2.1.2.2, "RoutingField") ∈ kZ3) ∧ (q.2.1.1, q.2.1.2.1, q.2.1.2.2, q.2.2.1) ∈ (kZ sa).1 := fun _ h => absurd h List.not_mem_nil
set_option maxRecDepth 100000 in
theorem kE_S2_in : ∀ q ∈ kE_S2, ("java/lang/StringUTF16", q.1, q.2.1, q.2.2) ∈ kZ2 := by decide +kernel
theorem kE_S2_ok (sa : Nat → Nat) : ∀ q ∈ kE_S2, ("java/lang/StringUTF16", q.1, q.2.1, sa q.2.2) ∈ (kZ sa).2.1 := fun q hq => List.mem_map.mpr ⟨_, kE_S2_in q hq, rfl⟩
theorem kn_Th : Cond.initialized "java/lang/Throwable" ∈ pw_T := pw_in 21 (by decide +kernel) rfl
set_option maxRecDepth 100000 in
theorem kF_Th_ok : ∀ q ∈ kF_Th, kf_chk "java/lang/Throwable" q = true := by decide +kernel
set_option maxRecDepth 100000 in
theorem kM_Th_ok : ∀ q ∈ kM_Th, km_chk "java/lang/Throwable" q = true := by decide +kernel
set_option maxRecDepth 100000 in
theorem kA_Th_ok : ∀ q ∈ kA_Th, tables_1[q.2.2.1]? = some (.classLink "java/lang/Throwable" q.1 q.2.1) ∧ q.2.1 ∈ kZ5 := by decide +kernel
set_option maxRecDepth 100000 in
theorem kI_Th_ok : ∀ q ∈ kI_Th, tables_1[q.2.2]? = some (.constant "java/lang/Throwable" q.1 q.2.1) := by decide +kernel
set_option maxRecDepth 100000 in
theorem kJ_Th_ok : ∀ q ∈ kJ_Th, tables_1[q.2.2]? = some (.constantLong "java/lang/Throwable" q.1 q.2.1) := by decide +kernel
theorem kS_Th_ok (sa : Nat → Nat) : ∀ q ∈ kS_Th sa, tables_1[q.2.2.2.1]? = some (kf_link "java/lang/Throwable" q.1 q.2.2.2.2 (q.2.1.1, q.2.1.2.1, q.2.1.2.2, false)) ∧ (q.2.2.2.2 = true → ("java/lang/Throwable", q.1, q.2.1.1, q.2.1.2.1, q.2.1.2.2, "RoutingField") ∈ kZ3) ∧ (q.2.1.1, q.2.1.2.1, q.2.1.2.2, q.2.2.1) ∈ (kZ sa).1 := fun _ h => absurd h List.not_mem_nil
set_option maxRecDepth 100000 in
theorem kE_Th_in : ∀ q ∈ kE_Th, ("java/lang/Throwable", q.1, q.2.1, q.2.2) ∈ kZ2 := by decide +kernel
theorem kE_Th_ok (sa : Nat → Nat) : ∀ q ∈ kE_Th, ("java/lang/Throwable", q.1, q.2.1, sa q.2.2) ∈ (kZ sa).2.1 := fun q hq => List.mem_map.mpr ⟨_, kE_Th_in q hq, rfl⟩
theorem kn_Ns : Cond.initialized "java/util/NoSuchElementException" ∈ pw_T := pw_in 24 (by decide +kernel) rfl
set_option maxRecDepth 100000 in
theorem kF_Ns_ok : ∀ q ∈ kF_Ns, kf_chk "java/util/NoSuchElementException" q = true := by decide +kernel
set_option maxRecDepth 100000 in
theorem kM_Ns_ok : ∀ q ∈ kM_Ns, km_chk "java/util/NoSuchElementException" q = true := by decide +kernel
set_option maxRecDepth 100000 in
theorem kA_Ns_ok : ∀ q ∈ kA_Ns, tables_1[q.2.2.1]? = some (.classLink "java/util/NoSuchElementException" q.1 q.2.1) ∧ q.2.1 ∈ kZ5 := by decide +kernel
set_option maxRecDepth 100000 in
theorem kI_Ns_ok : ∀ q ∈ kI_Ns, tables_1[q.2.2]? = some (.constant "java/util/NoSuchElementException" q.1 q.2.1) := by decide +kernel
set_option maxRecDepth 100000 in
theorem kJ_Ns_ok : ∀ q ∈ kJ_Ns, tables_1[q.2.2]? = some (.constantLong "java/util/NoSuchElementException" q.1 q.2.1) := by decide +kernel
theorem kS_Ns_ok (sa : Nat → Nat) : ∀ q ∈ kS_Ns sa, tables_1[q.2.2.2.1]? = some (kf_link "java/util/NoSuchElementException" q.1 q.2.2.2.2 (q.2.1.1, q.2.1.2.1, q.2.1.2.2, false)) ∧ (q.2.2.2.2 = true → ("java/util/NoSuchElementException", q.1, q.2.1.1, q.2.1.2.1, q.2.1.2.2, "RoutingField") ∈ kZ3) ∧ (q.2.1.1, q.2.1.2.1, q.2.1.2.2, q.2.2.1) ∈ (kZ sa).1 := fun _ h => absurd h List.not_mem_nil
set_option maxRecDepth 100000 in
theorem kE_Ns_in : ∀ q ∈ kE_Ns, ("java/util/NoSuchElementException", q.1, q.2.1, q.2.2) ∈ kZ2 := by decide +kernel
theorem kE_Ns_ok (sa : Nat → Nat) : ∀ q ∈ kE_Ns, ("java/util/NoSuchElementException", q.1, q.2.1, sa q.2.2) ∈ (kZ sa).2.1 := fun q hq => List.mem_map.mpr ⟨_, kE_Ns_in q hq, rfl⟩
theorem kn_Pc : Cond.initialized "jdk/internal/util/Preconditions" ∈ pw_T := pw_in 11 (by decide +kernel) rfl
set_option maxRecDepth 100000 in
theorem kF_Pc_ok : ∀ q ∈ kF_Pc, kf_chk "jdk/internal/util/Preconditions" q = true := by decide +kernel
set_option maxRecDepth 100000 in
theorem kM_Pc_ok : ∀ q ∈ kM_Pc, km_chk "jdk/internal/util/Preconditions" q = true := by decide +kernel
set_option maxRecDepth 100000 in
theorem kA_Pc_ok : ∀ q ∈ kA_Pc, tables_1[q.2.2.1]? = some (.classLink "jdk/internal/util/Preconditions" q.1 q.2.1) ∧ q.2.1 ∈ kZ5 := by decide +kernel
set_option maxRecDepth 100000 in
theorem kI_Pc_ok : ∀ q ∈ kI_Pc, tables_1[q.2.2]? = some (.constant "jdk/internal/util/Preconditions" q.1 q.2.1) := by decide +kernel
set_option maxRecDepth 100000 in
theorem kJ_Pc_ok : ∀ q ∈ kJ_Pc, tables_1[q.2.2]? = some (.constantLong "jdk/internal/util/Preconditions" q.1 q.2.1) := by decide +kernel
theorem kS_Pc_ok (sa : Nat → Nat) : ∀ q ∈ kS_Pc sa, tables_1[q.2.2.2.1]? = some (kf_link "jdk/internal/util/Preconditions" q.1 q.2.2.2.2 (q.2.1.1, q.2.1.2.1, q.2.1.2.2, false)) ∧ (q.2.2.2.2 = true → ("jdk/internal/util/Preconditions", q.1, q.2.1.1, q.2.1.2.1, q.2.1.2.2, "RoutingField") ∈ kZ3) ∧ (q.2.1.1, q.2.1.2.1, q.2.1.2.2, q.2.2.1) ∈ (kZ sa).1 := fun _ h => absurd h List.not_mem_nil
set_option maxRecDepth 100000 in
theorem kE_Pc_in : ∀ q ∈ kE_Pc, ("jdk/internal/util/Preconditions", q.1, q.2.1, q.2.2) ∈ kZ2 := by decide +kernel
theorem kE_Pc_ok (sa : Nat → Nat) : ∀ q ∈ kE_Pc, ("jdk/internal/util/Preconditions", q.1, q.2.1, sa q.2.2) ∈ (kZ sa).2.1 := fun q hq => List.mem_map.mpr ⟨_, kE_Pc_in q hq, rfl⟩
