set_option maxRecDepth 100000 in
theorem kA_Re_ok : ∀ q ∈ kA_Re, tables_1[q.2.2.1]? = some (.classLink "RoutingField$Reader" q.1 q.2.1) ∧ q.2.1 ∈ kZ5 := by decide +kernel
set_option maxRecDepth 100000 in
theorem kI_Re_ok : ∀ q ∈ kI_Re, tables_1[q.2.2]? = some (.constant "RoutingField$Reader" q.1 q.2.1) := by decide +kernel
set_option maxRecDepth 100000 in
theorem kJ_Re_ok : ∀ q ∈ kJ_Re, tables_1[q.2.2]? = some (.constantLong "RoutingField$Reader" q.1 q.2.1) := by decide +kernel
theorem kS_Re_ok (sa : Nat → Nat) : ∀ q ∈ kS_Re sa, tables_1[q.2.2.2.1]? = some (kf_link "RoutingField$Reader" q.1 q.2.2.2.2 (q.2.1.1, q.2.1.2.1, q.2.1.2.2, false)) ∧ (q.2.2.2.2 = true → ("RoutingField$Reader", q.1, q.2.1.1, q.2.1.2.1, q.2.1.2.2, "RoutingField") ∈ kZ3) ∧ (q.2.1.1, q.2.1.2.1, q.2.1.2.2, q.2.2.1) ∈ (kZ sa).1 := fun _ h => absurd h List.not_mem_nil
set_option maxRecDepth 100000 in
theorem kE_Re_in : ∀ q ∈ kE_Re, ("RoutingField$Reader", q.1, q.2.1, q.2.2) ∈ kZ2 := by decide +kernel
theorem kE_Re_ok (sa : Nat → Nat) : ∀ q ∈ kE_Re, ("RoutingField$Reader", q.1, q.2.1, sa q.2.2) ∈ (kZ sa).2.1 := fun q hq => List.mem_map.mpr ⟨_, kE_Re_in q hq, rfl⟩
theorem kn_Ro : Cond.initialized "RoutingField$Route" ∈ pw_T := pw_in 19 (by decide +kernel) rfl
set_option maxRecDepth 100000 in
theorem kF_Ro_ok : ∀ q ∈ kF_Ro, kf_chk "RoutingField$Route" q = true := by decide +kernel
set_option maxRecDepth 100000 in
theorem kM_Ro_ok : ∀ q ∈ kM_Ro, km_chk "RoutingField$Route" q = true := by decide +kernel
set_option maxRecDepth 100000 in
theorem kA_Ro_ok : ∀ q ∈ kA_Ro, tables_1[q.2.2.1]? = some (.classLink "RoutingField$Route" q.1 q.2.1) ∧ q.2.1 ∈ kZ5 := by decide +kernel
set_option maxRecDepth 100000 in
theorem kI_Ro_ok : ∀ q ∈ kI_Ro, tables_1[q.2.2]? = some (.constant "RoutingField$Route" q.1 q.2.1) := by decide +kernel
set_option maxRecDepth 100000 in
theorem kJ_Ro_ok : ∀ q ∈ kJ_Ro, tables_1[q.2.2]? = some (.constantLong "RoutingField$Route" q.1 q.2.1) := by decide +kernel
theorem kS_Ro_ok (sa : Nat → Nat) : ∀ q ∈ kS_Ro sa, tables_1[q.2.2.2.1]? = some (kf_link "RoutingField$Route" q.1 q.2.2.2.2 (q.2.1.1, q.2.1.2.1, q.2.1.2.2, false)) ∧ (q.2.2.2.2 = true → ("RoutingField$Route", q.1, q.2.1.1, q.2.1.2.1, q.2.1.2.2, "RoutingField") ∈ kZ3) ∧ (q.2.1.1, q.2.1.2.1, q.2.1.2.2, q.2.2.1) ∈ (kZ sa).1 := fun _ h => absurd h List.not_mem_nil
set_option maxRecDepth 100000 in
theorem kE_Ro_in : ∀ q ∈ kE_Ro, ("RoutingField$Route", q.1, q.2.1, q.2.2) ∈ kZ2 := by decide +kernel
theorem kE_Ro_ok (sa : Nat → Nat) : ∀ q ∈ kE_Ro, ("RoutingField$Route", q.1, q.2.1, sa q.2.2) ∈ (kZ sa).2.1 := fun q hq => List.mem_map.mpr ⟨_, kE_Ro_in q hq, rfl⟩
theorem kn_Rr : Cond.initialized "RoutingField$Router" ∈ pw_T := pw_in 15 (by decide +kernel) rfl
set_option maxRecDepth 100000 in
theorem kF_Rr_ok : ∀ q ∈ kF_Rr, kf_chk "RoutingField$Router" q = true := by decide +kernel
set_option maxRecDepth 100000 in
theorem kM_Rr_ok : ∀ q ∈ kM_Rr, km_chk "RoutingField$Router" q = true := by decide +kernel
set_option maxRecDepth 100000 in
theorem kA_Rr_ok : ∀ q ∈ kA_Rr, tables_1[q.2.2.1]? = some (.classLink "RoutingField$Router" q.1 q.2.1) ∧ q.2.1 ∈ kZ5 := by decide +kernel
set_option maxRecDepth 100000 in
theorem kI_Rr_ok : ∀ q ∈ kI_Rr, tables_1[q.2.2]? = some (.constant "RoutingField$Router" q.1 q.2.1) := by decide +kernel
set_option maxRecDepth 100000 in
theorem kJ_Rr_ok : ∀ q ∈ kJ_Rr, tables_1[q.2.2]? = some (.constantLong "RoutingField$Router" q.1 q.2.1) := by decide +kernel
theorem kS_Rr_ok (sa : Nat → Nat) : ∀ q ∈ kS_Rr sa, tables_1[q.2.2.2.1]? = some (kf_link "RoutingField$Router" q.1 q.2.2.2.2 (q.2.1.1, q.2.1.2.1, q.2.1.2.2, false)) ∧ (q.2.2.2.2 = true → ("RoutingField$Router", q.1, q.2.1.1, q.2.1.2.1, q.2.1.2.2, "RoutingField") ∈ kZ3) ∧ (q.2.1.1, q.2.1.2.1, q.2.1.2.2, q.2.2.1) ∈ (kZ sa).1 := fun _ h => absurd h List.not_mem_nil
set_option maxRecDepth 100000 in
theorem kE_Rr_in : ∀ q ∈ kE_Rr, ("RoutingField$Router", q.1, q.2.1, q.2.2) ∈ kZ2 := by decide +kernel
theorem kE_Rr_ok (sa : Nat → Nat) : ∀ q ∈ kE_Rr, ("RoutingField$Router", q.1, q.2.1, sa q.2.2) ∈ (kZ sa).2.1 := fun q hq => List.mem_map.mpr ⟨_, kE_Rr_in q hq, rfl⟩
theorem kn_Ta : Cond.initialized "RoutingField$Table" ∈ pw_T := pw_in 5 (by decide +kernel) rfl
set_option maxRecDepth 100000 in
theorem kF_Ta_ok : ∀ q ∈ kF_Ta, kf_chk "RoutingField$Table" q = true := by decide +kernel
set_option maxRecDepth 100000 in
theorem kM_Ta_ok : ∀ q ∈ kM_Ta, km_chk "RoutingField$Table" q = true := by decide +kernel
set_option maxRecDepth 100000 in
theorem kA_Ta_ok : ∀ q ∈ kA_Ta, tables_1[q.2.2.1]? = some (.classLink "RoutingField$Table" q.1 q.2.1) ∧ q.2.1 ∈ kZ5 := by decide +kernel
set_option maxRecDepth 100000 in
theorem kI_Ta_ok : ∀ q ∈ kI_Ta, tables_1[q.2.2]? = some (.constant "RoutingField$Table" q.1 q.2.1) := by decide +kernel
set_option maxRecDepth 100000 in
theorem kJ_Ta_ok : ∀ q ∈ kJ_Ta, tables_1[q.2.2]? = some (.constantLong "RoutingField$Table" q.1 q.2.1) := by decide +kernel
theorem kS_Ta_ok (sa : Nat → Nat) : ∀ q ∈ kS_Ta sa, tables_1[q.2.2.2.1]? = some (kf_link "RoutingField$Table" q.1 q.2.2.2.2 (q.2.1.1, q.2.1.2.1, q.2.1.2.2, false)) ∧ (q.2.2.2.2 = true → ("RoutingField$Table", q.1, q.2.1.1, q.2.1.2.1, q.2.1.2.2, "RoutingField") ∈ kZ3) ∧ (q.2.1.1, q.2.1.2.1, q.2.1.2.2, q.2.2.1) ∈ (kZ sa).1 := fun _ h => absurd h List.not_mem_nil
set_option maxRecDepth 100000 in
theorem kE_Ta_in : ∀ q ∈ kE_Ta, ("RoutingField$Table", q.1, q.2.1, q.2.2) ∈ kZ2 := by decide +kernel
theorem kE_Ta_ok (sa : Nat → Nat) : ∀ q ∈ kE_Ta, ("RoutingField$Table", q.1, q.2.1, sa q.2.2) ∈ (kZ sa).2.1 := fun q hq => List.mem_map.mpr ⟨_, kE_Ta_in q hq, rfl⟩
theorem kn_La : Cond.initialized "RoutingFieldLaw" ∈ pw_T := pw_in 0 (by decide +kernel) rfl
set_option maxRecDepth 100000 in
theorem kF_La_ok : ∀ q ∈ kF_La, kf_chk "RoutingFieldLaw" q = true := by decide +kernel
set_option maxRecDepth 100000 in
theorem kM_La_ok : ∀ q ∈ kM_La, km_chk "RoutingFieldLaw" q = true := by decide +kernel
set_option maxRecDepth 100000 in
theorem kA_La_ok : ∀ q ∈ kA_La, tables_1[q.2.2.1]? = some (.classLink "RoutingFieldLaw" q.1 q.2.1) ∧ q.2.1 ∈ kZ5 := by decide +kernel
set_option maxRecDepth 100000 in
theorem kI_La_ok : ∀ q ∈ kI_La, tables_1[q.2.2]? = some (.constant "RoutingFieldLaw" q.1 q.2.1) := by decide +kernel
set_option maxRecDepth 100000 in
theorem kJ_La_ok : ∀ q ∈ kJ_La, tables_1[q.2.2]? = some (.constantLong "RoutingFieldLaw" q.1 q.2.1) := by decide +kernel
theorem kS_La_ok (sa : Nat → Nat) : ∀ q ∈ kS_La sa, tables_1[q.2.2.2.1]? = some (kf_link "RoutingFieldLaw" q.1 q.2.2.2.2 (q.2.1.1, q.2.1.2.1, q.2.1.2.2, false)) ∧ (q.2.2.2.2 = true → ("RoutingFieldLaw", q.1, q.2.1.1, q.2.1.2.1, q.2.1.2.2, "RoutingField") ∈ kZ3) ∧ (q.2.1.1, q.2.1.2.1, q.2.1.2.2, q.2.2.1) ∈ (kZ sa).1 := fun _ h => absurd h List.not_mem_nil
set_option maxRecDepth 100000 in
theorem kE_La_in : ∀ q ∈ kE_La, ("RoutingFieldLaw", q.1, q.2.1, q.2.2) ∈ kZ2 := by decide +kernel
theorem kE_La_ok (sa : Nat → Nat) : ∀ q ∈ kE_La, ("RoutingFieldLaw", q.1, q.2.1, sa q.2.2) ∈ (kZ sa).2.1 := fun q hq => List.mem_map.mpr ⟨_, kE_La_in q hq, rfl⟩
theorem kn_Mo : Cond.initialized "RoutingFieldModel" ∈ pw_T := pw_in 6 (by decide +kernel) rfl
set_option maxRecDepth 100000 in
theorem kF_Mo_ok : ∀ q ∈ kF_Mo, kf_chk "RoutingFieldModel" q = true := by decide +kernel
set_option maxRecDepth 100000 in
theorem kM_Mo_ok : ∀ q ∈ kM_Mo, km_chk "RoutingFieldModel" q = true := by decide +kernel
set_option maxRecDepth 100000 in
theorem kA_Mo_ok : ∀ q ∈ kA_Mo, tables_1[q.2.2.1]? = some (.classLink "RoutingFieldModel" q.1 q.2.1) ∧ q.2.1 ∈ kZ5 := by decide +kernel
set_option maxRecDepth 100000 in
theorem kI_Mo_ok : ∀ q ∈ kI_Mo, tables_1[q.2.2]? = some (.constant "RoutingFieldModel" q.1 q.2.1) := by decide +kernel
set_option maxRecDepth 100000 in
theorem kJ_Mo_ok : ∀ q ∈ kJ_Mo, tables_1[q.2.2]? = some (.constantLong "RoutingFieldModel" q.1 q.2.1) := by decide +kernel
theorem kS_Mo_ok (sa : Nat → Nat) : ∀ q ∈ kS_Mo sa, tables_1[q.2.2.2.1]? = some (kf_link "RoutingFieldModel" q.1 q.2.2.2.2 (q.2.1.1, q.2.1.2.1, q.2.1.2.2, false)) ∧ (q.2.2.2.2 = true → ("RoutingFieldModel", q.1, q.2.1.1, q.2.1.2.1, q.2.1.2.2, "RoutingField") ∈ kZ3) ∧ (q.2.1.1, q.2.1.2.1, q.2.1.2.2, q.2.2.1) ∈ (kZ sa).1 := fun _ h => absurd h List.not_mem_nil
set_option maxRecDepth 100000 in
theorem kE_Mo_in : ∀ q ∈ kE_Mo, ("RoutingFieldModel", q.1, q.2.1, q.2.2) ∈ kZ2 := by decide +kernel
theorem kE_Mo_ok (sa : Nat → Nat) : ∀ q ∈ kE_Mo, ("RoutingFieldModel", q.1, q.2.1, sa q.2.2) ∈ (kZ sa).2.1 := fun q hq => List.mem_map.mpr ⟨_, kE_Mo_in q hq, rfl⟩
theorem kn_Ex : Cond.initialized "java/lang/Exception" ∈ pw_T := pw_in 22 (by decide +kernel) rfl
set_option maxRecDepth 100000 in
theorem kF_Ex_ok : ∀ q ∈ kF_Ex, kf_chk "java/lang/Exception" q = true := by decide +kernel
set_option maxRecDepth 100000 in
theorem kM_Ex_ok : ∀ q ∈ kM_Ex, km_chk "java/lang/Exception" q = true := by decide +kernel
set_option maxRecDepth 100000 in
theorem kA_Ex_ok : ∀ q ∈ kA_Ex, tables_1[q.2.2.1]? = some (.classLink "java/lang/Exception" q.1 q.2.1) ∧ q.2.1 ∈ kZ5 := by decide +kernel
set_option maxRecDepth 100000 in
theorem kI_Ex_ok : ∀ q ∈ kI_Ex, tables_1[q.2.2]? = some (.constant "java/lang/Exception" q.1 q.2.1) := by decide +kernel
set_option maxRecDepth 100000 in
theorem kJ_Ex_ok : ∀ q ∈ kJ_Ex, tables_1[q.2.2]? = some (.constantLong "java/lang/Exception" q.1 q.2.1) := by decide +kernel
theorem kS_Ex_ok (sa : Nat → Nat) : ∀ q ∈ kS_Ex sa, tables_1[q.2.2.2.1]? = some (kf_link "java/lang/Exception" q.1 q.2.2.2.2 (q.2.1.1, q.2.1.2.1, q.2.1.2.2, false)) ∧ (q.2.2.2.2 = true → ("java/lang/Exception", q.1, q.2.1.1, q.2.1.2.1, q.2.1.2.2, "RoutingField") ∈ kZ3) ∧ (q.2.1.1, q.2.1.2.1, q.2.1.2.2, q.2.2.1) ∈ (kZ sa).1 := fun _ h => absurd h List.not_mem_nil
set_option maxRecDepth 100000 in
theorem kE_Ex_in : ∀ q ∈ kE_Ex, ("java/lang/Exception", q.1, q.2.1, q.2.2) ∈ kZ2 := by decide +kernel
theorem kE_Ex_ok (sa : Nat → Nat) : ∀ q ∈ kE_Ex, ("java/lang/Exception", q.1, q.2.1, sa q.2.2) ∈ (kZ sa).2.1 := fun q hq => List.mem_map.mpr ⟨_, kE_Ex_in q hq, rfl⟩
theorem kn_Ig : Cond.initialized "java/lang/Integer" ∈ pw_T := pw_in 20 (by decide +kernel) rfl
set_option maxRecDepth 100000 in
theorem kF_Ig_ok : ∀ q ∈ kF_Ig, kf_chk "java/lang/Integer" q = true := by decide +kernel
set_option maxRecDepth 100000 in
theorem kM_Ig_ok : ∀ q ∈ kM_Ig, km_chk "java/lang/Integer" q = true := by decide +kernel
set_option maxRecDepth 100000 in
theorem kA_Ig_ok : ∀ q ∈ kA_Ig, tables_1[q.2.2.1]? = some (.classLink "java/lang/Integer" q.1 q.2.1) ∧ q.2.1 ∈ kZ5 := by decide +kernel
set_option maxRecDepth 100000 in
theorem kI_Ig_ok : ∀ q ∈ kI_Ig, tables_1[q.2.2]? = some (.constant "java/lang/Integer" q.1 q.2.1) := by decide +kernel
set_option maxRecDepth 100000 in
theorem kJ_Ig_ok : ∀ q ∈ kJ_Ig, tables_1[q.2.2]? = some (.constantLong "java/lang/Integer" q.1 q.2.1) := by decide +kernel
theorem kS_Ig_ok (sa : Nat → Nat) : ∀ q ∈ kS_Ig sa, tables_1[q.2.2.2.1]? = some (kf_link "java/lang/Integer" q.1 q.2.2.2.2 (q.2.1.1, q.2.1.2.1, q.2.1.2.2, false)) ∧ (q.2.2.2.2 = true → ("java/lang/Integer", q.1, q.2.1.1, q.2.1.2.1, q.2.1.2.2, "RoutingField") ∈ kZ3) ∧ (q.2.1.1, q.2.1.2.1, q.2.1.2.2, q.2.2.1) ∈ (kZ sa).1 := fun _ h => absurd h List.not_mem_nil
set_option maxRecDepth 100000 in
theorem kE_Ig_in : ∀ q ∈ kE_Ig, ("java/lang/Integer", q.1, q.2.1, q.2.2) ∈ kZ2 := by decide +kernel
theorem kE_Ig_ok (sa : Nat → Nat) : ∀ q ∈ kE_Ig, ("java/lang/Integer", q.1, q.2.1, sa q.2.2) ∈ (kZ sa).2.1 := fun q hq => List.mem_map.mpr ⟨_, kE_Ig_in q hq, rfl⟩
theorem kn_Ma : Cond.initialized "java/lang/Math" ∈ pw_T := pw_in 14 (by decide +kernel) rfl
set_option maxRecDepth 100000 in
theorem kF_Ma_ok : ∀ q ∈ kF_Ma, kf_chk "java/lang/Math" q = true := by decide +kernel
set_option maxRecDepth 100000 in
theorem kM_Ma_ok : ∀ q ∈ kM_Ma, km_chk "java/lang/Math" q = true := by decide +kernel
set_option maxRecDepth 100000 in
theorem kA_Ma_ok : ∀ q ∈ kA_Ma, tables_1[q.2.2.1]? = some (.classLink "java/lang/Math" q.1 q.2.1) ∧ q.2.1 ∈ kZ5 := by decide +kernel
set_option maxRecDepth 100000 in
theorem kI_Ma_ok : ∀ q ∈ kI_Ma, tables_1[q.2.2]? = some (.constant "java/lang/Math" q.1 q.2.1) := by decide +kernel
set_option maxRecDepth 100000 in
theorem kJ_Ma_ok : ∀ q ∈ kJ_Ma, tables_1[q.2.2]? = some (.constantLong "java/lang/Math" q.1 q.2.1) := by decide +kernel
