/-! What the tables say of each kind: its fields' types, their names apart, their places laid. -/
set_option maxRecDepth 100000 in
theorem kY_By_ok : ∀ k, k < 2 → parseFieldDescriptor (kT_By k).2.2.1 = some (kY_By k) := by decide +kernel
set_option maxRecDepth 100000 in
theorem kN_By : ∀ a, a < 2 → ∀ b, b < 2 → a ≠ b → (kT_By a).2.1 ≠ (kT_By b).2.1 := by decide +kernel
set_option maxRecDepth 100000 in
theorem kL_By : ∀ w ∈ u_ws kR_By kT_By 2, w ∈ pw_T := pw_lay kQ_By (by decide +kernel)
set_option maxRecDepth 100000 in
theorem kY_Ch_ok : ∀ k, k < 12 → parseFieldDescriptor (kT_Ch k).2.2.1 = some (kY_Ch k) := by decide +kernel
set_option maxRecDepth 100000 in
theorem kN_Ch : ∀ a, a < 12 → ∀ b, b < 12 → a ≠ b → (kT_Ch a).2.1 ≠ (kT_Ch b).2.1 := by decide +kernel
set_option maxRecDepth 100000 in
theorem kL_Ch : ∀ w ∈ u_ws kR_Ch kT_Ch 12, w ∈ pw_T := pw_lay kQ_Ch (by decide +kernel)
set_option maxRecDepth 100000 in
theorem kY_Da_ok : ∀ k, k < 12 → parseFieldDescriptor (kT_Da k).2.2.1 = some (kY_Da k) := by decide +kernel
set_option maxRecDepth 100000 in
theorem kN_Da : ∀ a, a < 12 → ∀ b, b < 12 → a ≠ b → (kT_Da a).2.1 ≠ (kT_Da b).2.1 := by decide +kernel
set_option maxRecDepth 100000 in
theorem kL_Da : ∀ w ∈ u_ws kR_Da kT_Da 12, w ∈ pw_T := pw_lay kQ_Da (by decide +kernel)
set_option maxRecDepth 100000 in
theorem kY_Li_ok : ∀ k, k < 8 → parseFieldDescriptor (kT_Li k).2.2.1 = some (kY_Li k) := by decide +kernel
set_option maxRecDepth 100000 in
theorem kN_Li : ∀ a, a < 8 → ∀ b, b < 8 → a ≠ b → (kT_Li a).2.1 ≠ (kT_Li b).2.1 := by decide +kernel
set_option maxRecDepth 100000 in
theorem kL_Li : ∀ w ∈ u_ws kR_Li kT_Li 8, w ∈ pw_T := pw_lay kQ_Li (by decide +kernel)
set_option maxRecDepth 100000 in
theorem kY_Po_ok : ∀ k, k < 19 → parseFieldDescriptor (kT_Po k).2.2.1 = some (kY_Po k) := by decide +kernel
set_option maxRecDepth 100000 in
theorem kN_Po : ∀ a, a < 19 → ∀ b, b < 19 → a ≠ b → (kT_Po a).2.1 ≠ (kT_Po b).2.1 := by decide +kernel
set_option maxRecDepth 100000 in
theorem kL_Po : ∀ w ∈ u_ws kR_Po kT_Po 19, w ∈ pw_T := pw_lay kQ_Po (by decide +kernel)
set_option maxRecDepth 100000 in
theorem kY_Pr_ok : ∀ k, k < 4 → parseFieldDescriptor (kT_Pr k).2.2.1 = some (kY_Pr k) := by decide +kernel
set_option maxRecDepth 100000 in
theorem kN_Pr : ∀ a, a < 4 → ∀ b, b < 4 → a ≠ b → (kT_Pr a).2.1 ≠ (kT_Pr b).2.1 := by decide +kernel
set_option maxRecDepth 100000 in
theorem kL_Pr : ∀ w ∈ u_ws kR_Pr kT_Pr 4, w ∈ pw_T := pw_lay kQ_Pr (by decide +kernel)
set_option maxRecDepth 100000 in
theorem kY_Pl_ok : ∀ k, k < 6 → parseFieldDescriptor (kT_Pl k).2.2.1 = some (kY_Pl k) := by decide +kernel
set_option maxRecDepth 100000 in
theorem kN_Pl : ∀ a, a < 6 → ∀ b, b < 6 → a ≠ b → (kT_Pl a).2.1 ≠ (kT_Pl b).2.1 := by decide +kernel
set_option maxRecDepth 100000 in
theorem kL_Pl : ∀ w ∈ u_ws kR_Pl kT_Pl 6, w ∈ pw_T := pw_lay kQ_Pl (by decide +kernel)
set_option maxRecDepth 100000 in
theorem kY_Re_ok : ∀ k, k < 12 → parseFieldDescriptor (kT_Re k).2.2.1 = some (kY_Re k) := by decide +kernel
set_option maxRecDepth 100000 in
theorem kN_Re : ∀ a, a < 12 → ∀ b, b < 12 → a ≠ b → (kT_Re a).2.1 ≠ (kT_Re b).2.1 := by decide +kernel
set_option maxRecDepth 100000 in
theorem kL_Re : ∀ w ∈ u_ws kR_Re kT_Re 12, w ∈ pw_T := pw_lay kQ_Re (by decide +kernel)
set_option maxRecDepth 100000 in
theorem kY_Ro_ok : ∀ k, k < 11 → parseFieldDescriptor (kT_Ro k).2.2.1 = some (kY_Ro k) := by decide +kernel
set_option maxRecDepth 100000 in
theorem kN_Ro : ∀ a, a < 11 → ∀ b, b < 11 → a ≠ b → (kT_Ro a).2.1 ≠ (kT_Ro b).2.1 := by decide +kernel
set_option maxRecDepth 100000 in
theorem kL_Ro : ∀ w ∈ u_ws kR_Ro kT_Ro 11, w ∈ pw_T := pw_lay kQ_Ro (by decide +kernel)
set_option maxRecDepth 100000 in
theorem kY_Rr_ok : ∀ k, k < 20 → parseFieldDescriptor (kT_Rr k).2.2.1 = some (kY_Rr k) := by decide +kernel
set_option maxRecDepth 100000 in
theorem kN_Rr : ∀ a, a < 20 → ∀ b, b < 20 → a ≠ b → (kT_Rr a).2.1 ≠ (kT_Rr b).2.1 := by decide +kernel
set_option maxRecDepth 100000 in
theorem kL_Rr : ∀ w ∈ u_ws kR_Rr kT_Rr 20, w ∈ pw_T := pw_lay kQ_Rr (by decide +kernel)
set_option maxRecDepth 100000 in
theorem kY_Ta_ok : ∀ k, k < 2 → parseFieldDescriptor (kT_Ta k).2.2.1 = some (kY_Ta k) := by decide +kernel
set_option maxRecDepth 100000 in
theorem kN_Ta : ∀ a, a < 2 → ∀ b, b < 2 → a ≠ b → (kT_Ta a).2.1 ≠ (kT_Ta b).2.1 := by decide +kernel
set_option maxRecDepth 100000 in
theorem kL_Ta : ∀ w ∈ u_ws kR_Ta kT_Ta 2, w ∈ pw_T := pw_lay kQ_Ta (by decide +kernel)
set_option maxRecDepth 100000 in
theorem kY_Rf_ok : ∀ k, k < 20 → parseFieldDescriptor (kT_Rf k).2.2.1 = some (kY_Rf k) := by decide +kernel
set_option maxRecDepth 100000 in
theorem kN_Rf : ∀ a, a < 20 → ∀ b, b < 20 → a ≠ b → (kT_Rf a).2.1 ≠ (kT_Rf b).2.1 := by decide +kernel
set_option maxRecDepth 100000 in
theorem kL_Rf : ∀ w ∈ u_ws kR_Rf kT_Rf 20, w ∈ pw_T := pw_lay kQ_Rf (by decide +kernel)
set_option maxRecDepth 100000 in
theorem kY_Mo_ok : ∀ k, k < 166 → parseFieldDescriptor (kT_Mo k).2.2.1 = some (kY_Mo k) := by decide +kernel
set_option maxRecDepth 100000 in
theorem kN_Mo : ∀ a, a < 166 → ∀ b, b < 166 → a ≠ b → (kT_Mo a).2.1 ≠ (kT_Mo b).2.1 := by decide +kernel
set_option maxRecDepth 100000 in
theorem kL_Mo : ∀ w ∈ u_ws kR_Mo kT_Mo 166, w ∈ pw_T := pw_lay kQ_Mo (by decide +kernel)
set_option maxRecDepth 100000 in
theorem kY_St_ok : ∀ k, k < 4 → parseFieldDescriptor (kT_St k).2.2.1 = some (kY_St k) := by decide +kernel
set_option maxRecDepth 100000 in
theorem kN_St : ∀ a, a < 4 → ∀ b, b < 4 → a ≠ b → (kT_St a).2.1 ≠ (kT_St b).2.1 := by decide +kernel
set_option maxRecDepth 100000 in
theorem kL_St : ∀ w ∈ u_ws kR_St kT_St 4, w ∈ pw_T := pw_lay kQ_St (by decide +kernel)
set_option maxRecDepth 100000 in
theorem kY_Ns_ok : ∀ k, k < 6 → parseFieldDescriptor (kT_Ns k).2.2.1 = some (kY_Ns k) := by decide +kernel
set_option maxRecDepth 100000 in
theorem kN_Ns : ∀ a, a < 6 → ∀ b, b < 6 → a ≠ b → (kT_Ns a).2.1 ≠ (kT_Ns b).2.1 := by decide +kernel
set_option maxRecDepth 100000 in
theorem kL_Ns : ∀ w ∈ u_ws kR_Ns kT_Ns 6, w ∈ pw_T := pw_lay kQ_Ns (by decide +kernel)
