/-- what the tables say of a class -/
def ClsOk (ci : Nat) : Prop := ∃ (T : u_T) (ty : Nat → FieldType), vwCl[ci]? = some (CN ci, T, NT ci) ∧ (∀ k, T k = FT ci k) ∧ (∀ w ∈ u_ws (CN ci) T (NT ci), w ∈ WT) ∧ (∀ k, k < NT ci → parseFieldDescriptor (T k).2.2.1 = some (ty k)) ∧ (∀ a, a < NT ci → ∀ b, b < NT ci → a ≠ b → (T a).2.1 ≠ (T b).2.1)
  ∧ Cond.instantiable (CN ci) (NT ci) ∈ WT ∧ Cond.initialized (CN ci) ∈ WT ∧ ∀ k, k < NT ci → (fk ci k = 0 ∧ ty k = .int) ∨ (fk ci k = 1 ∧ ty k = .long) ∨ (fk ci k = 2 ∧ refKind (ty k) = true) ∨ (fk ci k = 3 ∧ ty k = .boolean)
theorem cla_0 : u_ws RX0 TX0 2 = [188, 190].filterMap (fun i => lw_tbl[i]?) := by decide +kernel
theorem clb_0 : (u_ws RX0 TX0 2).all goodWord = true := by decide +kernel
theorem clc_0 : tb 179 (.instantiable RX0 2) = true := by decide +kernel
theorem cld_0 : tb 69 (.initialized RX0) = true := by decide +kernel
theorem cle_0 : ∀ k, k < 2 → (fk 0 k = 0 ∧ tyX0 k = .int) ∨ (fk 0 k = 1 ∧ tyX0 k = .long) ∨ (fk 0 k = 2 ∧ refKind (tyX0 k) = true) ∨ (fk 0 k = 3 ∧ tyX0 k = .boolean) := by decide +kernel
theorem cls_0 : ClsOk 0 := ⟨TX0, tyX0, rfl, fun _ => rfl, WT_of _ cla_0 clb_0, tyX0_ok, nmX0, WT_in clc_0 rfl, WT_in cld_0 rfl, cle_0⟩
theorem cla_1 : u_ws RX1 TX1 4 = [272, 274, 276, 278].filterMap (fun i => lw_tbl[i]?) := by decide +kernel
theorem clb_1 : (u_ws RX1 TX1 4).all goodWord = true := by decide +kernel
theorem clc_1 : tb 260 (.instantiable RX1 4) = true := by decide +kernel
theorem cld_1 : tb 74 (.initialized RX1) = true := by decide +kernel
theorem cle_1 : ∀ k, k < 4 → (fk 1 k = 0 ∧ tyX1 k = .int) ∨ (fk 1 k = 1 ∧ tyX1 k = .long) ∨ (fk 1 k = 2 ∧ refKind (tyX1 k) = true) ∨ (fk 1 k = 3 ∧ tyX1 k = .boolean) := by decide +kernel
theorem cls_1 : ClsOk 1 := ⟨TX1, tyX1, rfl, fun _ => rfl, WT_of _ cla_1 clb_1, tyX1_ok, nmX1, WT_in clc_1 rfl, WT_in cld_1 rfl, cle_1⟩
theorem cla_2 : u_ws RX2 TX2 2 = [241, 243].filterMap (fun i => lw_tbl[i]?) := by decide +kernel
theorem clb_2 : (u_ws RX2 TX2 2).all goodWord = true := by decide +kernel
theorem clc_2 : tb 233 (.instantiable RX2 2) = true := by decide +kernel
theorem cld_2 : tb 72 (.initialized RX2) = true := by decide +kernel
theorem cle_2 : ∀ k, k < 2 → (fk 2 k = 0 ∧ tyX2 k = .int) ∨ (fk 2 k = 1 ∧ tyX2 k = .long) ∨ (fk 2 k = 2 ∧ refKind (tyX2 k) = true) ∨ (fk 2 k = 3 ∧ tyX2 k = .boolean) := by decide +kernel
theorem cls_2 : ClsOk 2 := ⟨TX2, tyX2, rfl, fun _ => rfl, WT_of _ cla_2 clb_2, tyX2_ok, nmX2, WT_in clc_2 rfl, WT_in cld_2 rfl, cle_2⟩
theorem cla_3 : u_ws RX3 TX3 15 = [132, 134, 136, 138, 140, 142, 144, 146, 148, 150, 152, 154, 156, 158, 160].filterMap (fun i => lw_tbl[i]?) := by decide +kernel
theorem clb_3 : (u_ws RX3 TX3 15).all goodWord = true := by decide +kernel
theorem clc_3 : tb 91 (.instantiable RX3 15) = true := by decide +kernel
theorem cld_3 : tb 67 (.initialized RX3) = true := by decide +kernel
theorem cle_3 : ∀ k, k < 15 → (fk 3 k = 0 ∧ tyX3 k = .int) ∨ (fk 3 k = 1 ∧ tyX3 k = .long) ∨ (fk 3 k = 2 ∧ refKind (tyX3 k) = true) ∨ (fk 3 k = 3 ∧ tyX3 k = .boolean) := by decide +kernel
theorem cls_3 : ClsOk 3 := ⟨TX3, tyX3, rfl, fun _ => rfl, WT_of _ cla_3 clb_3, tyX3_ok, nmX3, WT_in clc_3 rfl, WT_in cld_3 rfl, cle_3⟩
theorem cla_4 : u_ws RX4 TX4 2 = [254, 256].filterMap (fun i => lw_tbl[i]?) := by decide +kernel
theorem clb_4 : (u_ws RX4 TX4 2).all goodWord = true := by decide +kernel
theorem clc_4 : tb 247 (.instantiable RX4 2) = true := by decide +kernel
theorem cld_4 : tb 73 (.initialized RX4) = true := by decide +kernel
theorem cle_4 : ∀ k, k < 2 → (fk 4 k = 0 ∧ tyX4 k = .int) ∨ (fk 4 k = 1 ∧ tyX4 k = .long) ∨ (fk 4 k = 2 ∧ refKind (tyX4 k) = true) ∨ (fk 4 k = 3 ∧ tyX4 k = .boolean) := by decide +kernel
theorem cls_4 : ClsOk 4 := ⟨TX4, tyX4, rfl, fun _ => rfl, WT_of _ cla_4 clb_4, tyX4_ok, nmX4, WT_in clc_4 rfl, WT_in cld_4 rfl, cle_4⟩
theorem cla_5 : u_ws RX5 TX5 3 = [225, 227, 229].filterMap (fun i => lw_tbl[i]?) := by decide +kernel
theorem clb_5 : (u_ws RX5 TX5 3).all goodWord = true := by decide +kernel
theorem clc_5 : tb 215 (.instantiable RX5 3) = true := by decide +kernel
theorem cld_5 : tb 71 (.initialized RX5) = true := by decide +kernel
theorem cle_5 : ∀ k, k < 3 → (fk 5 k = 0 ∧ tyX5 k = .int) ∨ (fk 5 k = 1 ∧ tyX5 k = .long) ∨ (fk 5 k = 2 ∧ refKind (tyX5 k) = true) ∨ (fk 5 k = 3 ∧ tyX5 k = .boolean) := by decide +kernel
theorem cls_5 : ClsOk 5 := ⟨TX5, tyX5, rfl, fun _ => rfl, WT_of _ cla_5 clb_5, tyX5_ok, nmX5, WT_in clc_5 rfl, WT_in cld_5 rfl, cle_5⟩
theorem cla_6 : u_ws RX6 TX6 2 = [173, 175].filterMap (fun i => lw_tbl[i]?) := by decide +kernel
theorem clb_6 : (u_ws RX6 TX6 2).all goodWord = true := by decide +kernel
theorem clc_6 : tb 166 (.instantiable RX6 2) = true := by decide +kernel
theorem cld_6 : tb 68 (.initialized RX6) = true := by decide +kernel
theorem cle_6 : ∀ k, k < 2 → (fk 6 k = 0 ∧ tyX6 k = .int) ∨ (fk 6 k = 1 ∧ tyX6 k = .long) ∨ (fk 6 k = 2 ∧ refKind (tyX6 k) = true) ∨ (fk 6 k = 3 ∧ tyX6 k = .boolean) := by decide +kernel
theorem cls_6 : ClsOk 6 := ⟨TX6, tyX6, rfl, fun _ => rfl, WT_of _ cla_6 clb_6, tyX6_ok, nmX6, WT_in clc_6 rfl, WT_in cld_6 rfl, cle_6⟩
theorem cla_7 : u_ws RX7 TX7 2 = [298, 300].filterMap (fun i => lw_tbl[i]?) := by decide +kernel
theorem clb_7 : (u_ws RX7 TX7 2).all goodWord = true := by decide +kernel
theorem clc_7 : tb 282 (.instantiable RX7 2) = true := by decide +kernel
theorem cld_7 : tb 75 (.initialized RX7) = true := by decide +kernel
theorem cle_7 : ∀ k, k < 2 → (fk 7 k = 0 ∧ tyX7 k = .int) ∨ (fk 7 k = 1 ∧ tyX7 k = .long) ∨ (fk 7 k = 2 ∧ refKind (tyX7 k) = true) ∨ (fk 7 k = 3 ∧ tyX7 k = .boolean) := by decide +kernel
theorem cls_7 : ClsOk 7 := ⟨TX7, tyX7, rfl, fun _ => rfl, WT_of _ cla_7 clb_7, tyX7_ok, nmX7, WT_in clc_7 rfl, WT_in cld_7 rfl, cle_7⟩
theorem cla_8 : u_ws RX8 TX8 4 = [205, 207, 209, 211].filterMap (fun i => lw_tbl[i]?) := by decide +kernel
theorem clb_8 : (u_ws RX8 TX8 4).all goodWord = true := by decide +kernel
theorem clc_8 : tb 194 (.instantiable RX8 4) = true := by decide +kernel
theorem cld_8 : tb 70 (.initialized RX8) = true := by decide +kernel
theorem cle_8 : ∀ k, k < 4 → (fk 8 k = 0 ∧ tyX8 k = .int) ∨ (fk 8 k = 1 ∧ tyX8 k = .long) ∨ (fk 8 k = 2 ∧ refKind (tyX8 k) = true) ∨ (fk 8 k = 3 ∧ tyX8 k = .boolean) := by decide +kernel
theorem cls_8 : ClsOk 8 := ⟨TX8, tyX8, rfl, fun _ => rfl, WT_of _ cla_8 clb_8, tyX8_ok, nmX8, WT_in clc_8 rfl, WT_in cld_8 rfl, cle_8⟩
theorem cla_9 : u_ws RX9 TX9 15 = [318, 320, 322, 324, 326, 328, 330, 332, 334, 336, 338, 340, 342, 344, 346].filterMap (fun i => lw_tbl[i]?) := by decide +kernel
theorem clb_9 : (u_ws RX9 TX9 15).all goodWord = true := by decide +kernel
theorem clc_9 : tb 81 (.instantiable RX9 15) = true := by decide +kernel
theorem cld_9 : tb 66 (.initialized RX9) = true := by decide +kernel
theorem cle_9 : ∀ k, k < 15 → (fk 9 k = 0 ∧ tyX9 k = .int) ∨ (fk 9 k = 1 ∧ tyX9 k = .long) ∨ (fk 9 k = 2 ∧ refKind (tyX9 k) = true) ∨ (fk 9 k = 3 ∧ tyX9 k = .boolean) := by decide +kernel
theorem cls_9 : ClsOk 9 := ⟨TX9, tyX9, rfl, fun _ => rfl, WT_of _ cla_9 clb_9, tyX9_ok, nmX9, WT_in clc_9 rfl, WT_in cld_9 rfl, cle_9⟩
theorem cla_10 : u_ws RX10 TX10 38 = [952, 954, 956, 958, 960, 962, 964, 966, 968, 970, 972, 974, 976, 978, 980, 982, 984, 986, 988, 990, 992, 994, 996, 998, 1000, 1002, 1004, 1006, 1008, 1010, 1012, 1014, 1016, 1018, 1020, 1022, 1024, 1026].filterMap (fun i => lw_tbl[i]?) := by decide +kernel
theorem clb_10 : (u_ws RX10 TX10 38).all goodWord = true := by decide +kernel
theorem clc_10 : tb 909 (.instantiable RX10 38) = true := by decide +kernel
theorem cld_10 : tb 77 (.initialized RX10) = true := by decide +kernel
theorem cle_10 : ∀ k, k < 38 → (fk 10 k = 0 ∧ tyX10 k = .int) ∨ (fk 10 k = 1 ∧ tyX10 k = .long) ∨ (fk 10 k = 2 ∧ refKind (tyX10 k) = true) ∨ (fk 10 k = 3 ∧ tyX10 k = .boolean) := by decide +kernel
theorem cls_10 : ClsOk 10 := ⟨TX10, tyX10, rfl, fun _ => rfl, WT_of _ cla_10 clb_10, tyX10_ok, nmX10, WT_in clc_10 rfl, WT_in cld_10 rfl, cle_10⟩
theorem cls_all : ∀ ci, ci < 11 → ClsOk ci := lt_s (lt_s (lt_s (lt_s (lt_s (lt_s (lt_s (lt_s (lt_s (lt_s (lt_s lt_0 cls_0) cls_1) cls_2) cls_3) cls_4) cls_5) cls_6) cls_7) cls_8) cls_9) cls_10
