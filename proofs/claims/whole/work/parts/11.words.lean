/-! ===== words of the methods, by number ===== -/
def oNo : zO := fun _ _ _ => none
theorem zing_X0 : ∀ w ∈ u_ws RX0 TX0 6, w ∈ zgt := fun w h => zmem (zin_X0 w h) (List.all_eq_true.mp (show (u_ws RX0 TX0 6).all goodWord = true from by decide +kernel) w h)
theorem zing_X1 : ∀ w ∈ u_ws RX1 TX1 1, w ∈ zgt := fun w h => zmem (zin_X1 w h) (List.all_eq_true.mp (show (u_ws RX1 TX1 1).all goodWord = true from by decide +kernel) w h)
theorem zing_X2 : ∀ w ∈ u_ws RX2 TX2 3, w ∈ zgt := fun w h => zmem (zin_X2 w h) (List.all_eq_true.mp (show (u_ws RX2 TX2 3).all goodWord = true from by decide +kernel) w h)
theorem zing_X3 : ∀ w ∈ u_ws RX3 TX3 6, w ∈ zgt := fun w h => zmem (zin_X3 w h) (List.all_eq_true.mp (show (u_ws RX3 TX3 6).all goodWord = true from by decide +kernel) w h)
theorem zing_X4 : ∀ w ∈ u_ws RX4 TX4 5, w ∈ zgt := fun w h => zmem (zin_X4 w h) (List.all_eq_true.mp (show (u_ws RX4 TX4 5).all goodWord = true from by decide +kernel) w h)
theorem zing_X5 : ∀ w ∈ u_ws RX5 TX5 15, w ∈ zgt := fun w h => zmem (zin_X5 w h) (List.all_eq_true.mp (show (u_ws RX5 TX5 15).all goodWord = true from by decide +kernel) w h)
theorem zing_X6 : ∀ w ∈ u_ws RX6 TX6 9, w ∈ zgt := fun w h => zmem (zin_X6 w h) (List.all_eq_true.mp (show (u_ws RX6 TX6 9).all goodWord = true from by decide +kernel) w h)
theorem zing_X7 : ∀ w ∈ u_ws RX7 TX7 22, w ∈ zgt := fun w h => zmem (zin_X7 w h) (List.all_eq_true.mp (show (u_ws RX7 TX7 22).all goodWord = true from by decide +kernel) w h)
theorem zw_native : Cond.native arraycopyName ∈ zgt := zmem (List.mem_append_right _ (List.mem_append_right _ (List.mem_append_left _ (List.mem_of_getElem? (i := 36) rfl)))) rfl
theorem zw_static : Cond.static arraycopyName ∈ zgt := zmem (List.mem_append_right _ (List.mem_append_right _ (List.mem_append_left _ (List.mem_of_getElem? (i := 35) rfl)))) rfl
theorem zw_sysini : Cond.initialized "java/lang/System" ∈ zgt := zmem (List.mem_append_left _ (List.mem_of_getElem? (i := 15) rfl)) rfl
theorem zwi_0 : Cond.initialized (zy 0).cls ∈ zgt := zmem (List.mem_append_left _ (List.mem_of_getElem? (i := 1) rfl)) rfl
theorem zws_0 : Cond.static (zy 0) ∈ zgt := zmem (List.mem_append_right _ (List.mem_append_left _ (List.mem_of_getElem? (i := 12) rfl))) rfl
theorem zwd_0 : (zy 0).cls ≠ "java/lang/invoke/MethodHandle" ∧ (zy 0).cls ≠ "java/lang/invoke/VarHandle" ∧ (parseMethodDescriptor (zy 0).desc).map (fun d => d.parameters.length) = some 3 := by decide +kernel
theorem zwi_1 : Cond.initialized (zy 1).cls ∈ zgt := zmem (List.mem_append_left _ (List.mem_of_getElem? (i := 1) rfl)) rfl
theorem zws_1 : Cond.static (zy 1) ∈ zgt := zmem (List.mem_append_right _ (List.mem_append_left _ (List.mem_of_getElem? (i := 34) rfl))) rfl
theorem zwd_1 : (zy 1).cls ≠ "java/lang/invoke/MethodHandle" ∧ (zy 1).cls ≠ "java/lang/invoke/VarHandle" ∧ (parseMethodDescriptor (zy 1).desc).map (fun d => d.parameters.length) = some 2 := by decide +kernel
theorem zwi_2 : Cond.initialized (zy 2).cls ∈ zgt := zmem (List.mem_append_left _ (List.mem_of_getElem? (i := 1) rfl)) rfl
theorem zws_2 : Cond.static (zy 2) ∈ zgt := zmem (List.mem_append_right _ (List.mem_append_left _ (List.mem_of_getElem? (i := 89) rfl))) rfl
theorem zwd_2 : (zy 2).cls ≠ "java/lang/invoke/MethodHandle" ∧ (zy 2).cls ≠ "java/lang/invoke/VarHandle" ∧ (parseMethodDescriptor (zy 2).desc).map (fun d => d.parameters.length) = some 1 := by decide +kernel
theorem zwi_3 : Cond.initialized (zy 3).cls ∈ zgt := zmem (List.mem_append_left _ (List.mem_of_getElem? (i := 1) rfl)) rfl
theorem zws_3 : Cond.static (zy 3) ∈ zgt := zmem (List.mem_append_right _ (List.mem_append_left _ (List.mem_of_getElem? (i := 97) rfl))) rfl
theorem zwd_3 : (zy 3).cls ≠ "java/lang/invoke/MethodHandle" ∧ (zy 3).cls ≠ "java/lang/invoke/VarHandle" ∧ (parseMethodDescriptor (zy 3).desc).map (fun d => d.parameters.length) = some 2 := by decide +kernel
theorem zwi_4 : Cond.initialized (zy 4).cls ∈ zgt := zmem (List.mem_append_left _ (List.mem_of_getElem? (i := 1) rfl)) rfl
theorem zws_4 : Cond.static (zy 4) ∈ zgt := zmem (List.mem_append_right _ (List.mem_append_left _ (List.mem_of_getElem? (i := 103) rfl))) rfl
theorem zwd_4 : (zy 4).cls ≠ "java/lang/invoke/MethodHandle" ∧ (zy 4).cls ≠ "java/lang/invoke/VarHandle" ∧ (parseMethodDescriptor (zy 4).desc).map (fun d => d.parameters.length) = some 3 := by decide +kernel
theorem zwi_5 : Cond.initialized (zy 5).cls ∈ zgt := zmem (List.mem_append_left _ (List.mem_of_getElem? (i := 1) rfl)) rfl
theorem zws_5 : Cond.static (zy 5) ∈ zgt := zmem (List.mem_append_right _ (List.mem_append_left _ (List.mem_of_getElem? (i := 9) rfl))) rfl
theorem zwd_5 : (zy 5).cls ≠ "java/lang/invoke/MethodHandle" ∧ (zy 5).cls ≠ "java/lang/invoke/VarHandle" ∧ (parseMethodDescriptor (zy 5).desc).map (fun d => d.parameters.length) = some 1 := by decide +kernel
theorem zwi_6 : Cond.initialized (zy 6).cls ∈ zgt := zmem (List.mem_append_left _ (List.mem_of_getElem? (i := 1) rfl)) rfl
theorem zwn_6 : Cond.instanceMethod (zy 6) ∈ zgt := zmem (List.mem_append_right _ (List.mem_append_left _ (List.mem_of_getElem? (i := 16) rfl))) rfl
theorem zwl_6 : Cond.selects (zy 6).cls (zy 6) (zy 6) ∈ zgt := zmemS (List.mem_of_getElem? (i := 0) rfl) rfl
theorem zwd_6 : (zy 6).cls ≠ "java/lang/invoke/MethodHandle" ∧ (zy 6).cls ≠ "java/lang/invoke/VarHandle" ∧ (parseMethodDescriptor (zy 6).desc).map (fun d => d.parameters.length) = some 1 := by decide +kernel
theorem zwi_7 : Cond.initialized (zy 7).cls ∈ zgt := zmem (List.mem_append_left _ (List.mem_of_getElem? (i := 1) rfl)) rfl
theorem zwn_7 : Cond.instanceMethod (zy 7) ∈ zgt := zmem (List.mem_append_right _ (List.mem_append_left _ (List.mem_of_getElem? (i := 5) rfl))) rfl
theorem zwl_7 : Cond.selects (zy 7).cls (zy 7) (zy 7) ∈ zgt := zmem (List.mem_append_right _ (List.mem_append_left _ (List.mem_of_getElem? (i := 6) rfl))) rfl
theorem zwd_7 : (zy 7).cls ≠ "java/lang/invoke/MethodHandle" ∧ (zy 7).cls ≠ "java/lang/invoke/VarHandle" ∧ (parseMethodDescriptor (zy 7).desc).map (fun d => d.parameters.length) = some 2 := by decide +kernel
theorem zwi_8 : Cond.initialized (zy 8).cls ∈ zgt := zmem (List.mem_append_left _ (List.mem_of_getElem? (i := 1) rfl)) rfl
theorem zwn_8 : Cond.instanceMethod (zy 8) ∈ zgt := zmem (List.mem_append_right _ (List.mem_append_left _ (List.mem_of_getElem? (i := 20) rfl))) rfl
theorem zwl_8 : Cond.selects (zy 8).cls (zy 8) (zy 8) ∈ zgt := zmem (List.mem_append_right _ (List.mem_append_left _ (List.mem_of_getElem? (i := 21) rfl))) rfl
theorem zwd_8 : (zy 8).cls ≠ "java/lang/invoke/MethodHandle" ∧ (zy 8).cls ≠ "java/lang/invoke/VarHandle" ∧ (parseMethodDescriptor (zy 8).desc).map (fun d => d.parameters.length) = some 1 := by decide +kernel
theorem zwi_9 : Cond.initialized (zy 9).cls ∈ zgt := zmem (List.mem_append_left _ (List.mem_of_getElem? (i := 1) rfl)) rfl
theorem zwn_9 : Cond.instanceMethod (zy 9) ∈ zgt := zmem (List.mem_append_right _ (List.mem_append_left _ (List.mem_of_getElem? (i := 24) rfl))) rfl
theorem zwl_9 : Cond.selects (zy 9).cls (zy 9) (zy 9) ∈ zgt := zmem (List.mem_append_right _ (List.mem_append_left _ (List.mem_of_getElem? (i := 25) rfl))) rfl
theorem zwd_9 : (zy 9).cls ≠ "java/lang/invoke/MethodHandle" ∧ (zy 9).cls ≠ "java/lang/invoke/VarHandle" ∧ (parseMethodDescriptor (zy 9).desc).map (fun d => d.parameters.length) = some 2 := by decide +kernel
theorem zwi_10 : Cond.initialized (zy 10).cls ∈ zgt := zmem (List.mem_append_left _ (List.mem_of_getElem? (i := 1) rfl)) rfl
theorem zwn_10 : Cond.instanceMethod (zy 10) ∈ zgt := zmem (List.mem_append_right _ (List.mem_append_left _ (List.mem_of_getElem? (i := 30) rfl))) rfl
theorem zwl_10 : Cond.selects (zy 10).cls (zy 10) (zy 10) ∈ zgt := zmem (List.mem_append_right _ (List.mem_append_left _ (List.mem_of_getElem? (i := 31) rfl))) rfl
theorem zwd_10 : (zy 10).cls ≠ "java/lang/invoke/MethodHandle" ∧ (zy 10).cls ≠ "java/lang/invoke/VarHandle" ∧ (parseMethodDescriptor (zy 10).desc).map (fun d => d.parameters.length) = some 2 := by decide +kernel
theorem zwi_11 : Cond.initialized (zy 11).cls ∈ zgt := zmem (List.mem_append_left _ (List.mem_of_getElem? (i := 1) rfl)) rfl
theorem zwn_11 : Cond.instanceMethod (zy 11) ∈ zgt := zmem (List.mem_append_right _ (List.mem_append_left _ (List.mem_of_getElem? (i := 40) rfl))) rfl
theorem zwl_11 : Cond.selects (zy 11).cls (zy 11) (zy 11) ∈ zgt := zmem (List.mem_append_right _ (List.mem_append_left _ (List.mem_of_getElem? (i := 41) rfl))) rfl
theorem zwd_11 : (zy 11).cls ≠ "java/lang/invoke/MethodHandle" ∧ (zy 11).cls ≠ "java/lang/invoke/VarHandle" ∧ (parseMethodDescriptor (zy 11).desc).map (fun d => d.parameters.length) = some 3 := by decide +kernel
theorem zwi_12 : Cond.initialized (zy 12).cls ∈ zgt := zmem (List.mem_append_left _ (List.mem_of_getElem? (i := 1) rfl)) rfl
theorem zwn_12 : Cond.instanceMethod (zy 12) ∈ zgt := zmem (List.mem_append_right _ (List.mem_append_left _ (List.mem_of_getElem? (i := 53) rfl))) rfl
theorem zwl_12 : Cond.selects (zy 12).cls (zy 12) (zy 12) ∈ zgt := zmemS (List.mem_of_getElem? (i := 1) rfl) rfl
theorem zwd_12 : (zy 12).cls ≠ "java/lang/invoke/MethodHandle" ∧ (zy 12).cls ≠ "java/lang/invoke/VarHandle" ∧ (parseMethodDescriptor (zy 12).desc).map (fun d => d.parameters.length) = some 1 := by decide +kernel
theorem zwi_13 : Cond.initialized (zy 13).cls ∈ zgt := zmem (List.mem_append_left _ (List.mem_of_getElem? (i := 1) rfl)) rfl
theorem zwn_13 : Cond.instanceMethod (zy 13) ∈ zgt := zmem (List.mem_append_right _ (List.mem_append_left _ (List.mem_of_getElem? (i := 48) rfl))) rfl
theorem zwl_13 : Cond.selects (zy 13).cls (zy 13) (zy 13) ∈ zgt := zmem (List.mem_append_right _ (List.mem_append_left _ (List.mem_of_getElem? (i := 49) rfl))) rfl
theorem zwd_13 : (zy 13).cls ≠ "java/lang/invoke/MethodHandle" ∧ (zy 13).cls ≠ "java/lang/invoke/VarHandle" ∧ (parseMethodDescriptor (zy 13).desc).map (fun d => d.parameters.length) = some 2 := by decide +kernel
theorem zwi_14 : Cond.initialized (zy 14).cls ∈ zgt := zmem (List.mem_append_left _ (List.mem_of_getElem? (i := 1) rfl)) rfl
theorem zws_14 : Cond.static (zy 14) ∈ zgt := zmem (List.mem_append_right _ (List.mem_append_left _ (List.mem_of_getElem? (i := 117) rfl))) rfl
theorem zwd_14 : (zy 14).cls ≠ "java/lang/invoke/MethodHandle" ∧ (zy 14).cls ≠ "java/lang/invoke/VarHandle" ∧ (parseMethodDescriptor (zy 14).desc).map (fun d => d.parameters.length) = some 2 := by decide +kernel
theorem zwi_15 : Cond.initialized (zy 15).cls ∈ zgt := zmem (List.mem_append_left _ (List.mem_of_getElem? (i := 1) rfl)) rfl
theorem zwn_15 : Cond.instanceMethod (zy 15) ∈ zgt := zmem (List.mem_append_right _ (List.mem_append_left _ (List.mem_of_getElem? (i := 113) rfl))) rfl
theorem zwl_15 : Cond.selects (zy 15).cls (zy 15) (zy 15) ∈ zgt := zmem (List.mem_append_right _ (List.mem_append_left _ (List.mem_of_getElem? (i := 114) rfl))) rfl
theorem zwd_15 : (zy 15).cls ≠ "java/lang/invoke/MethodHandle" ∧ (zy 15).cls ≠ "java/lang/invoke/VarHandle" ∧ (parseMethodDescriptor (zy 15).desc).map (fun d => d.parameters.length) = some 2 := by decide +kernel
theorem zwi_16 : Cond.initialized (zy 16).cls ∈ zgt := zmem (List.mem_append_left _ (List.mem_of_getElem? (i := 1) rfl)) rfl
theorem zwn_16 : Cond.instanceMethod (zy 16) ∈ zgt := zmem (List.mem_append_right _ (List.mem_append_left _ (List.mem_of_getElem? (i := 122) rfl))) rfl
theorem zwl_16 : Cond.selects (zy 16).cls (zy 16) (zy 16) ∈ zgt := zmem (List.mem_append_right _ (List.mem_append_left _ (List.mem_of_getElem? (i := 123) rfl))) rfl
theorem zwd_16 : (zy 16).cls ≠ "java/lang/invoke/MethodHandle" ∧ (zy 16).cls ≠ "java/lang/invoke/VarHandle" ∧ (parseMethodDescriptor (zy 16).desc).map (fun d => d.parameters.length) = some 3 := by decide +kernel
theorem zwi_17 : Cond.initialized (zy 17).cls ∈ zgt := zmem (List.mem_append_left _ (List.mem_of_getElem? (i := 1) rfl)) rfl
theorem zwn_17 : Cond.instanceMethod (zy 17) ∈ zgt := zmem (List.mem_append_right _ (List.mem_append_left _ (List.mem_of_getElem? (i := 128) rfl))) rfl
theorem zwl_17 : Cond.selects (zy 17).cls (zy 17) (zy 17) ∈ zgt := zmem (List.mem_append_right _ (List.mem_append_left _ (List.mem_of_getElem? (i := 129) rfl))) rfl
theorem zwd_17 : (zy 17).cls ≠ "java/lang/invoke/MethodHandle" ∧ (zy 17).cls ≠ "java/lang/invoke/VarHandle" ∧ (parseMethodDescriptor (zy 17).desc).map (fun d => d.parameters.length) = some 2 := by decide +kernel
theorem zwi_18 : Cond.initialized (zy 18).cls ∈ zgt := zmem (List.mem_append_left _ (List.mem_of_getElem? (i := 1) rfl)) rfl
theorem zwn_18 : Cond.instanceMethod (zy 18) ∈ zgt := zmem (List.mem_append_right _ (List.mem_append_left _ (List.mem_of_getElem? (i := 133) rfl))) rfl
theorem zwl_18 : Cond.selects (zy 18).cls (zy 18) (zy 18) ∈ zgt := zmem (List.mem_append_right _ (List.mem_append_left _ (List.mem_of_getElem? (i := 134) rfl))) rfl
theorem zwd_18 : (zy 18).cls ≠ "java/lang/invoke/MethodHandle" ∧ (zy 18).cls ≠ "java/lang/invoke/VarHandle" ∧ (parseMethodDescriptor (zy 18).desc).map (fun d => d.parameters.length) = some 2 := by decide +kernel
theorem zwi_19 : Cond.initialized (zy 19).cls ∈ zgt := zmem (List.mem_append_left _ (List.mem_of_getElem? (i := 1) rfl)) rfl
theorem zwn_19 : Cond.instanceMethod (zy 19) ∈ zgt := zmem (List.mem_append_right _ (List.mem_append_left _ (List.mem_of_getElem? (i := 141) rfl))) rfl
theorem zwl_19 : Cond.selects (zy 19).cls (zy 19) (zy 19) ∈ zgt := zmem (List.mem_append_right _ (List.mem_append_left _ (List.mem_of_getElem? (i := 142) rfl))) rfl
theorem zwd_19 : (zy 19).cls ≠ "java/lang/invoke/MethodHandle" ∧ (zy 19).cls ≠ "java/lang/invoke/VarHandle" ∧ (parseMethodDescriptor (zy 19).desc).map (fun d => d.parameters.length) = some 1 := by decide +kernel
theorem zwi_20 : Cond.initialized (zy 20).cls ∈ zgt := zmem (List.mem_append_left _ (List.mem_of_getElem? (i := 1) rfl)) rfl
theorem zwn_20 : Cond.instanceMethod (zy 20) ∈ zgt := zmem (List.mem_append_right _ (List.mem_append_right _ (List.mem_append_left _ (List.mem_of_getElem? (i := 38) rfl)))) rfl
theorem zwl_20 : Cond.selects (zy 20).cls (zy 20) (zy 20) ∈ zgt := zmem (List.mem_append_right _ (List.mem_append_right _ (List.mem_append_left _ (List.mem_of_getElem? (i := 39) rfl)))) rfl
theorem zwd_20 : (zy 20).cls ≠ "java/lang/invoke/MethodHandle" ∧ (zy 20).cls ≠ "java/lang/invoke/VarHandle" ∧ (parseMethodDescriptor (zy 20).desc).map (fun d => d.parameters.length) = some 1 := by decide +kernel
theorem zwi_21 : Cond.initialized (zy 21).cls ∈ zgt := zmem (List.mem_append_left _ (List.mem_of_getElem? (i := 1) rfl)) rfl
theorem zwn_21 : Cond.instanceMethod (zy 21) ∈ zgt := zmem (List.mem_append_right _ (List.mem_append_right _ (List.mem_append_left _ (List.mem_of_getElem? (i := 46) rfl)))) rfl
theorem zwl_21 : Cond.selects (zy 21).cls (zy 21) (zy 21) ∈ zgt := zmem (List.mem_append_right _ (List.mem_append_right _ (List.mem_append_left _ (List.mem_of_getElem? (i := 47) rfl)))) rfl
theorem zwd_21 : (zy 21).cls ≠ "java/lang/invoke/MethodHandle" ∧ (zy 21).cls ≠ "java/lang/invoke/VarHandle" ∧ (parseMethodDescriptor (zy 21).desc).map (fun d => d.parameters.length) = some 1 := by decide +kernel
theorem zwi_22 : Cond.initialized (zy 22).cls ∈ zgt := zmem (List.mem_append_left _ (List.mem_of_getElem? (i := 1) rfl)) rfl
theorem zwn_22 : Cond.instanceMethod (zy 22) ∈ zgt := zmem (List.mem_append_right _ (List.mem_append_right _ (List.mem_append_left _ (List.mem_of_getElem? (i := 90) rfl)))) rfl
theorem zwl_22 : Cond.selects (zy 22).cls (zy 22) (zy 22) ∈ zgt := zmem (List.mem_append_right _ (List.mem_append_right _ (List.mem_append_left _ (List.mem_of_getElem? (i := 91) rfl)))) rfl
theorem zwd_22 : (zy 22).cls ≠ "java/lang/invoke/MethodHandle" ∧ (zy 22).cls ≠ "java/lang/invoke/VarHandle" ∧ (parseMethodDescriptor (zy 22).desc).map (fun d => d.parameters.length) = some 1 := by decide +kernel
theorem zwi_23 : Cond.initialized (zy 23).cls ∈ zgt := zmem (List.mem_append_left _ (List.mem_of_getElem? (i := 1) rfl)) rfl
theorem zwn_23 : Cond.instanceMethod (zy 23) ∈ zgt := zmem (List.mem_append_right _ (List.mem_append_right _ (List.mem_append_left _ (List.mem_of_getElem? (i := 99) rfl)))) rfl
theorem zwl_23 : Cond.selects (zy 23).cls (zy 23) (zy 23) ∈ zgt := zmem (List.mem_append_right _ (List.mem_append_right _ (List.mem_append_left _ (List.mem_of_getElem? (i := 100) rfl)))) rfl
theorem zwd_23 : (zy 23).cls ≠ "java/lang/invoke/MethodHandle" ∧ (zy 23).cls ≠ "java/lang/invoke/VarHandle" ∧ (parseMethodDescriptor (zy 23).desc).map (fun d => d.parameters.length) = some 1 := by decide +kernel
theorem zwi_24 : Cond.initialized (zy 24).cls ∈ zgt := zmem (List.mem_append_left _ (List.mem_of_getElem? (i := 1) rfl)) rfl
theorem zwn_24 : Cond.instanceMethod (zy 24) ∈ zgt := zmem (List.mem_append_right _ (List.mem_append_right _ (List.mem_append_left _ (List.mem_of_getElem? (i := 103) rfl)))) rfl
theorem zwl_24 : Cond.selects (zy 24).cls (zy 24) (zy 24) ∈ zgt := zmem (List.mem_append_right _ (List.mem_append_right _ (List.mem_append_left _ (List.mem_of_getElem? (i := 104) rfl)))) rfl
theorem zwd_24 : (zy 24).cls ≠ "java/lang/invoke/MethodHandle" ∧ (zy 24).cls ≠ "java/lang/invoke/VarHandle" ∧ (parseMethodDescriptor (zy 24).desc).map (fun d => d.parameters.length) = some 0 := by decide +kernel
theorem zwi_25 : Cond.initialized (zy 25).cls ∈ zgt := zmem (List.mem_append_left _ (List.mem_of_getElem? (i := 1) rfl)) rfl
theorem zwn_25 : Cond.instanceMethod (zy 25) ∈ zgt := zmem (List.mem_append_right _ (List.mem_append_right _ (List.mem_append_left _ (List.mem_of_getElem? (i := 111) rfl)))) rfl
theorem zwl_25 : Cond.selects (zy 25).cls (zy 25) (zy 25) ∈ zgt := zmem (List.mem_append_right _ (List.mem_append_right _ (List.mem_append_left _ (List.mem_of_getElem? (i := 112) rfl)))) rfl
theorem zwd_25 : (zy 25).cls ≠ "java/lang/invoke/MethodHandle" ∧ (zy 25).cls ≠ "java/lang/invoke/VarHandle" ∧ (parseMethodDescriptor (zy 25).desc).map (fun d => d.parameters.length) = some 1 := by decide +kernel
theorem zwi_26 : Cond.initialized (zy 26).cls ∈ zgt := zmem (List.mem_append_left _ (List.mem_of_getElem? (i := 1) rfl)) rfl
theorem zwn_26 : Cond.instanceMethod (zy 26) ∈ zgt := zmem (List.mem_append_right _ (List.mem_append_right _ (List.mem_append_left _ (List.mem_of_getElem? (i := 125) rfl)))) rfl
theorem zwl_26 : Cond.selects (zy 26).cls (zy 26) (zy 26) ∈ zgt := zmem (List.mem_append_right _ (List.mem_append_right _ (List.mem_append_left _ (List.mem_of_getElem? (i := 126) rfl)))) rfl
theorem zwd_26 : (zy 26).cls ≠ "java/lang/invoke/MethodHandle" ∧ (zy 26).cls ≠ "java/lang/invoke/VarHandle" ∧ (parseMethodDescriptor (zy 26).desc).map (fun d => d.parameters.length) = some 3 := by decide +kernel
theorem zwi_27 : Cond.initialized (zy 27).cls ∈ zgt := zmem (List.mem_append_left _ (List.mem_of_getElem? (i := 1) rfl)) rfl
theorem zwn_27 : Cond.instanceMethod (zy 27) ∈ zgt := zmem (List.mem_append_right _ (List.mem_append_right _ (List.mem_append_left _ (List.mem_of_getElem? (i := 129) rfl)))) rfl
theorem zwl_27 : Cond.selects (zy 27).cls (zy 27) (zy 27) ∈ zgt := zmem (List.mem_append_right _ (List.mem_append_right _ (List.mem_append_left _ (List.mem_of_getElem? (i := 130) rfl)))) rfl
theorem zwd_27 : (zy 27).cls ≠ "java/lang/invoke/MethodHandle" ∧ (zy 27).cls ≠ "java/lang/invoke/VarHandle" ∧ (parseMethodDescriptor (zy 27).desc).map (fun d => d.parameters.length) = some 0 := by decide +kernel
theorem zwi_28 : Cond.initialized (zy 28).cls ∈ zgt := zmem (List.mem_append_left _ (List.mem_of_getElem? (i := 1) rfl)) rfl
theorem zwn_28 : Cond.instanceMethod (zy 28) ∈ zgt := zmem (List.mem_append_right _ (List.mem_append_right _ (List.mem_append_left _ (List.mem_of_getElem? (i := 135) rfl)))) rfl
theorem zwl_28 : Cond.selects (zy 28).cls (zy 28) (zy 28) ∈ zgt := zmem (List.mem_append_right _ (List.mem_append_right _ (List.mem_append_left _ (List.mem_of_getElem? (i := 136) rfl)))) rfl
theorem zwd_28 : (zy 28).cls ≠ "java/lang/invoke/MethodHandle" ∧ (zy 28).cls ≠ "java/lang/invoke/VarHandle" ∧ (parseMethodDescriptor (zy 28).desc).map (fun d => d.parameters.length) = some 2 := by decide +kernel
theorem zwi_29 : Cond.initialized (zy 29).cls ∈ zgt := zmem (List.mem_append_left _ (List.mem_of_getElem? (i := 1) rfl)) rfl
theorem zwn_29 : Cond.instanceMethod (zy 29) ∈ zgt := zmem (List.mem_append_right _ (List.mem_append_right _ (List.mem_append_left _ (List.mem_of_getElem? (i := 139) rfl)))) rfl
theorem zwl_29 : Cond.selects (zy 29).cls (zy 29) (zy 29) ∈ zgt := zmem (List.mem_append_right _ (List.mem_append_right _ (List.mem_append_left _ (List.mem_of_getElem? (i := 140) rfl)))) rfl
theorem zwd_29 : (zy 29).cls ≠ "java/lang/invoke/MethodHandle" ∧ (zy 29).cls ≠ "java/lang/invoke/VarHandle" ∧ (parseMethodDescriptor (zy 29).desc).map (fun d => d.parameters.length) = some 2 := by decide +kernel
theorem zwi_30 : Cond.initialized (zy 30).cls ∈ zgt := zmem (List.mem_append_left _ (List.mem_of_getElem? (i := 1) rfl)) rfl
theorem zwn_30 : Cond.instanceMethod (zy 30) ∈ zgt := zmem (List.mem_append_right _ (List.mem_append_right _ (List.mem_append_left _ (List.mem_of_getElem? (i := 144) rfl)))) rfl
theorem zwl_30 : Cond.selects (zy 30).cls (zy 30) (zy 30) ∈ zgt := zmem (List.mem_append_right _ (List.mem_append_right _ (List.mem_append_left _ (List.mem_of_getElem? (i := 145) rfl)))) rfl
theorem zwd_30 : (zy 30).cls ≠ "java/lang/invoke/MethodHandle" ∧ (zy 30).cls ≠ "java/lang/invoke/VarHandle" ∧ (parseMethodDescriptor (zy 30).desc).map (fun d => d.parameters.length) = some 2 := by decide +kernel
theorem zwi_31 : Cond.initialized (zy 31).cls ∈ zgt := zmem (List.mem_append_left _ (List.mem_of_getElem? (i := 1) rfl)) rfl
theorem zwn_31 : Cond.instanceMethod (zy 31) ∈ zgt := zmem (List.mem_append_right _ (List.mem_append_right _ (List.mem_append_left _ (List.mem_of_getElem? (i := 148) rfl)))) rfl
theorem zwl_31 : Cond.selects (zy 31).cls (zy 31) (zy 31) ∈ zgt := zmem (List.mem_append_right _ (List.mem_append_right _ (List.mem_append_left _ (List.mem_of_getElem? (i := 149) rfl)))) rfl
theorem zwd_31 : (zy 31).cls ≠ "java/lang/invoke/MethodHandle" ∧ (zy 31).cls ≠ "java/lang/invoke/VarHandle" ∧ (parseMethodDescriptor (zy 31).desc).map (fun d => d.parameters.length) = some 1 := by decide +kernel
theorem zwi_32 : Cond.initialized (zy 32).cls ∈ zgt := zmem (List.mem_append_left _ (List.mem_of_getElem? (i := 1) rfl)) rfl
theorem zwn_32 : Cond.instanceMethod (zy 32) ∈ zgt := zmem (List.mem_append_right _ (List.mem_append_right _ (List.mem_append_left _ (List.mem_of_getElem? (i := 156) rfl)))) rfl
theorem zwl_32 : Cond.selects (zy 32).cls (zy 32) (zy 32) ∈ zgt := zmem (List.mem_append_right _ (List.mem_append_right _ (List.mem_append_left _ (List.mem_of_getElem? (i := 157) rfl)))) rfl
theorem zwd_32 : (zy 32).cls ≠ "java/lang/invoke/MethodHandle" ∧ (zy 32).cls ≠ "java/lang/invoke/VarHandle" ∧ (parseMethodDescriptor (zy 32).desc).map (fun d => d.parameters.length) = some 2 := by decide +kernel
theorem zwi_33 : Cond.initialized (zy 33).cls ∈ zgt := zmem (List.mem_append_left _ (List.mem_of_getElem? (i := 1) rfl)) rfl
theorem zwn_33 : Cond.instanceMethod (zy 33) ∈ zgt := zmem (List.mem_append_right _ (List.mem_append_right _ (List.mem_append_left _ (List.mem_of_getElem? (i := 160) rfl)))) rfl
theorem zwl_33 : Cond.selects (zy 33).cls (zy 33) (zy 33) ∈ zgt := zmem (List.mem_append_right _ (List.mem_append_right _ (List.mem_append_left _ (List.mem_of_getElem? (i := 161) rfl)))) rfl
theorem zwd_33 : (zy 33).cls ≠ "java/lang/invoke/MethodHandle" ∧ (zy 33).cls ≠ "java/lang/invoke/VarHandle" ∧ (parseMethodDescriptor (zy 33).desc).map (fun d => d.parameters.length) = some 1 := by decide +kernel
theorem zwi_34 : Cond.initialized (zy 34).cls ∈ zgt := zmem (List.mem_append_left _ (List.mem_of_getElem? (i := 1) rfl)) rfl
theorem zwn_34 : Cond.instanceMethod (zy 34) ∈ zgt := zmem (List.mem_append_right _ (List.mem_append_right _ (List.mem_append_left _ (List.mem_of_getElem? (i := 176) rfl)))) rfl
theorem zwl_34 : Cond.selects (zy 34).cls (zy 34) (zy 34) ∈ zgt := zmem (List.mem_append_right _ (List.mem_append_right _ (List.mem_append_left _ (List.mem_of_getElem? (i := 177) rfl)))) rfl
theorem zwd_34 : (zy 34).cls ≠ "java/lang/invoke/MethodHandle" ∧ (zy 34).cls ≠ "java/lang/invoke/VarHandle" ∧ (parseMethodDescriptor (zy 34).desc).map (fun d => d.parameters.length) = some 1 := by decide +kernel
theorem zwi_35 : Cond.initialized (zy 35).cls ∈ zgt := zmem (List.mem_append_left _ (List.mem_of_getElem? (i := 1) rfl)) rfl
theorem zwn_35 : Cond.instanceMethod (zy 35) ∈ zgt := zmem (List.mem_append_right _ (List.mem_append_right _ (List.mem_append_left _ (List.mem_of_getElem? (i := 188) rfl)))) rfl
theorem zwl_35 : Cond.selects (zy 35).cls (zy 35) (zy 35) ∈ zgt := zmem (List.mem_append_right _ (List.mem_append_right _ (List.mem_append_left _ (List.mem_of_getElem? (i := 189) rfl)))) rfl
theorem zwd_35 : (zy 35).cls ≠ "java/lang/invoke/MethodHandle" ∧ (zy 35).cls ≠ "java/lang/invoke/VarHandle" ∧ (parseMethodDescriptor (zy 35).desc).map (fun d => d.parameters.length) = some 3 := by decide +kernel
theorem zwi_36 : Cond.initialized (zy 36).cls ∈ zgt := zmem (List.mem_append_left _ (List.mem_of_getElem? (i := 1) rfl)) rfl
theorem zwn_36 : Cond.instanceMethod (zy 36) ∈ zgt := zmem (List.mem_append_right _ (List.mem_append_right _ (List.mem_append_left _ (List.mem_of_getElem? (i := 224) rfl)))) rfl
theorem zwl_36 : Cond.selects (zy 36).cls (zy 36) (zy 36) ∈ zgt := zmem (List.mem_append_right _ (List.mem_append_right _ (List.mem_append_left _ (List.mem_of_getElem? (i := 225) rfl)))) rfl
theorem zwd_36 : (zy 36).cls ≠ "java/lang/invoke/MethodHandle" ∧ (zy 36).cls ≠ "java/lang/invoke/VarHandle" ∧ (parseMethodDescriptor (zy 36).desc).map (fun d => d.parameters.length) = some 1 := by decide +kernel
theorem zwi_37 : Cond.initialized (zy 37).cls ∈ zgt := zmem (List.mem_append_left _ (List.mem_of_getElem? (i := 1) rfl)) rfl
theorem zws_37 : Cond.static (zy 37) ∈ zgt := zmem (List.mem_append_right _ (List.mem_append_right _ (List.mem_append_left _ (List.mem_of_getElem? (i := 232) rfl)))) rfl
theorem zwd_37 : (zy 37).cls ≠ "java/lang/invoke/MethodHandle" ∧ (zy 37).cls ≠ "java/lang/invoke/VarHandle" ∧ (parseMethodDescriptor (zy 37).desc).map (fun d => d.parameters.length) = some 1 := by decide +kernel
theorem zwi_38 : Cond.initialized (zy 38).cls ∈ zgt := zmem (List.mem_append_left _ (List.mem_of_getElem? (i := 1) rfl)) rfl
theorem zwn_38 : Cond.instanceMethod (zy 38) ∈ zgt := zmem (List.mem_append_right _ (List.mem_append_right _ (List.mem_append_left _ (List.mem_of_getElem? (i := 228) rfl)))) rfl
theorem zwl_38 : Cond.selects (zy 38).cls (zy 38) (zy 38) ∈ zgt := zmem (List.mem_append_right _ (List.mem_append_right _ (List.mem_append_left _ (List.mem_of_getElem? (i := 229) rfl)))) rfl
theorem zwd_38 : (zy 38).cls ≠ "java/lang/invoke/MethodHandle" ∧ (zy 38).cls ≠ "java/lang/invoke/VarHandle" ∧ (parseMethodDescriptor (zy 38).desc).map (fun d => d.parameters.length) = some 3 := by decide +kernel
theorem zwi_39 : Cond.initialized (zy 39).cls ∈ zgt := zmem (List.mem_append_left _ (List.mem_of_getElem? (i := 1) rfl)) rfl
theorem zwn_39 : Cond.instanceMethod (zy 39) ∈ zgt := zmem (List.mem_append_right _ (List.mem_append_right _ (List.mem_append_left _ (List.mem_of_getElem? (i := 239) rfl)))) rfl
theorem zwl_39 : Cond.selects (zy 39).cls (zy 39) (zy 39) ∈ zgt := zmem (List.mem_append_right _ (List.mem_append_right _ (List.mem_append_right _ (List.mem_append_left _ (List.mem_of_getElem? (i := 0) rfl))))) rfl
theorem zwd_39 : (zy 39).cls ≠ "java/lang/invoke/MethodHandle" ∧ (zy 39).cls ≠ "java/lang/invoke/VarHandle" ∧ (parseMethodDescriptor (zy 39).desc).map (fun d => d.parameters.length) = some 3 := by decide +kernel
theorem zwi_40 : Cond.initialized (zy 40).cls ∈ zgt := zmem (List.mem_append_left _ (List.mem_of_getElem? (i := 1) rfl)) rfl
theorem zwn_40 : Cond.instanceMethod (zy 40) ∈ zgt := zmem (List.mem_append_right _ (List.mem_append_right _ (List.mem_append_right _ (List.mem_append_left _ (List.mem_of_getElem? (i := 11) rfl))))) rfl
theorem zwl_40 : Cond.selects (zy 40).cls (zy 40) (zy 40) ∈ zgt := zmem (List.mem_append_right _ (List.mem_append_right _ (List.mem_append_right _ (List.mem_append_left _ (List.mem_of_getElem? (i := 12) rfl))))) rfl
theorem zwd_40 : (zy 40).cls ≠ "java/lang/invoke/MethodHandle" ∧ (zy 40).cls ≠ "java/lang/invoke/VarHandle" ∧ (parseMethodDescriptor (zy 40).desc).map (fun d => d.parameters.length) = some 5 := by decide +kernel
theorem zwi_41 : Cond.initialized (zy 41).cls ∈ zgt := zmem (List.mem_append_left _ (List.mem_of_getElem? (i := 1) rfl)) rfl
theorem zwn_41 : Cond.instanceMethod (zy 41) ∈ zgt := zmem (List.mem_append_right _ (List.mem_append_right _ (List.mem_append_right _ (List.mem_append_left _ (List.mem_of_getElem? (i := 20) rfl))))) rfl
theorem zwl_41 : Cond.selects (zy 41).cls (zy 41) (zy 41) ∈ zgt := zmem (List.mem_append_right _ (List.mem_append_right _ (List.mem_append_right _ (List.mem_append_left _ (List.mem_of_getElem? (i := 21) rfl))))) rfl
theorem zwd_41 : (zy 41).cls ≠ "java/lang/invoke/MethodHandle" ∧ (zy 41).cls ≠ "java/lang/invoke/VarHandle" ∧ (parseMethodDescriptor (zy 41).desc).map (fun d => d.parameters.length) = some 1 := by decide +kernel
theorem zwi_42 : Cond.initialized (zy 42).cls ∈ zgt := zmem (List.mem_append_left _ (List.mem_of_getElem? (i := 1) rfl)) rfl
theorem zwn_42 : Cond.instanceMethod (zy 42) ∈ zgt := zmem (List.mem_append_right _ (List.mem_append_right _ (List.mem_append_right _ (List.mem_append_left _ (List.mem_of_getElem? (i := 24) rfl))))) rfl
theorem zwl_42 : Cond.selects (zy 42).cls (zy 42) (zy 42) ∈ zgt := zmem (List.mem_append_right _ (List.mem_append_right _ (List.mem_append_right _ (List.mem_append_left _ (List.mem_of_getElem? (i := 25) rfl))))) rfl
theorem zwd_42 : (zy 42).cls ≠ "java/lang/invoke/MethodHandle" ∧ (zy 42).cls ≠ "java/lang/invoke/VarHandle" ∧ (parseMethodDescriptor (zy 42).desc).map (fun d => d.parameters.length) = some 1 := by decide +kernel
theorem zwi_43 : Cond.initialized (zy 43).cls ∈ zgt := zmem (List.mem_append_left _ (List.mem_of_getElem? (i := 1) rfl)) rfl
theorem zwn_43 : Cond.instanceMethod (zy 43) ∈ zgt := zmem (List.mem_append_right _ (List.mem_append_right _ (List.mem_append_right _ (List.mem_append_left _ (List.mem_of_getElem? (i := 28) rfl))))) rfl
theorem zwl_43 : Cond.selects (zy 43).cls (zy 43) (zy 43) ∈ zgt := zmem (List.mem_append_right _ (List.mem_append_right _ (List.mem_append_right _ (List.mem_append_left _ (List.mem_of_getElem? (i := 29) rfl))))) rfl
theorem zwd_43 : (zy 43).cls ≠ "java/lang/invoke/MethodHandle" ∧ (zy 43).cls ≠ "java/lang/invoke/VarHandle" ∧ (parseMethodDescriptor (zy 43).desc).map (fun d => d.parameters.length) = some 0 := by decide +kernel
theorem zwi_44 : Cond.initialized (zy 44).cls ∈ zgt := zmem (List.mem_append_left _ (List.mem_of_getElem? (i := 1) rfl)) rfl
theorem zwn_44 : Cond.instanceMethod (zy 44) ∈ zgt := zmem (List.mem_append_right _ (List.mem_append_right _ (List.mem_append_right _ (List.mem_append_left _ (List.mem_of_getElem? (i := 32) rfl))))) rfl
theorem zwl_44 : Cond.selects (zy 44).cls (zy 44) (zy 44) ∈ zgt := zmem (List.mem_append_right _ (List.mem_append_right _ (List.mem_append_right _ (List.mem_append_left _ (List.mem_of_getElem? (i := 33) rfl))))) rfl
theorem zwd_44 : (zy 44).cls ≠ "java/lang/invoke/MethodHandle" ∧ (zy 44).cls ≠ "java/lang/invoke/VarHandle" ∧ (parseMethodDescriptor (zy 44).desc).map (fun d => d.parameters.length) = some 0 := by decide +kernel
theorem zwi_45 : Cond.initialized (zy 45).cls ∈ zgt := zmem (List.mem_append_left _ (List.mem_of_getElem? (i := 1) rfl)) rfl
theorem zwn_45 : Cond.instanceMethod (zy 45) ∈ zgt := zmem (List.mem_append_right _ (List.mem_append_right _ (List.mem_append_right _ (List.mem_append_left _ (List.mem_of_getElem? (i := 36) rfl))))) rfl
theorem zwl_45 : Cond.selects (zy 45).cls (zy 45) (zy 45) ∈ zgt := zmem (List.mem_append_right _ (List.mem_append_right _ (List.mem_append_right _ (List.mem_append_left _ (List.mem_of_getElem? (i := 37) rfl))))) rfl
theorem zwd_45 : (zy 45).cls ≠ "java/lang/invoke/MethodHandle" ∧ (zy 45).cls ≠ "java/lang/invoke/VarHandle" ∧ (parseMethodDescriptor (zy 45).desc).map (fun d => d.parameters.length) = some 1 := by decide +kernel
theorem zwi_46 : Cond.initialized (zy 46).cls ∈ zgt := zmem (List.mem_append_left _ (List.mem_of_getElem? (i := 1) rfl)) rfl
theorem zwn_46 : Cond.instanceMethod (zy 46) ∈ zgt := zmem (List.mem_append_right _ (List.mem_append_right _ (List.mem_append_right _ (List.mem_append_left _ (List.mem_of_getElem? (i := 40) rfl))))) rfl
theorem zwl_46 : Cond.selects (zy 46).cls (zy 46) (zy 46) ∈ zgt := zmem (List.mem_append_right _ (List.mem_append_right _ (List.mem_append_right _ (List.mem_append_left _ (List.mem_of_getElem? (i := 41) rfl))))) rfl
theorem zwd_46 : (zy 46).cls ≠ "java/lang/invoke/MethodHandle" ∧ (zy 46).cls ≠ "java/lang/invoke/VarHandle" ∧ (parseMethodDescriptor (zy 46).desc).map (fun d => d.parameters.length) = some 0 := by decide +kernel
theorem zwi_47 : Cond.initialized (zy 47).cls ∈ zgt := zmem (List.mem_append_left _ (List.mem_of_getElem? (i := 1) rfl)) rfl
theorem zwn_47 : Cond.instanceMethod (zy 47) ∈ zgt := zmem (List.mem_append_right _ (List.mem_append_right _ (List.mem_append_right _ (List.mem_append_left _ (List.mem_of_getElem? (i := 45) rfl))))) rfl
theorem zwl_47 : Cond.selects (zy 47).cls (zy 47) (zy 47) ∈ zgt := zmem (List.mem_append_right _ (List.mem_append_right _ (List.mem_append_right _ (List.mem_append_left _ (List.mem_of_getElem? (i := 46) rfl))))) rfl
theorem zwd_47 : (zy 47).cls ≠ "java/lang/invoke/MethodHandle" ∧ (zy 47).cls ≠ "java/lang/invoke/VarHandle" ∧ (parseMethodDescriptor (zy 47).desc).map (fun d => d.parameters.length) = some 1 := by decide +kernel
theorem zwi_48 : Cond.initialized (zy 48).cls ∈ zgt := zmem (List.mem_append_left _ (List.mem_of_getElem? (i := 1) rfl)) rfl
theorem zwn_48 : Cond.instanceMethod (zy 48) ∈ zgt := zmem (List.mem_append_right _ (List.mem_append_right _ (List.mem_append_right _ (List.mem_append_left _ (List.mem_of_getElem? (i := 57) rfl))))) rfl
theorem zwl_48 : Cond.selects (zy 48).cls (zy 48) (zy 48) ∈ zgt := zmem (List.mem_append_right _ (List.mem_append_right _ (List.mem_append_right _ (List.mem_append_left _ (List.mem_of_getElem? (i := 58) rfl))))) rfl
theorem zwd_48 : (zy 48).cls ≠ "java/lang/invoke/MethodHandle" ∧ (zy 48).cls ≠ "java/lang/invoke/VarHandle" ∧ (parseMethodDescriptor (zy 48).desc).map (fun d => d.parameters.length) = some 1 := by decide +kernel
theorem zwi_49 : Cond.initialized (zy 49).cls ∈ zgt := zmem (List.mem_append_left _ (List.mem_of_getElem? (i := 2) rfl)) rfl
theorem zwn_49 : Cond.instanceMethod (zy 49) ∈ zgt := zmem (List.mem_append_right _ (List.mem_append_right _ (List.mem_append_left _ (List.mem_of_getElem? (i := 121) rfl)))) rfl
theorem zwl_49 : Cond.selects (zy 49).cls (zy 49) (zy 49) ∈ zgt := zmem (List.mem_append_right _ (List.mem_append_right _ (List.mem_append_left _ (List.mem_of_getElem? (i := 122) rfl)))) rfl
theorem zwd_49 : (zy 49).cls ≠ "java/lang/invoke/MethodHandle" ∧ (zy 49).cls ≠ "java/lang/invoke/VarHandle" ∧ (parseMethodDescriptor (zy 49).desc).map (fun d => d.parameters.length) = some 1 := by decide +kernel
theorem zwi_50 : Cond.initialized (zy 50).cls ∈ zgt := zmem (List.mem_append_left _ (List.mem_of_getElem? (i := 2) rfl)) rfl
theorem zwn_50 : Cond.instanceMethod (zy 50) ∈ zgt := zmem (List.mem_append_right _ (List.mem_append_right _ (List.mem_append_left _ (List.mem_of_getElem? (i := 115) rfl)))) rfl
theorem zwl_50 : Cond.selects (zy 50).cls (zy 50) (zy 50) ∈ zgt := zmem (List.mem_append_right _ (List.mem_append_right _ (List.mem_append_left _ (List.mem_of_getElem? (i := 116) rfl)))) rfl
theorem zwd_50 : (zy 50).cls ≠ "java/lang/invoke/MethodHandle" ∧ (zy 50).cls ≠ "java/lang/invoke/VarHandle" ∧ (parseMethodDescriptor (zy 50).desc).map (fun d => d.parameters.length) = some 1 := by decide +kernel
theorem zwi_51 : Cond.initialized (zy 51).cls ∈ zgt := zmem (List.mem_append_left _ (List.mem_of_getElem? (i := 2) rfl)) rfl
theorem zwn_51 : Cond.instanceMethod (zy 51) ∈ zgt := zmem (List.mem_append_right _ (List.mem_append_left _ (List.mem_of_getElem? (i := 44) rfl))) rfl
theorem zwl_51 : Cond.selects (zy 51).cls (zy 51) (zy 51) ∈ zgt := zmem (List.mem_append_right _ (List.mem_append_left _ (List.mem_of_getElem? (i := 45) rfl))) rfl
theorem zwd_51 : (zy 51).cls ≠ "java/lang/invoke/MethodHandle" ∧ (zy 51).cls ≠ "java/lang/invoke/VarHandle" ∧ (parseMethodDescriptor (zy 51).desc).map (fun d => d.parameters.length) = some 4 := by decide +kernel
theorem zwi_52 : Cond.initialized (zy 52).cls ∈ zgt := zmem (List.mem_append_left _ (List.mem_of_getElem? (i := 2) rfl)) rfl
theorem zwn_52 : Cond.instanceMethod (zy 52) ∈ zgt := zmem (List.mem_append_right _ (List.mem_append_left _ (List.mem_of_getElem? (i := 66) rfl))) rfl
theorem zwl_52 : Cond.selects (zy 52).cls (zy 52) (zy 52) ∈ zgt := zmemS (List.mem_of_getElem? (i := 2) rfl) rfl
theorem zwd_52 : (zy 52).cls ≠ "java/lang/invoke/MethodHandle" ∧ (zy 52).cls ≠ "java/lang/invoke/VarHandle" ∧ (parseMethodDescriptor (zy 52).desc).map (fun d => d.parameters.length) = some 1 := by decide +kernel
theorem zwi_53 : Cond.initialized (zy 53).cls ∈ zgt := zmem (List.mem_append_left _ (List.mem_of_getElem? (i := 2) rfl)) rfl
theorem zwn_53 : Cond.instanceMethod (zy 53) ∈ zgt := zmem (List.mem_append_right _ (List.mem_append_left _ (List.mem_of_getElem? (i := 70) rfl))) rfl
theorem zwl_53 : Cond.selects (zy 53).cls (zy 53) (zy 53) ∈ zgt := zmemS (List.mem_of_getElem? (i := 3) rfl) rfl
theorem zwd_53 : (zy 53).cls ≠ "java/lang/invoke/MethodHandle" ∧ (zy 53).cls ≠ "java/lang/invoke/VarHandle" ∧ (parseMethodDescriptor (zy 53).desc).map (fun d => d.parameters.length) = some 2 := by decide +kernel
theorem zwi_54 : Cond.initialized (zy 54).cls ∈ zgt := zmem (List.mem_append_left _ (List.mem_of_getElem? (i := 2) rfl)) rfl
theorem zwn_54 : Cond.instanceMethod (zy 54) ∈ zgt := zmem (List.mem_append_right _ (List.mem_append_left _ (List.mem_of_getElem? (i := 94) rfl))) rfl
theorem zwl_54 : Cond.selects (zy 54).cls (zy 54) (zy 54) ∈ zgt := zmemS (List.mem_of_getElem? (i := 6) rfl) rfl
theorem zwd_54 : (zy 54).cls ≠ "java/lang/invoke/MethodHandle" ∧ (zy 54).cls ≠ "java/lang/invoke/VarHandle" ∧ (parseMethodDescriptor (zy 54).desc).map (fun d => d.parameters.length) = some 1 := by decide +kernel
theorem zwi_55 : Cond.initialized (zy 55).cls ∈ zgt := zmem (List.mem_append_left _ (List.mem_of_getElem? (i := 2) rfl)) rfl
theorem zwn_55 : Cond.instanceMethod (zy 55) ∈ zgt := zmem (List.mem_append_right _ (List.mem_append_left _ (List.mem_of_getElem? (i := 86) rfl))) rfl
theorem zwl_55 : Cond.selects (zy 55).cls (zy 55) (zy 55) ∈ zgt := zmemS (List.mem_of_getElem? (i := 5) rfl) rfl
theorem zwd_55 : (zy 55).cls ≠ "java/lang/invoke/MethodHandle" ∧ (zy 55).cls ≠ "java/lang/invoke/VarHandle" ∧ (parseMethodDescriptor (zy 55).desc).map (fun d => d.parameters.length) = some 3 := by decide +kernel
theorem zwi_56 : Cond.initialized (zy 56).cls ∈ zgt := zmem (List.mem_append_left _ (List.mem_of_getElem? (i := 2) rfl)) rfl
theorem zwn_56 : Cond.instanceMethod (zy 56) ∈ zgt := zmem (List.mem_append_right _ (List.mem_append_left _ (List.mem_of_getElem? (i := 82) rfl))) rfl
theorem zwl_56 : Cond.selects (zy 56).cls (zy 56) (zy 56) ∈ zgt := zmemS (List.mem_of_getElem? (i := 4) rfl) rfl
theorem zwd_56 : (zy 56).cls ≠ "java/lang/invoke/MethodHandle" ∧ (zy 56).cls ≠ "java/lang/invoke/VarHandle" ∧ (parseMethodDescriptor (zy 56).desc).map (fun d => d.parameters.length) = some 1 := by decide +kernel
theorem zwi_57 : Cond.initialized (zy 57).cls ∈ zgt := zmem (List.mem_append_left _ (List.mem_of_getElem? (i := 2) rfl)) rfl
theorem zwn_57 : Cond.instanceMethod (zy 57) ∈ zgt := zmem (List.mem_append_right _ (List.mem_append_left _ (List.mem_of_getElem? (i := 110) rfl))) rfl
theorem zwl_57 : Cond.selects (zy 57).cls (zy 57) (zy 57) ∈ zgt := zmemS (List.mem_of_getElem? (i := 7) rfl) rfl
theorem zwd_57 : (zy 57).cls ≠ "java/lang/invoke/MethodHandle" ∧ (zy 57).cls ≠ "java/lang/invoke/VarHandle" ∧ (parseMethodDescriptor (zy 57).desc).map (fun d => d.parameters.length) = some 2 := by decide +kernel
theorem zwi_58 : Cond.initialized (zy 58).cls ∈ zgt := zmem (List.mem_append_left _ (List.mem_of_getElem? (i := 2) rfl)) rfl
theorem zwn_58 : Cond.instanceMethod (zy 58) ∈ zgt := zmem (List.mem_append_right _ (List.mem_append_left _ (List.mem_of_getElem? (i := 60) rfl))) rfl
theorem zwl_58 : Cond.selects (zy 58).cls (zy 58) (zy 58) ∈ zgt := zmem (List.mem_append_right _ (List.mem_append_left _ (List.mem_of_getElem? (i := 61) rfl))) rfl
theorem zwd_58 : (zy 58).cls ≠ "java/lang/invoke/MethodHandle" ∧ (zy 58).cls ≠ "java/lang/invoke/VarHandle" ∧ (parseMethodDescriptor (zy 58).desc).map (fun d => d.parameters.length) = some 1 := by decide +kernel
theorem zwi_59 : Cond.initialized (zy 59).cls ∈ zgt := zmem (List.mem_append_left _ (List.mem_of_getElem? (i := 2) rfl)) rfl
theorem zwn_59 : Cond.instanceMethod (zy 59) ∈ zgt := zmem (List.mem_append_right _ (List.mem_append_left _ (List.mem_of_getElem? (i := 56) rfl))) rfl
theorem zwl_59 : Cond.selects (zy 59).cls (zy 59) (zy 59) ∈ zgt := zmem (List.mem_append_right _ (List.mem_append_left _ (List.mem_of_getElem? (i := 57) rfl))) rfl
theorem zwd_59 : (zy 59).cls ≠ "java/lang/invoke/MethodHandle" ∧ (zy 59).cls ≠ "java/lang/invoke/VarHandle" ∧ (parseMethodDescriptor (zy 59).desc).map (fun d => d.parameters.length) = some 2 := by decide +kernel
theorem zwi_60 : Cond.initialized (zy 60).cls ∈ zgt := zmem (List.mem_append_left _ (List.mem_of_getElem? (i := 2) rfl)) rfl
theorem zwn_60 : Cond.instanceMethod (zy 60) ∈ zgt := zmem (List.mem_append_right _ (List.mem_append_right _ (List.mem_append_left _ (List.mem_of_getElem? (i := 27) rfl)))) rfl
theorem zwl_60 : Cond.selects (zy 60).cls (zy 60) (zy 60) ∈ zgt := zmem (List.mem_append_right _ (List.mem_append_right _ (List.mem_append_left _ (List.mem_of_getElem? (i := 28) rfl)))) rfl
theorem zwd_60 : (zy 60).cls ≠ "java/lang/invoke/MethodHandle" ∧ (zy 60).cls ≠ "java/lang/invoke/VarHandle" ∧ (parseMethodDescriptor (zy 60).desc).map (fun d => d.parameters.length) = some 1 := by decide +kernel
theorem zwi_61 : Cond.initialized (zy 61).cls ∈ zgt := zmem (List.mem_append_left _ (List.mem_of_getElem? (i := 2) rfl)) rfl
theorem zwn_61 : Cond.instanceMethod (zy 61) ∈ zgt := zmem (List.mem_append_right _ (List.mem_append_left _ (List.mem_of_getElem? (i := 137) rfl))) rfl
theorem zwl_61 : Cond.selects (zy 61).cls (zy 61) (zy 61) ∈ zgt := zmem (List.mem_append_right _ (List.mem_append_left _ (List.mem_of_getElem? (i := 138) rfl))) rfl
theorem zwd_61 : (zy 61).cls ≠ "java/lang/invoke/MethodHandle" ∧ (zy 61).cls ≠ "java/lang/invoke/VarHandle" ∧ (parseMethodDescriptor (zy 61).desc).map (fun d => d.parameters.length) = some 2 := by decide +kernel
theorem zwi_62 : Cond.initialized (zy 62).cls ∈ zgt := zmem (List.mem_append_left _ (List.mem_of_getElem? (i := 2) rfl)) rfl
theorem zwn_62 : Cond.instanceMethod (zy 62) ∈ zgt := zmem (List.mem_append_right _ (List.mem_append_right _ (List.mem_append_left _ (List.mem_of_getElem? (i := 54) rfl)))) rfl
theorem zwl_62 : Cond.selects (zy 62).cls (zy 62) (zy 62) ∈ zgt := zmem (List.mem_append_right _ (List.mem_append_right _ (List.mem_append_left _ (List.mem_of_getElem? (i := 55) rfl)))) rfl
theorem zwd_62 : (zy 62).cls ≠ "java/lang/invoke/MethodHandle" ∧ (zy 62).cls ≠ "java/lang/invoke/VarHandle" ∧ (parseMethodDescriptor (zy 62).desc).map (fun d => d.parameters.length) = some 0 := by decide +kernel
theorem zwi_63 : Cond.initialized (zy 63).cls ∈ zgt := zmem (List.mem_append_left _ (List.mem_of_getElem? (i := 2) rfl)) rfl
theorem zwn_63 : Cond.instanceMethod (zy 63) ∈ zgt := zmem (List.mem_append_right _ (List.mem_append_right _ (List.mem_append_left _ (List.mem_of_getElem? (i := 70) rfl)))) rfl
theorem zwl_63 : Cond.selects (zy 63).cls (zy 63) (zy 63) ∈ zgt := zmem (List.mem_append_right _ (List.mem_append_right _ (List.mem_append_left _ (List.mem_of_getElem? (i := 71) rfl)))) rfl
theorem zwd_63 : (zy 63).cls ≠ "java/lang/invoke/MethodHandle" ∧ (zy 63).cls ≠ "java/lang/invoke/VarHandle" ∧ (parseMethodDescriptor (zy 63).desc).map (fun d => d.parameters.length) = some 0 := by decide +kernel
theorem zwi_64 : Cond.initialized (zy 64).cls ∈ zgt := zmem (List.mem_append_left _ (List.mem_of_getElem? (i := 2) rfl)) rfl
theorem zwn_64 : Cond.instanceMethod (zy 64) ∈ zgt := zmem (List.mem_append_right _ (List.mem_append_right _ (List.mem_append_left _ (List.mem_of_getElem? (i := 63) rfl)))) rfl
theorem zwl_64 : Cond.selects (zy 64).cls (zy 64) (zy 64) ∈ zgt := zmemS (List.mem_of_getElem? (i := 15) rfl) rfl
theorem zwd_64 : (zy 64).cls ≠ "java/lang/invoke/MethodHandle" ∧ (zy 64).cls ≠ "java/lang/invoke/VarHandle" ∧ (parseMethodDescriptor (zy 64).desc).map (fun d => d.parameters.length) = some 0 := by decide +kernel
theorem zwi_65 : Cond.initialized (zy 65).cls ∈ zgt := zmem (List.mem_append_left _ (List.mem_of_getElem? (i := 2) rfl)) rfl
theorem zwn_65 : Cond.instanceMethod (zy 65) ∈ zgt := zmem (List.mem_append_right _ (List.mem_append_right _ (List.mem_append_left _ (List.mem_of_getElem? (i := 67) rfl)))) rfl
theorem zwl_65 : Cond.selects (zy 65).cls (zy 65) (zy 65) ∈ zgt := zmemS (List.mem_of_getElem? (i := 16) rfl) rfl
theorem zwd_65 : (zy 65).cls ≠ "java/lang/invoke/MethodHandle" ∧ (zy 65).cls ≠ "java/lang/invoke/VarHandle" ∧ (parseMethodDescriptor (zy 65).desc).map (fun d => d.parameters.length) = some 0 := by decide +kernel
theorem zwi_66 : Cond.initialized (zy 66).cls ∈ zgt := zmem (List.mem_append_left _ (List.mem_of_getElem? (i := 2) rfl)) rfl
theorem zwn_66 : Cond.instanceMethod (zy 66) ∈ zgt := zmem (List.mem_append_right _ (List.mem_append_right _ (List.mem_append_left _ (List.mem_of_getElem? (i := 75) rfl)))) rfl
theorem zwl_66 : Cond.selects (zy 66).cls (zy 66) (zy 66) ∈ zgt := zmemS (List.mem_of_getElem? (i := 17) rfl) rfl
theorem zwd_66 : (zy 66).cls ≠ "java/lang/invoke/MethodHandle" ∧ (zy 66).cls ≠ "java/lang/invoke/VarHandle" ∧ (parseMethodDescriptor (zy 66).desc).map (fun d => d.parameters.length) = some 1 := by decide +kernel
theorem zwi_67 : Cond.initialized (zy 67).cls ∈ zgt := zmem (List.mem_append_left _ (List.mem_of_getElem? (i := 2) rfl)) rfl
theorem zwn_67 : Cond.instanceMethod (zy 67) ∈ zgt := zmem (List.mem_append_right _ (List.mem_append_right _ (List.mem_append_left _ (List.mem_of_getElem? (i := 59) rfl)))) rfl
theorem zwl_67 : Cond.selects (zy 67).cls (zy 67) (zy 67) ∈ zgt := zmemS (List.mem_of_getElem? (i := 14) rfl) rfl
theorem zwd_67 : (zy 67).cls ≠ "java/lang/invoke/MethodHandle" ∧ (zy 67).cls ≠ "java/lang/invoke/VarHandle" ∧ (parseMethodDescriptor (zy 67).desc).map (fun d => d.parameters.length) = some 0 := by decide +kernel
theorem zwi_68 : Cond.initialized (zy 68).cls ∈ zgt := zmem (List.mem_append_left _ (List.mem_of_getElem? (i := 2) rfl)) rfl
theorem zwn_68 : Cond.instanceMethod (zy 68) ∈ zgt := zmem (List.mem_append_right _ (List.mem_append_right _ (List.mem_append_left _ (List.mem_of_getElem? (i := 79) rfl)))) rfl
theorem zwl_68 : Cond.selects (zy 68).cls (zy 68) (zy 68) ∈ zgt := zmemS (List.mem_of_getElem? (i := 18) rfl) rfl
theorem zwd_68 : (zy 68).cls ≠ "java/lang/invoke/MethodHandle" ∧ (zy 68).cls ≠ "java/lang/invoke/VarHandle" ∧ (parseMethodDescriptor (zy 68).desc).map (fun d => d.parameters.length) = some 0 := by decide +kernel
theorem zwi_69 : Cond.initialized (zy 69).cls ∈ zgt := zmem (List.mem_append_left _ (List.mem_of_getElem? (i := 2) rfl)) rfl
theorem zwn_69 : Cond.instanceMethod (zy 69) ∈ zgt := zmem (List.mem_append_right _ (List.mem_append_right _ (List.mem_append_left _ (List.mem_of_getElem? (i := 86) rfl)))) rfl
theorem zwl_69 : Cond.selects (zy 69).cls (zy 69) (zy 69) ∈ zgt := zmemS (List.mem_of_getElem? (i := 19) rfl) rfl
theorem zwd_69 : (zy 69).cls ≠ "java/lang/invoke/MethodHandle" ∧ (zy 69).cls ≠ "java/lang/invoke/VarHandle" ∧ (parseMethodDescriptor (zy 69).desc).map (fun d => d.parameters.length) = some 0 := by decide +kernel
theorem zwi_70 : Cond.initialized (zy 70).cls ∈ zgt := zmem (List.mem_append_left _ (List.mem_of_getElem? (i := 2) rfl)) rfl
theorem zwn_70 : Cond.instanceMethod (zy 70) ∈ zgt := zmem (List.mem_append_right _ (List.mem_append_right _ (List.mem_append_left _ (List.mem_of_getElem? (i := 50) rfl)))) rfl
theorem zwl_70 : Cond.selects (zy 70).cls (zy 70) (zy 70) ∈ zgt := zmem (List.mem_append_right _ (List.mem_append_right _ (List.mem_append_left _ (List.mem_of_getElem? (i := 51) rfl)))) rfl
theorem zwd_70 : (zy 70).cls ≠ "java/lang/invoke/MethodHandle" ∧ (zy 70).cls ≠ "java/lang/invoke/VarHandle" ∧ (parseMethodDescriptor (zy 70).desc).map (fun d => d.parameters.length) = some 1 := by decide +kernel
theorem zwi_71 : Cond.initialized (zy 71).cls ∈ zgt := zmem (List.mem_append_left _ (List.mem_of_getElem? (i := 2) rfl)) rfl
theorem zwn_71 : Cond.instanceMethod (zy 71) ∈ zgt := zmem (List.mem_append_right _ (List.mem_append_right _ (List.mem_append_left _ (List.mem_of_getElem? (i := 94) rfl)))) rfl
theorem zwl_71 : Cond.selects (zy 71).cls (zy 71) (zy 71) ∈ zgt := zmem (List.mem_append_right _ (List.mem_append_right _ (List.mem_append_left _ (List.mem_of_getElem? (i := 95) rfl)))) rfl
theorem zwd_71 : (zy 71).cls ≠ "java/lang/invoke/MethodHandle" ∧ (zy 71).cls ≠ "java/lang/invoke/VarHandle" ∧ (parseMethodDescriptor (zy 71).desc).map (fun d => d.parameters.length) = some 0 := by decide +kernel
theorem zwi_72 : Cond.initialized (zy 72).cls ∈ zgt := zmem (List.mem_append_left _ (List.mem_of_getElem? (i := 2) rfl)) rfl
theorem zwn_72 : Cond.instanceMethod (zy 72) ∈ zgt := zmem (List.mem_append_right _ (List.mem_append_right _ (List.mem_append_left _ (List.mem_of_getElem? (i := 107) rfl)))) rfl
theorem zwl_72 : Cond.selects (zy 72).cls (zy 72) (zy 72) ∈ zgt := zmem (List.mem_append_right _ (List.mem_append_right _ (List.mem_append_left _ (List.mem_of_getElem? (i := 108) rfl)))) rfl
theorem zwd_72 : (zy 72).cls ≠ "java/lang/invoke/MethodHandle" ∧ (zy 72).cls ≠ "java/lang/invoke/VarHandle" ∧ (parseMethodDescriptor (zy 72).desc).map (fun d => d.parameters.length) = some 1 := by decide +kernel
theorem zwi_73 : Cond.initialized (zy 73).cls ∈ zgt := zmem (List.mem_append_left _ (List.mem_of_getElem? (i := 2) rfl)) rfl
theorem zwn_73 : Cond.instanceMethod (zy 73) ∈ zgt := zmem (List.mem_append_right _ (List.mem_append_right _ (List.mem_append_left _ (List.mem_of_getElem? (i := 152) rfl)))) rfl
theorem zwl_73 : Cond.selects (zy 73).cls (zy 73) (zy 73) ∈ zgt := zmem (List.mem_append_right _ (List.mem_append_right _ (List.mem_append_left _ (List.mem_of_getElem? (i := 153) rfl)))) rfl
theorem zwd_73 : (zy 73).cls ≠ "java/lang/invoke/MethodHandle" ∧ (zy 73).cls ≠ "java/lang/invoke/VarHandle" ∧ (parseMethodDescriptor (zy 73).desc).map (fun d => d.parameters.length) = some 1 := by decide +kernel
theorem zwi_74 : Cond.initialized (zy 74).cls ∈ zgt := zmem (List.mem_append_left _ (List.mem_of_getElem? (i := 2) rfl)) rfl
theorem zwn_74 : Cond.instanceMethod (zy 74) ∈ zgt := zmem (List.mem_append_right _ (List.mem_append_right _ (List.mem_append_left _ (List.mem_of_getElem? (i := 180) rfl)))) rfl
theorem zwl_74 : Cond.selects (zy 74).cls (zy 74) (zy 74) ∈ zgt := zmem (List.mem_append_right _ (List.mem_append_right _ (List.mem_append_left _ (List.mem_of_getElem? (i := 181) rfl)))) rfl
theorem zwd_74 : (zy 74).cls ≠ "java/lang/invoke/MethodHandle" ∧ (zy 74).cls ≠ "java/lang/invoke/VarHandle" ∧ (parseMethodDescriptor (zy 74).desc).map (fun d => d.parameters.length) = some 0 := by decide +kernel
theorem zwi_75 : Cond.initialized (zy 75).cls ∈ zgt := zmem (List.mem_append_left _ (List.mem_of_getElem? (i := 2) rfl)) rfl
theorem zwn_75 : Cond.instanceMethod (zy 75) ∈ zgt := zmem (List.mem_append_right _ (List.mem_append_right _ (List.mem_append_left _ (List.mem_of_getElem? (i := 184) rfl)))) rfl
theorem zwl_75 : Cond.selects (zy 75).cls (zy 75) (zy 75) ∈ zgt := zmem (List.mem_append_right _ (List.mem_append_right _ (List.mem_append_left _ (List.mem_of_getElem? (i := 185) rfl)))) rfl
theorem zwd_75 : (zy 75).cls ≠ "java/lang/invoke/MethodHandle" ∧ (zy 75).cls ≠ "java/lang/invoke/VarHandle" ∧ (parseMethodDescriptor (zy 75).desc).map (fun d => d.parameters.length) = some 0 := by decide +kernel
theorem zwi_76 : Cond.initialized (zy 76).cls ∈ zgt := zmem (List.mem_append_left _ (List.mem_of_getElem? (i := 2) rfl)) rfl
theorem zwn_76 : Cond.instanceMethod (zy 76) ∈ zgt := zmem (List.mem_append_right _ (List.mem_append_right _ (List.mem_append_right _ (List.mem_append_left _ (List.mem_of_getElem? (i := 53) rfl))))) rfl
theorem zwl_76 : Cond.selects (zy 76).cls (zy 76) (zy 76) ∈ zgt := zmem (List.mem_append_right _ (List.mem_append_right _ (List.mem_append_right _ (List.mem_append_left _ (List.mem_of_getElem? (i := 54) rfl))))) rfl
theorem zwd_76 : (zy 76).cls ≠ "java/lang/invoke/MethodHandle" ∧ (zy 76).cls ≠ "java/lang/invoke/VarHandle" ∧ (parseMethodDescriptor (zy 76).desc).map (fun d => d.parameters.length) = some 0 := by decide +kernel
theorem zwi_77 : Cond.initialized (zy 77).cls ∈ zgt := zmem (List.mem_append_left _ (List.mem_of_getElem? (i := 2) rfl)) rfl
theorem zwn_77 : Cond.instanceMethod (zy 77) ∈ zgt := zmem (List.mem_append_right _ (List.mem_append_right _ (List.mem_append_right _ (List.mem_append_left _ (List.mem_of_getElem? (i := 49) rfl))))) rfl
theorem zwl_77 : Cond.selects (zy 77).cls (zy 77) (zy 77) ∈ zgt := zmem (List.mem_append_right _ (List.mem_append_right _ (List.mem_append_right _ (List.mem_append_left _ (List.mem_of_getElem? (i := 50) rfl))))) rfl
theorem zwd_77 : (zy 77).cls ≠ "java/lang/invoke/MethodHandle" ∧ (zy 77).cls ≠ "java/lang/invoke/VarHandle" ∧ (parseMethodDescriptor (zy 77).desc).map (fun d => d.parameters.length) = some 0 := by decide +kernel
theorem zwi_78 : Cond.initialized (zy 78).cls ∈ zgt := zmem (List.mem_append_left _ (List.mem_of_getElem? (i := 3) rfl)) rfl
theorem zwn_78 : Cond.instanceMethod (zy 78) ∈ zgt := zmem (List.mem_append_right _ (List.mem_append_left _ (List.mem_of_getElem? (i := 152) rfl))) rfl
theorem zwl_78 : Cond.selects (zy 78).cls (zy 78) (zy 78) ∈ zgt := zmem (List.mem_append_right _ (List.mem_append_left _ (List.mem_of_getElem? (i := 153) rfl))) rfl
theorem zwd_78 : (zy 78).cls ≠ "java/lang/invoke/MethodHandle" ∧ (zy 78).cls ≠ "java/lang/invoke/VarHandle" ∧ (parseMethodDescriptor (zy 78).desc).map (fun d => d.parameters.length) = some 0 := by decide +kernel
theorem zwi_79 : Cond.initialized (zy 79).cls ∈ zgt := zmem (List.mem_append_left _ (List.mem_of_getElem? (i := 3) rfl)) rfl
theorem zwn_79 : Cond.instanceMethod (zy 79) ∈ zgt := zmem (List.mem_append_right _ (List.mem_append_left _ (List.mem_of_getElem? (i := 173) rfl))) rfl
theorem zwl_79 : Cond.selects (zy 79).cls (zy 79) (zy 79) ∈ zgt := zmem (List.mem_append_right _ (List.mem_append_left _ (List.mem_of_getElem? (i := 174) rfl))) rfl
theorem zwd_79 : (zy 79).cls ≠ "java/lang/invoke/MethodHandle" ∧ (zy 79).cls ≠ "java/lang/invoke/VarHandle" ∧ (parseMethodDescriptor (zy 79).desc).map (fun d => d.parameters.length) = some 2 := by decide +kernel
theorem zwi_80 : Cond.initialized (zy 80).cls ∈ zgt := zmem (List.mem_append_left _ (List.mem_of_getElem? (i := 3) rfl)) rfl
theorem zwn_80 : Cond.instanceMethod (zy 80) ∈ zgt := zmem (List.mem_append_right _ (List.mem_append_right _ (List.mem_append_left _ (List.mem_of_getElem? (i := 31) rfl)))) rfl
theorem zwl_80 : Cond.selects (zy 80).cls (zy 80) (zy 80) ∈ zgt := zmem (List.mem_append_right _ (List.mem_append_right _ (List.mem_append_left _ (List.mem_of_getElem? (i := 32) rfl)))) rfl
theorem zwd_80 : (zy 80).cls ≠ "java/lang/invoke/MethodHandle" ∧ (zy 80).cls ≠ "java/lang/invoke/VarHandle" ∧ (parseMethodDescriptor (zy 80).desc).map (fun d => d.parameters.length) = some 1 := by decide +kernel
theorem zwi_81 : Cond.initialized (zy 81).cls ∈ zgt := zmem (List.mem_append_left _ (List.mem_of_getElem? (i := 3) rfl)) rfl
theorem zwn_81 : Cond.instanceMethod (zy 81) ∈ zgt := zmem (List.mem_append_right _ (List.mem_append_right _ (List.mem_append_left _ (List.mem_of_getElem? (i := 42) rfl)))) rfl
theorem zwl_81 : Cond.selects (zy 81).cls (zy 81) (zy 81) ∈ zgt := zmem (List.mem_append_right _ (List.mem_append_right _ (List.mem_append_left _ (List.mem_of_getElem? (i := 43) rfl)))) rfl
theorem zwd_81 : (zy 81).cls ≠ "java/lang/invoke/MethodHandle" ∧ (zy 81).cls ≠ "java/lang/invoke/VarHandle" ∧ (parseMethodDescriptor (zy 81).desc).map (fun d => d.parameters.length) = some 0 := by decide +kernel
theorem zwi_82 : Cond.initialized (zy 82).cls ∈ zgt := zmem (List.mem_append_left _ (List.mem_of_getElem? (i := 3) rfl)) rfl
theorem zws_82 : Cond.static (zy 82) ∈ zgt := zmem (List.mem_append_right _ (List.mem_append_left _ (List.mem_of_getElem? (i := 78) rfl))) rfl
theorem zwd_82 : (zy 82).cls ≠ "java/lang/invoke/MethodHandle" ∧ (zy 82).cls ≠ "java/lang/invoke/VarHandle" ∧ (parseMethodDescriptor (zy 82).desc).map (fun d => d.parameters.length) = some 3 := by decide +kernel
theorem zwi_83 : Cond.initialized (zy 83).cls ∈ zgt := zmem (List.mem_append_left _ (List.mem_of_getElem? (i := 3) rfl)) rfl
theorem zwn_83 : Cond.instanceMethod (zy 83) ∈ zgt := zmem (List.mem_append_right _ (List.mem_append_left _ (List.mem_of_getElem? (i := 73) rfl))) rfl
theorem zwl_83 : Cond.selects (zy 83).cls (zy 83) (zy 83) ∈ zgt := zmem (List.mem_append_right _ (List.mem_append_left _ (List.mem_of_getElem? (i := 74) rfl))) rfl
theorem zwd_83 : (zy 83).cls ≠ "java/lang/invoke/MethodHandle" ∧ (zy 83).cls ≠ "java/lang/invoke/VarHandle" ∧ (parseMethodDescriptor (zy 83).desc).map (fun d => d.parameters.length) = some 1 := by decide +kernel
theorem zwi_84 : Cond.initialized (zy 84).cls ∈ zgt := zmem (List.mem_append_left _ (List.mem_of_getElem? (i := 5) rfl)) rfl
theorem zws_84 : Cond.static (zy 84) ∈ zgt := zmem (List.mem_append_right _ (List.mem_append_right _ (List.mem_append_left _ (List.mem_of_getElem? (i := 19) rfl)))) rfl
theorem zwd_84 : (zy 84).cls ≠ "java/lang/invoke/MethodHandle" ∧ (zy 84).cls ≠ "java/lang/invoke/VarHandle" ∧ (parseMethodDescriptor (zy 84).desc).map (fun d => d.parameters.length) = some 1 := by decide +kernel
theorem zwi_85 : Cond.initialized (zy 85).cls ∈ zgt := zmem (List.mem_append_left _ (List.mem_of_getElem? (i := 5) rfl)) rfl
theorem zwn_85 : Cond.instanceMethod (zy 85) ∈ zgt := zmem (List.mem_append_right _ (List.mem_append_left _ (List.mem_of_getElem? (i := 165) rfl))) rfl
theorem zwl_85 : Cond.selects (zy 85).cls (zy 85) (zy 85) ∈ zgt := zmemS (List.mem_of_getElem? (i := 10) rfl) rfl
theorem zwd_85 : (zy 85).cls ≠ "java/lang/invoke/MethodHandle" ∧ (zy 85).cls ≠ "java/lang/invoke/VarHandle" ∧ (parseMethodDescriptor (zy 85).desc).map (fun d => d.parameters.length) = some 0 := by decide +kernel
theorem zwi_86 : Cond.initialized (zy 86).cls ∈ zgt := zmem (List.mem_append_left _ (List.mem_of_getElem? (i := 5) rfl)) rfl
theorem zwn_86 : Cond.instanceMethod (zy 86) ∈ zgt := zmem (List.mem_append_right _ (List.mem_append_left _ (List.mem_of_getElem? (i := 178) rfl))) rfl
theorem zwl_86 : Cond.selects (zy 86).cls (zy 86) (zy 86) ∈ zgt := zmemS (List.mem_of_getElem? (i := 12) rfl) rfl
theorem zwd_86 : (zy 86).cls ≠ "java/lang/invoke/MethodHandle" ∧ (zy 86).cls ≠ "java/lang/invoke/VarHandle" ∧ (parseMethodDescriptor (zy 86).desc).map (fun d => d.parameters.length) = some 1 := by decide +kernel
theorem zwi_87 : Cond.initialized (zy 87).cls ∈ zgt := zmem (List.mem_append_left _ (List.mem_of_getElem? (i := 5) rfl)) rfl
theorem zwn_87 : Cond.instanceMethod (zy 87) ∈ zgt := zmem (List.mem_append_right _ (List.mem_append_left _ (List.mem_of_getElem? (i := 170) rfl))) rfl
theorem zwl_87 : Cond.selects (zy 87).cls (zy 87) (zy 87) ∈ zgt := zmemS (List.mem_of_getElem? (i := 11) rfl) rfl
theorem zwd_87 : (zy 87).cls ≠ "java/lang/invoke/MethodHandle" ∧ (zy 87).cls ≠ "java/lang/invoke/VarHandle" ∧ (parseMethodDescriptor (zy 87).desc).map (fun d => d.parameters.length) = some 0 := by decide +kernel
theorem zwi_88 : Cond.initialized (zy 88).cls ∈ zgt := zmem (List.mem_append_left _ (List.mem_of_getElem? (i := 5) rfl)) rfl
theorem zwn_88 : Cond.instanceMethod (zy 88) ∈ zgt := zmem (List.mem_append_right _ (List.mem_append_right _ (List.mem_append_left _ (List.mem_of_getElem? (i := 16) rfl)))) rfl
theorem zwl_88 : Cond.selects (zy 88).cls (zy 88) (zy 88) ∈ zgt := zmemS (List.mem_of_getElem? (i := 13) rfl) rfl
theorem zwd_88 : (zy 88).cls ≠ "java/lang/invoke/MethodHandle" ∧ (zy 88).cls ≠ "java/lang/invoke/VarHandle" ∧ (parseMethodDescriptor (zy 88).desc).map (fun d => d.parameters.length) = some 0 := by decide +kernel
theorem zwi_89 : Cond.initialized (zy 89).cls ∈ zgt := zmem (List.mem_append_left _ (List.mem_of_getElem? (i := 5) rfl)) rfl
theorem zwn_89 : Cond.instanceMethod (zy 89) ∈ zgt := zmem (List.mem_append_right _ (List.mem_append_left _ (List.mem_of_getElem? (i := 157) rfl))) rfl
theorem zwl_89 : Cond.selects (zy 89).cls (zy 89) (zy 89) ∈ zgt := zmemS (List.mem_of_getElem? (i := 8) rfl) rfl
theorem zwd_89 : (zy 89).cls ≠ "java/lang/invoke/MethodHandle" ∧ (zy 89).cls ≠ "java/lang/invoke/VarHandle" ∧ (parseMethodDescriptor (zy 89).desc).map (fun d => d.parameters.length) = some 2 := by decide +kernel
theorem zwi_90 : Cond.initialized (zy 90).cls ∈ zgt := zmem (List.mem_append_left _ (List.mem_of_getElem? (i := 5) rfl)) rfl
theorem zwn_90 : Cond.instanceMethod (zy 90) ∈ zgt := zmem (List.mem_append_right _ (List.mem_append_left _ (List.mem_of_getElem? (i := 161) rfl))) rfl
theorem zwl_90 : Cond.selects (zy 90).cls (zy 90) (zy 90) ∈ zgt := zmemS (List.mem_of_getElem? (i := 9) rfl) rfl
theorem zwd_90 : (zy 90).cls ≠ "java/lang/invoke/MethodHandle" ∧ (zy 90).cls ≠ "java/lang/invoke/VarHandle" ∧ (parseMethodDescriptor (zy 90).desc).map (fun d => d.parameters.length) = some 1 := by decide +kernel
theorem zwi_91 : Cond.initialized (zy 91).cls ∈ zgt := zmem (List.mem_append_left _ (List.mem_of_getElem? (i := 5) rfl)) rfl
theorem zwn_91 : Cond.instanceMethod (zy 91) ∈ zgt := zmem (List.mem_append_right _ (List.mem_append_left _ (List.mem_of_getElem? (i := 147) rfl))) rfl
theorem zwl_91 : Cond.selects (zy 91).cls (zy 91) (zy 91) ∈ zgt := zmem (List.mem_append_right _ (List.mem_append_left _ (List.mem_of_getElem? (i := 148) rfl))) rfl
theorem zwd_91 : (zy 91).cls ≠ "java/lang/invoke/MethodHandle" ∧ (zy 91).cls ≠ "java/lang/invoke/VarHandle" ∧ (parseMethodDescriptor (zy 91).desc).map (fun d => d.parameters.length) = some 3 := by decide +kernel
theorem zwi_92 : Cond.initialized (zy 92).cls ∈ zgt := zmem (List.mem_append_left _ (List.mem_of_getElem? (i := 6) rfl)) rfl
theorem zwn_92 : Cond.instanceMethod (zy 92) ∈ zgt := zmem (List.mem_append_right _ (List.mem_append_right _ (List.mem_append_left _ (List.mem_of_getElem? (i := 212) rfl)))) rfl
theorem zwl_92 : Cond.selects (zy 92).cls (zy 92) (zy 92) ∈ zgt := zmemS (List.mem_of_getElem? (i := 23) rfl) rfl
theorem zwd_92 : (zy 92).cls ≠ "java/lang/invoke/MethodHandle" ∧ (zy 92).cls ≠ "java/lang/invoke/VarHandle" ∧ (parseMethodDescriptor (zy 92).desc).map (fun d => d.parameters.length) = some 1 := by decide +kernel
theorem zwi_93 : Cond.initialized (zy 93).cls ∈ zgt := zmem (List.mem_append_left _ (List.mem_of_getElem? (i := 6) rfl)) rfl
theorem zwn_93 : Cond.instanceMethod (zy 93) ∈ zgt := zmem (List.mem_append_right _ (List.mem_append_right _ (List.mem_append_left _ (List.mem_of_getElem? (i := 216) rfl)))) rfl
theorem zwl_93 : Cond.selects (zy 93).cls (zy 93) (zy 93) ∈ zgt := zmemS (List.mem_of_getElem? (i := 24) rfl) rfl
theorem zwd_93 : (zy 93).cls ≠ "java/lang/invoke/MethodHandle" ∧ (zy 93).cls ≠ "java/lang/invoke/VarHandle" ∧ (parseMethodDescriptor (zy 93).desc).map (fun d => d.parameters.length) = some 1 := by decide +kernel
theorem zwi_94 : Cond.initialized (zy 94).cls ∈ zgt := zmem (List.mem_append_left _ (List.mem_of_getElem? (i := 6) rfl)) rfl
theorem zwn_94 : Cond.instanceMethod (zy 94) ∈ zgt := zmem (List.mem_append_right _ (List.mem_append_right _ (List.mem_append_left _ (List.mem_of_getElem? (i := 220) rfl)))) rfl
theorem zwl_94 : Cond.selects (zy 94).cls (zy 94) (zy 94) ∈ zgt := zmemS (List.mem_of_getElem? (i := 25) rfl) rfl
theorem zwd_94 : (zy 94).cls ≠ "java/lang/invoke/MethodHandle" ∧ (zy 94).cls ≠ "java/lang/invoke/VarHandle" ∧ (parseMethodDescriptor (zy 94).desc).map (fun d => d.parameters.length) = some 4 := by decide +kernel
theorem zwi_95 : Cond.initialized (zy 95).cls ∈ zgt := zmem (List.mem_append_left _ (List.mem_of_getElem? (i := 6) rfl)) rfl
theorem zwn_95 : Cond.instanceMethod (zy 95) ∈ zgt := zmem (List.mem_append_right _ (List.mem_append_right _ (List.mem_append_left _ (List.mem_of_getElem? (i := 201) rfl)))) rfl
theorem zwl_95 : Cond.selects (zy 95).cls (zy 95) (zy 95) ∈ zgt := zmemS (List.mem_of_getElem? (i := 21) rfl) rfl
theorem zwd_95 : (zy 95).cls ≠ "java/lang/invoke/MethodHandle" ∧ (zy 95).cls ≠ "java/lang/invoke/VarHandle" ∧ (parseMethodDescriptor (zy 95).desc).map (fun d => d.parameters.length) = some 4 := by decide +kernel
theorem zwi_96 : Cond.initialized (zy 96).cls ∈ zgt := zmem (List.mem_append_left _ (List.mem_of_getElem? (i := 6) rfl)) rfl
theorem zwn_96 : Cond.instanceMethod (zy 96) ∈ zgt := zmem (List.mem_append_right _ (List.mem_append_right _ (List.mem_append_left _ (List.mem_of_getElem? (i := 197) rfl)))) rfl
theorem zwl_96 : Cond.selects (zy 96).cls (zy 96) (zy 96) ∈ zgt := zmemS (List.mem_of_getElem? (i := 20) rfl) rfl
theorem zwd_96 : (zy 96).cls ≠ "java/lang/invoke/MethodHandle" ∧ (zy 96).cls ≠ "java/lang/invoke/VarHandle" ∧ (parseMethodDescriptor (zy 96).desc).map (fun d => d.parameters.length) = some 3 := by decide +kernel
theorem zwi_97 : Cond.initialized (zy 97).cls ∈ zgt := zmem (List.mem_append_left _ (List.mem_of_getElem? (i := 6) rfl)) rfl
theorem zwn_97 : Cond.instanceMethod (zy 97) ∈ zgt := zmem (List.mem_append_right _ (List.mem_append_right _ (List.mem_append_left _ (List.mem_of_getElem? (i := 208) rfl)))) rfl
theorem zwl_97 : Cond.selects (zy 97).cls (zy 97) (zy 97) ∈ zgt := zmemS (List.mem_of_getElem? (i := 22) rfl) rfl
theorem zwd_97 : (zy 97).cls ≠ "java/lang/invoke/MethodHandle" ∧ (zy 97).cls ≠ "java/lang/invoke/VarHandle" ∧ (parseMethodDescriptor (zy 97).desc).map (fun d => d.parameters.length) = some 3 := by decide +kernel
theorem zwi_98 : Cond.initialized (zy 98).cls ∈ zgt := zmem (List.mem_append_left _ (List.mem_of_getElem? (i := 6) rfl)) rfl
theorem zwn_98 : Cond.instanceMethod (zy 98) ∈ zgt := zmem (List.mem_append_right _ (List.mem_append_right _ (List.mem_append_left _ (List.mem_of_getElem? (i := 192) rfl)))) rfl
theorem zwl_98 : Cond.selects (zy 98).cls (zy 98) (zy 98) ∈ zgt := zmem (List.mem_append_right _ (List.mem_append_right _ (List.mem_append_left _ (List.mem_of_getElem? (i := 193) rfl)))) rfl
theorem zwd_98 : (zy 98).cls ≠ "java/lang/invoke/MethodHandle" ∧ (zy 98).cls ≠ "java/lang/invoke/VarHandle" ∧ (parseMethodDescriptor (zy 98).desc).map (fun d => d.parameters.length) = some 5 := by decide +kernel
theorem zwi_99 : Cond.initialized (zy 99).cls ∈ zgt := zmem (List.mem_append_left _ (List.mem_of_getElem? (i := 7) rfl)) rfl
theorem zwn_99 : Cond.instanceMethod (zy 99) ∈ zgt := zmem (List.mem_append_right _ (List.mem_append_right _ (List.mem_append_left _ (List.mem_of_getElem? (i := 164) rfl)))) rfl
theorem zwl_99 : Cond.selects (zy 99).cls (zy 99) (zy 99) ∈ zgt := zmem (List.mem_append_right _ (List.mem_append_right _ (List.mem_append_left _ (List.mem_of_getElem? (i := 165) rfl)))) rfl
theorem zwd_99 : (zy 99).cls ≠ "java/lang/invoke/MethodHandle" ∧ (zy 99).cls ≠ "java/lang/invoke/VarHandle" ∧ (parseMethodDescriptor (zy 99).desc).map (fun d => d.parameters.length) = some 2 := by decide +kernel
theorem zwi_100 : Cond.initialized (zy 100).cls ∈ zgt := zmem (List.mem_append_left _ (List.mem_of_getElem? (i := 7) rfl)) rfl
theorem zws_100 : Cond.static (zy 100) ∈ zgt := zmem (List.mem_append_right _ (List.mem_append_right _ (List.mem_append_left _ (List.mem_of_getElem? (i := 173) rfl)))) rfl
theorem zwd_100 : (zy 100).cls ≠ "java/lang/invoke/MethodHandle" ∧ (zy 100).cls ≠ "java/lang/invoke/VarHandle" ∧ (parseMethodDescriptor (zy 100).desc).map (fun d => d.parameters.length) = some 2 := by decide +kernel
theorem zwi_101 : Cond.initialized (zy 101).cls ∈ zgt := zmem (List.mem_append_left _ (List.mem_of_getElem? (i := 7) rfl)) rfl
theorem zwn_101 : Cond.instanceMethod (zy 101) ∈ zgt := zmem (List.mem_append_right _ (List.mem_append_right _ (List.mem_append_left _ (List.mem_of_getElem? (i := 169) rfl)))) rfl
theorem zwl_101 : Cond.selects (zy 101).cls (zy 101) (zy 101) ∈ zgt := zmem (List.mem_append_right _ (List.mem_append_right _ (List.mem_append_left _ (List.mem_of_getElem? (i := 170) rfl)))) rfl
theorem zwd_101 : (zy 101).cls ≠ "java/lang/invoke/MethodHandle" ∧ (zy 101).cls ≠ "java/lang/invoke/VarHandle" ∧ (parseMethodDescriptor (zy 101).desc).map (fun d => d.parameters.length) = some 1 := by decide +kernel
theorem zwi_102 : Cond.initialized (zy 102).cls ∈ zgt := zmem (List.mem_append_left _ (List.mem_of_getElem? (i := 8) rfl)) rfl
theorem zwn_102 : Cond.instanceMethod (zy 102) ∈ zgt := zmem (List.mem_append_right _ (List.mem_append_right _ (List.mem_append_right _ (List.mem_append_left _ (List.mem_of_getElem? (i := 3) rfl))))) rfl
theorem zwl_102 : Cond.selects (zy 102).cls (zy 102) (zy 102) ∈ zgt := zmem (List.mem_append_right _ (List.mem_append_right _ (List.mem_append_right _ (List.mem_append_left _ (List.mem_of_getElem? (i := 4) rfl))))) rfl
theorem zwd_102 : (zy 102).cls ≠ "java/lang/invoke/MethodHandle" ∧ (zy 102).cls ≠ "java/lang/invoke/VarHandle" ∧ (parseMethodDescriptor (zy 102).desc).map (fun d => d.parameters.length) = some 0 := by decide +kernel
theorem zwi_103 : Cond.initialized (zy 103).cls ∈ zgt := zmem (List.mem_append_left _ (List.mem_of_getElem? (i := 8) rfl)) rfl
theorem zwn_103 : Cond.instanceMethod (zy 103) ∈ zgt := zmem (List.mem_append_right _ (List.mem_append_right _ (List.mem_append_left _ (List.mem_of_getElem? (i := 235) rfl)))) rfl
theorem zwl_103 : Cond.selects (zy 103).cls (zy 103) (zy 103) ∈ zgt := zmem (List.mem_append_right _ (List.mem_append_right _ (List.mem_append_left _ (List.mem_of_getElem? (i := 236) rfl)))) rfl
theorem zwd_103 : (zy 103).cls ≠ "java/lang/invoke/MethodHandle" ∧ (zy 103).cls ≠ "java/lang/invoke/VarHandle" ∧ (parseMethodDescriptor (zy 103).desc).map (fun d => d.parameters.length) = some 2 := by decide +kernel
theorem zwi_104 : Cond.initialized (zy 104).cls ∈ zgt := zmem (List.mem_append_left _ (List.mem_of_getElem? (i := 8) rfl)) rfl
theorem zwn_104 : Cond.instanceMethod (zy 104) ∈ zgt := zmem (List.mem_append_right _ (List.mem_append_right _ (List.mem_append_right _ (List.mem_append_left _ (List.mem_of_getElem? (i := 7) rfl))))) rfl
theorem zwl_104 : Cond.selects (zy 104).cls (zy 104) (zy 104) ∈ zgt := zmem (List.mem_append_right _ (List.mem_append_right _ (List.mem_append_right _ (List.mem_append_left _ (List.mem_of_getElem? (i := 8) rfl))))) rfl
theorem zwd_104 : (zy 104).cls ≠ "java/lang/invoke/MethodHandle" ∧ (zy 104).cls ≠ "java/lang/invoke/VarHandle" ∧ (parseMethodDescriptor (zy 104).desc).map (fun d => d.parameters.length) = some 2 := by decide +kernel
theorem zwi_105 : Cond.initialized (zy 105).cls ∈ zgt := zmem (List.mem_append_left _ (List.mem_of_getElem? (i := 8) rfl)) rfl
theorem zwn_105 : Cond.instanceMethod (zy 105) ∈ zgt := zmem (List.mem_append_right _ (List.mem_append_right _ (List.mem_append_right _ (List.mem_append_left _ (List.mem_of_getElem? (i := 15) rfl))))) rfl
theorem zwl_105 : Cond.selects (zy 105).cls (zy 105) (zy 105) ∈ zgt := zmem (List.mem_append_right _ (List.mem_append_right _ (List.mem_append_right _ (List.mem_append_left _ (List.mem_of_getElem? (i := 16) rfl))))) rfl
theorem zwd_105 : (zy 105).cls ≠ "java/lang/invoke/MethodHandle" ∧ (zy 105).cls ≠ "java/lang/invoke/VarHandle" ∧ (parseMethodDescriptor (zy 105).desc).map (fun d => d.parameters.length) = some 2 := by decide +kernel
theorem zwi_106 : Cond.initialized (zy 106).cls ∈ zgt := zmem (List.mem_append_left _ (List.mem_of_getElem? (i := 9) rfl)) rfl
theorem zwn_106 : Cond.instanceMethod (zy 106) ∈ zgt := zmem (List.mem_append_right _ (List.mem_append_right _ (List.mem_append_right _ (List.mem_append_left _ (List.mem_of_getElem? (i := 145) rfl))))) rfl
theorem zwl_106 : Cond.selects (zy 106).cls (zy 106) (zy 106) ∈ zgt := zmemS (List.mem_of_getElem? (i := 26) rfl) rfl
theorem zwd_106 : (zy 106).cls ≠ "java/lang/invoke/MethodHandle" ∧ (zy 106).cls ≠ "java/lang/invoke/VarHandle" ∧ (parseMethodDescriptor (zy 106).desc).map (fun d => d.parameters.length) = some 1 := by decide +kernel
theorem zwi_107 : Cond.initialized (zy 107).cls ∈ zgt := zmem (List.mem_append_left _ (List.mem_of_getElem? (i := 9) rfl)) rfl
theorem zws_107 : Cond.static (zy 107) ∈ zgt := zmem (List.mem_append_right _ (List.mem_append_right _ (List.mem_append_right _ (List.mem_append_left _ (List.mem_of_getElem? (i := 141) rfl))))) rfl
theorem zwd_107 : (zy 107).cls ≠ "java/lang/invoke/MethodHandle" ∧ (zy 107).cls ≠ "java/lang/invoke/VarHandle" ∧ (parseMethodDescriptor (zy 107).desc).map (fun d => d.parameters.length) = some 3 := by decide +kernel
theorem zwi_108 : Cond.initialized (zy 108).cls ∈ zgt := zmem (List.mem_append_left _ (List.mem_of_getElem? (i := 9) rfl)) rfl
theorem zws_108 : Cond.static (zy 108) ∈ zgt := zmem (List.mem_append_right _ (List.mem_append_right _ (List.mem_append_right _ (List.mem_append_left _ (List.mem_of_getElem? (i := 229) rfl))))) rfl
theorem zwd_108 : (zy 108).cls ≠ "java/lang/invoke/MethodHandle" ∧ (zy 108).cls ≠ "java/lang/invoke/VarHandle" ∧ (parseMethodDescriptor (zy 108).desc).map (fun d => d.parameters.length) = some 3 := by decide +kernel
theorem zwi_109 : Cond.initialized (zy 109).cls ∈ zgt := zmem (List.mem_append_left _ (List.mem_of_getElem? (i := 9) rfl)) rfl
theorem zws_109 : Cond.static (zy 109) ∈ zgt := zmem (List.mem_append_right _ (List.mem_append_right _ (List.mem_append_right _ (List.mem_append_right _ (List.mem_append_left _ (List.mem_of_getElem? (i := 130) rfl)))))) rfl
theorem zwd_109 : (zy 109).cls ≠ "java/lang/invoke/MethodHandle" ∧ (zy 109).cls ≠ "java/lang/invoke/VarHandle" ∧ (parseMethodDescriptor (zy 109).desc).map (fun d => d.parameters.length) = some 2 := by decide +kernel
theorem zwi_110 : Cond.initialized (zy 110).cls ∈ zgt := zmem (List.mem_append_left _ (List.mem_of_getElem? (i := 9) rfl)) rfl
theorem zws_110 : Cond.static (zy 110) ∈ zgt := zmem (List.mem_append_right _ (List.mem_append_right _ (List.mem_append_right _ (List.mem_append_left _ (List.mem_of_getElem? (i := 138) rfl))))) rfl
theorem zwd_110 : (zy 110).cls ≠ "java/lang/invoke/MethodHandle" ∧ (zy 110).cls ≠ "java/lang/invoke/VarHandle" ∧ (parseMethodDescriptor (zy 110).desc).map (fun d => d.parameters.length) = some 1 := by decide +kernel
theorem zwi_111 : Cond.initialized (zy 111).cls ∈ zgt := zmem (List.mem_append_left _ (List.mem_of_getElem? (i := 9) rfl)) rfl
theorem zwn_111 : Cond.instanceMethod (zy 111) ∈ zgt := zmem (List.mem_append_right _ (List.mem_append_right _ (List.mem_append_right _ (List.mem_append_left _ (List.mem_of_getElem? (i := 180) rfl))))) rfl
theorem zwl_111 : Cond.selects (zy 111).cls (zy 111) (zy 111) ∈ zgt := zmemS (List.mem_of_getElem? (i := 28) rfl) rfl
theorem zwd_111 : (zy 111).cls ≠ "java/lang/invoke/MethodHandle" ∧ (zy 111).cls ≠ "java/lang/invoke/VarHandle" ∧ (parseMethodDescriptor (zy 111).desc).map (fun d => d.parameters.length) = some 1 := by decide +kernel
theorem zwi_112 : Cond.initialized (zy 112).cls ∈ zgt := zmem (List.mem_append_left _ (List.mem_of_getElem? (i := 9) rfl)) rfl
theorem zwn_112 : Cond.instanceMethod (zy 112) ∈ zgt := zmem (List.mem_append_right _ (List.mem_append_right _ (List.mem_append_right _ (List.mem_append_left _ (List.mem_of_getElem? (i := 192) rfl))))) rfl
theorem zwl_112 : Cond.selects (zy 112).cls (zy 112) (zy 112) ∈ zgt := zmemS (List.mem_of_getElem? (i := 31) rfl) rfl
theorem zwd_112 : (zy 112).cls ≠ "java/lang/invoke/MethodHandle" ∧ (zy 112).cls ≠ "java/lang/invoke/VarHandle" ∧ (parseMethodDescriptor (zy 112).desc).map (fun d => d.parameters.length) = some 2 := by decide +kernel
theorem zwi_113 : Cond.initialized (zy 113).cls ∈ zgt := zmem (List.mem_append_left _ (List.mem_of_getElem? (i := 9) rfl)) rfl
theorem zws_113 : Cond.static (zy 113) ∈ zgt := zmem (List.mem_append_right _ (List.mem_append_right _ (List.mem_append_right _ (List.mem_append_left _ (List.mem_of_getElem? (i := 168) rfl))))) rfl
theorem zwd_113 : (zy 113).cls ≠ "java/lang/invoke/MethodHandle" ∧ (zy 113).cls ≠ "java/lang/invoke/VarHandle" ∧ (parseMethodDescriptor (zy 113).desc).map (fun d => d.parameters.length) = some 1 := by decide +kernel
theorem zwi_114 : Cond.initialized (zy 114).cls ∈ zgt := zmem (List.mem_append_left _ (List.mem_of_getElem? (i := 9) rfl)) rfl
theorem zws_114 : Cond.static (zy 114) ∈ zgt := zmem (List.mem_append_right _ (List.mem_append_right _ (List.mem_append_right _ (List.mem_append_left _ (List.mem_of_getElem? (i := 165) rfl))))) rfl
theorem zwd_114 : (zy 114).cls ≠ "java/lang/invoke/MethodHandle" ∧ (zy 114).cls ≠ "java/lang/invoke/VarHandle" ∧ (parseMethodDescriptor (zy 114).desc).map (fun d => d.parameters.length) = some 2 := by decide +kernel
theorem zwi_115 : Cond.initialized (zy 115).cls ∈ zgt := zmem (List.mem_append_left _ (List.mem_of_getElem? (i := 9) rfl)) rfl
theorem zwn_115 : Cond.instanceMethod (zy 115) ∈ zgt := zmem (List.mem_append_right _ (List.mem_append_right _ (List.mem_append_right _ (List.mem_append_left _ (List.mem_of_getElem? (i := 154) rfl))))) rfl
theorem zwl_115 : Cond.selects (zy 115).cls (zy 115) (zy 115) ∈ zgt := zmemS (List.mem_of_getElem? (i := 27) rfl) rfl
theorem zwd_115 : (zy 115).cls ≠ "java/lang/invoke/MethodHandle" ∧ (zy 115).cls ≠ "java/lang/invoke/VarHandle" ∧ (parseMethodDescriptor (zy 115).desc).map (fun d => d.parameters.length) = some 1 := by decide +kernel
theorem zwi_116 : Cond.initialized (zy 116).cls ∈ zgt := zmem (List.mem_append_left _ (List.mem_of_getElem? (i := 9) rfl)) rfl
theorem zwn_116 : Cond.instanceMethod (zy 116) ∈ zgt := zmem (List.mem_append_right _ (List.mem_append_right _ (List.mem_append_right _ (List.mem_append_left _ (List.mem_of_getElem? (i := 134) rfl))))) rfl
theorem zwl_116 : Cond.selects (zy 116).cls (zy 116) (zy 116) ∈ zgt := zmem (List.mem_append_right _ (List.mem_append_right _ (List.mem_append_right _ (List.mem_append_left _ (List.mem_of_getElem? (i := 135) rfl))))) rfl
theorem zwd_116 : (zy 116).cls ≠ "java/lang/invoke/MethodHandle" ∧ (zy 116).cls ≠ "java/lang/invoke/VarHandle" ∧ (parseMethodDescriptor (zy 116).desc).map (fun d => d.parameters.length) = some 2 := by decide +kernel
theorem zwi_117 : Cond.initialized (zy 117).cls ∈ zgt := zmem (List.mem_append_left _ (List.mem_of_getElem? (i := 9) rfl)) rfl
theorem zwn_117 : Cond.instanceMethod (zy 117) ∈ zgt := zmem (List.mem_append_right _ (List.mem_append_right _ (List.mem_append_right _ (List.mem_append_left _ (List.mem_of_getElem? (i := 149) rfl))))) rfl
theorem zwl_117 : Cond.selects (zy 117).cls (zy 117) (zy 117) ∈ zgt := zmem (List.mem_append_right _ (List.mem_append_right _ (List.mem_append_right _ (List.mem_append_left _ (List.mem_of_getElem? (i := 150) rfl))))) rfl
theorem zwd_117 : (zy 117).cls ≠ "java/lang/invoke/MethodHandle" ∧ (zy 117).cls ≠ "java/lang/invoke/VarHandle" ∧ (parseMethodDescriptor (zy 117).desc).map (fun d => d.parameters.length) = some 1 := by decide +kernel
theorem zwi_118 : Cond.initialized (zy 118).cls ∈ zgt := zmem (List.mem_append_left _ (List.mem_of_getElem? (i := 9) rfl)) rfl
theorem zwn_118 : Cond.instanceMethod (zy 118) ∈ zgt := zmem (List.mem_append_right _ (List.mem_append_right _ (List.mem_append_right _ (List.mem_append_left _ (List.mem_of_getElem? (i := 157) rfl))))) rfl
theorem zwl_118 : Cond.selects (zy 118).cls (zy 118) (zy 118) ∈ zgt := zmem (List.mem_append_right _ (List.mem_append_right _ (List.mem_append_right _ (List.mem_append_left _ (List.mem_of_getElem? (i := 158) rfl))))) rfl
theorem zwd_118 : (zy 118).cls ≠ "java/lang/invoke/MethodHandle" ∧ (zy 118).cls ≠ "java/lang/invoke/VarHandle" ∧ (parseMethodDescriptor (zy 118).desc).map (fun d => d.parameters.length) = some 2 := by decide +kernel
theorem zwi_119 : Cond.initialized (zy 119).cls ∈ zgt := zmem (List.mem_append_left _ (List.mem_of_getElem? (i := 9) rfl)) rfl
theorem zwn_119 : Cond.instanceMethod (zy 119) ∈ zgt := zmem (List.mem_append_right _ (List.mem_append_right _ (List.mem_append_right _ (List.mem_append_left _ (List.mem_of_getElem? (i := 161) rfl))))) rfl
theorem zwl_119 : Cond.selects (zy 119).cls (zy 119) (zy 119) ∈ zgt := zmem (List.mem_append_right _ (List.mem_append_right _ (List.mem_append_right _ (List.mem_append_left _ (List.mem_of_getElem? (i := 162) rfl))))) rfl
theorem zwd_119 : (zy 119).cls ≠ "java/lang/invoke/MethodHandle" ∧ (zy 119).cls ≠ "java/lang/invoke/VarHandle" ∧ (parseMethodDescriptor (zy 119).desc).map (fun d => d.parameters.length) = some 2 := by decide +kernel
theorem zwi_120 : Cond.initialized (zy 120).cls ∈ zgt := zmem (List.mem_append_left _ (List.mem_of_getElem? (i := 9) rfl)) rfl
theorem zwn_120 : Cond.instanceMethod (zy 120) ∈ zgt := zmem (List.mem_append_right _ (List.mem_append_right _ (List.mem_append_right _ (List.mem_append_left _ (List.mem_of_getElem? (i := 171) rfl))))) rfl
theorem zwl_120 : Cond.selects (zy 120).cls (zy 120) (zy 120) ∈ zgt := zmem (List.mem_append_right _ (List.mem_append_right _ (List.mem_append_right _ (List.mem_append_left _ (List.mem_of_getElem? (i := 172) rfl))))) rfl
theorem zwd_120 : (zy 120).cls ≠ "java/lang/invoke/MethodHandle" ∧ (zy 120).cls ≠ "java/lang/invoke/VarHandle" ∧ (parseMethodDescriptor (zy 120).desc).map (fun d => d.parameters.length) = some 3 := by decide +kernel
theorem zwi_121 : Cond.initialized (zy 121).cls ∈ zgt := zmem (List.mem_append_left _ (List.mem_of_getElem? (i := 9) rfl)) rfl
theorem zwn_121 : Cond.instanceMethod (zy 121) ∈ zgt := zmem (List.mem_append_right _ (List.mem_append_right _ (List.mem_append_right _ (List.mem_append_left _ (List.mem_of_getElem? (i := 204) rfl))))) rfl
theorem zwl_121 : Cond.selects (zy 121).cls (zy 121) (zy 121) ∈ zgt := zmemS (List.mem_of_getElem? (i := 34) rfl) rfl
theorem zwd_121 : (zy 121).cls ≠ "java/lang/invoke/MethodHandle" ∧ (zy 121).cls ≠ "java/lang/invoke/VarHandle" ∧ (parseMethodDescriptor (zy 121).desc).map (fun d => d.parameters.length) = some 1 := by decide +kernel
theorem zwi_122 : Cond.initialized (zy 122).cls ∈ zgt := zmem (List.mem_append_left _ (List.mem_of_getElem? (i := 9) rfl)) rfl
theorem zws_122 : Cond.static (zy 122) ∈ zgt := zmem (List.mem_append_right _ (List.mem_append_right _ (List.mem_append_right _ (List.mem_append_left _ (List.mem_of_getElem? (i := 211) rfl))))) rfl
theorem zwd_122 : (zy 122).cls ≠ "java/lang/invoke/MethodHandle" ∧ (zy 122).cls ≠ "java/lang/invoke/VarHandle" ∧ (parseMethodDescriptor (zy 122).desc).map (fun d => d.parameters.length) = some 3 := by decide +kernel
theorem zwi_123 : Cond.initialized (zy 123).cls ∈ zgt := zmem (List.mem_append_left _ (List.mem_of_getElem? (i := 9) rfl)) rfl
theorem zwn_123 : Cond.instanceMethod (zy 123) ∈ zgt := zmem (List.mem_append_right _ (List.mem_append_right _ (List.mem_append_right _ (List.mem_append_left _ (List.mem_of_getElem? (i := 208) rfl))))) rfl
theorem zwl_123 : Cond.selects (zy 123).cls (zy 123) (zy 123) ∈ zgt := zmemS (List.mem_of_getElem? (i := 35) rfl) rfl
theorem zwd_123 : (zy 123).cls ≠ "java/lang/invoke/MethodHandle" ∧ (zy 123).cls ≠ "java/lang/invoke/VarHandle" ∧ (parseMethodDescriptor (zy 123).desc).map (fun d => d.parameters.length) = some 1 := by decide +kernel
theorem zwi_124 : Cond.initialized (zy 124).cls ∈ zgt := zmem (List.mem_append_left _ (List.mem_of_getElem? (i := 9) rfl)) rfl
theorem zwn_124 : Cond.instanceMethod (zy 124) ∈ zgt := zmem (List.mem_append_right _ (List.mem_append_right _ (List.mem_append_right _ (List.mem_append_left _ (List.mem_of_getElem? (i := 200) rfl))))) rfl
theorem zwl_124 : Cond.selects (zy 124).cls (zy 124) (zy 124) ∈ zgt := zmemS (List.mem_of_getElem? (i := 33) rfl) rfl
theorem zwd_124 : (zy 124).cls ≠ "java/lang/invoke/MethodHandle" ∧ (zy 124).cls ≠ "java/lang/invoke/VarHandle" ∧ (parseMethodDescriptor (zy 124).desc).map (fun d => d.parameters.length) = some 1 := by decide +kernel
theorem zwi_125 : Cond.initialized (zy 125).cls ∈ zgt := zmem (List.mem_append_left _ (List.mem_of_getElem? (i := 9) rfl)) rfl
theorem zws_125 : Cond.static (zy 125) ∈ zgt := zmem (List.mem_append_right _ (List.mem_append_right _ (List.mem_append_right _ (List.mem_append_left _ (List.mem_of_getElem? (i := 218) rfl))))) rfl
theorem zwd_125 : (zy 125).cls ≠ "java/lang/invoke/MethodHandle" ∧ (zy 125).cls ≠ "java/lang/invoke/VarHandle" ∧ (parseMethodDescriptor (zy 125).desc).map (fun d => d.parameters.length) = some 3 := by decide +kernel
theorem zwi_126 : Cond.initialized (zy 126).cls ∈ zgt := zmem (List.mem_append_left _ (List.mem_of_getElem? (i := 9) rfl)) rfl
theorem zwn_126 : Cond.instanceMethod (zy 126) ∈ zgt := zmem (List.mem_append_right _ (List.mem_append_right _ (List.mem_append_right _ (List.mem_append_left _ (List.mem_of_getElem? (i := 222) rfl))))) rfl
theorem zwl_126 : Cond.selects (zy 126).cls (zy 126) (zy 126) ∈ zgt := zmemS (List.mem_of_getElem? (i := 37) rfl) rfl
theorem zwd_126 : (zy 126).cls ≠ "java/lang/invoke/MethodHandle" ∧ (zy 126).cls ≠ "java/lang/invoke/VarHandle" ∧ (parseMethodDescriptor (zy 126).desc).map (fun d => d.parameters.length) = some 3 := by decide +kernel
theorem zwi_127 : Cond.initialized (zy 127).cls ∈ zgt := zmem (List.mem_append_left _ (List.mem_of_getElem? (i := 9) rfl)) rfl
theorem zwn_127 : Cond.instanceMethod (zy 127) ∈ zgt := zmem (List.mem_append_right _ (List.mem_append_right _ (List.mem_append_right _ (List.mem_append_left _ (List.mem_of_getElem? (i := 215) rfl))))) rfl
theorem zwl_127 : Cond.selects (zy 127).cls (zy 127) (zy 127) ∈ zgt := zmemS (List.mem_of_getElem? (i := 36) rfl) rfl
theorem zwd_127 : (zy 127).cls ≠ "java/lang/invoke/MethodHandle" ∧ (zy 127).cls ≠ "java/lang/invoke/VarHandle" ∧ (parseMethodDescriptor (zy 127).desc).map (fun d => d.parameters.length) = some 3 := by decide +kernel
theorem zwi_128 : Cond.initialized (zy 128).cls ∈ zgt := zmem (List.mem_append_left _ (List.mem_of_getElem? (i := 9) rfl)) rfl
theorem zwn_128 : Cond.instanceMethod (zy 128) ∈ zgt := zmem (List.mem_append_right _ (List.mem_append_right _ (List.mem_append_right _ (List.mem_append_left _ (List.mem_of_getElem? (i := 226) rfl))))) rfl
theorem zwl_128 : Cond.selects (zy 128).cls (zy 128) (zy 128) ∈ zgt := zmemS (List.mem_of_getElem? (i := 38) rfl) rfl
theorem zwd_128 : (zy 128).cls ≠ "java/lang/invoke/MethodHandle" ∧ (zy 128).cls ≠ "java/lang/invoke/VarHandle" ∧ (parseMethodDescriptor (zy 128).desc).map (fun d => d.parameters.length) = some 2 := by decide +kernel
theorem zwi_129 : Cond.initialized (zy 129).cls ∈ zgt := zmem (List.mem_append_left _ (List.mem_of_getElem? (i := 9) rfl)) rfl
theorem zwn_129 : Cond.instanceMethod (zy 129) ∈ zgt := zmem (List.mem_append_right _ (List.mem_append_right _ (List.mem_append_right _ (List.mem_append_left _ (List.mem_of_getElem? (i := 233) rfl))))) rfl
theorem zwl_129 : Cond.selects (zy 129).cls (zy 129) (zy 129) ∈ zgt := zmemS (List.mem_of_getElem? (i := 39) rfl) rfl
theorem zwd_129 : (zy 129).cls ≠ "java/lang/invoke/MethodHandle" ∧ (zy 129).cls ≠ "java/lang/invoke/VarHandle" ∧ (parseMethodDescriptor (zy 129).desc).map (fun d => d.parameters.length) = some 2 := by decide +kernel
theorem zwi_130 : Cond.initialized (zy 130).cls ∈ zgt := zmem (List.mem_append_left _ (List.mem_of_getElem? (i := 9) rfl)) rfl
theorem zwn_130 : Cond.instanceMethod (zy 130) ∈ zgt := zmem (List.mem_append_right _ (List.mem_append_right _ (List.mem_append_right _ (List.mem_append_left _ (List.mem_of_getElem? (i := 196) rfl))))) rfl
theorem zwl_130 : Cond.selects (zy 130).cls (zy 130) (zy 130) ∈ zgt := zmemS (List.mem_of_getElem? (i := 32) rfl) rfl
theorem zwd_130 : (zy 130).cls ≠ "java/lang/invoke/MethodHandle" ∧ (zy 130).cls ≠ "java/lang/invoke/VarHandle" ∧ (parseMethodDescriptor (zy 130).desc).map (fun d => d.parameters.length) = some 1 := by decide +kernel
theorem zwi_131 : Cond.initialized (zy 131).cls ∈ zgt := zmem (List.mem_append_left _ (List.mem_of_getElem? (i := 9) rfl)) rfl
theorem zwn_131 : Cond.instanceMethod (zy 131) ∈ zgt := zmem (List.mem_append_right _ (List.mem_append_right _ (List.mem_append_right _ (List.mem_append_left _ (List.mem_of_getElem? (i := 188) rfl))))) rfl
theorem zwl_131 : Cond.selects (zy 131).cls (zy 131) (zy 131) ∈ zgt := zmemS (List.mem_of_getElem? (i := 30) rfl) rfl
theorem zwd_131 : (zy 131).cls ≠ "java/lang/invoke/MethodHandle" ∧ (zy 131).cls ≠ "java/lang/invoke/VarHandle" ∧ (parseMethodDescriptor (zy 131).desc).map (fun d => d.parameters.length) = some 1 := by decide +kernel
theorem zwi_132 : Cond.initialized (zy 132).cls ∈ zgt := zmem (List.mem_append_left _ (List.mem_of_getElem? (i := 9) rfl)) rfl
theorem zwn_132 : Cond.instanceMethod (zy 132) ∈ zgt := zmem (List.mem_append_right _ (List.mem_append_right _ (List.mem_append_right _ (List.mem_append_left _ (List.mem_of_getElem? (i := 184) rfl))))) rfl
theorem zwl_132 : Cond.selects (zy 132).cls (zy 132) (zy 132) ∈ zgt := zmemS (List.mem_of_getElem? (i := 29) rfl) rfl
theorem zwd_132 : (zy 132).cls ≠ "java/lang/invoke/MethodHandle" ∧ (zy 132).cls ≠ "java/lang/invoke/VarHandle" ∧ (parseMethodDescriptor (zy 132).desc).map (fun d => d.parameters.length) = some 2 := by decide +kernel
theorem zwi_133 : Cond.initialized (zy 133).cls ∈ zgt := zmem (List.mem_append_left _ (List.mem_of_getElem? (i := 9) rfl)) rfl
theorem zwn_133 : Cond.instanceMethod (zy 133) ∈ zgt := zmem (List.mem_append_right _ (List.mem_append_right _ (List.mem_append_right _ (List.mem_append_left _ (List.mem_of_getElem? (i := 175) rfl))))) rfl
theorem zwl_133 : Cond.selects (zy 133).cls (zy 133) (zy 133) ∈ zgt := zmem (List.mem_append_right _ (List.mem_append_right _ (List.mem_append_right _ (List.mem_append_left _ (List.mem_of_getElem? (i := 176) rfl))))) rfl
theorem zwd_133 : (zy 133).cls ≠ "java/lang/invoke/MethodHandle" ∧ (zy 133).cls ≠ "java/lang/invoke/VarHandle" ∧ (parseMethodDescriptor (zy 133).desc).map (fun d => d.parameters.length) = some 2 := by decide +kernel
theorem zwi_134 : Cond.initialized (zy 134).cls ∈ zgt := zmem (List.mem_append_left _ (List.mem_of_getElem? (i := 9) rfl)) rfl
theorem zws_134 : Cond.static (zy 134) ∈ zgt := zmem (List.mem_append_right _ (List.mem_append_right _ (List.mem_append_right _ (List.mem_append_right _ (List.mem_append_left _ (List.mem_of_getElem? (i := 0) rfl)))))) rfl
theorem zwd_134 : (zy 134).cls ≠ "java/lang/invoke/MethodHandle" ∧ (zy 134).cls ≠ "java/lang/invoke/VarHandle" ∧ (parseMethodDescriptor (zy 134).desc).map (fun d => d.parameters.length) = some 2 := by decide +kernel
theorem zwi_135 : Cond.initialized (zy 135).cls ∈ zgt := zmem (List.mem_append_left _ (List.mem_of_getElem? (i := 9) rfl)) rfl
theorem zwn_135 : Cond.instanceMethod (zy 135) ∈ zgt := zmem (List.mem_append_right _ (List.mem_append_right _ (List.mem_append_right _ (List.mem_append_left _ (List.mem_of_getElem? (i := 236) rfl))))) rfl
theorem zwl_135 : Cond.selects (zy 135).cls (zy 135) (zy 135) ∈ zgt := zmem (List.mem_append_right _ (List.mem_append_right _ (List.mem_append_right _ (List.mem_append_left _ (List.mem_of_getElem? (i := 237) rfl))))) rfl
theorem zwd_135 : (zy 135).cls ≠ "java/lang/invoke/MethodHandle" ∧ (zy 135).cls ≠ "java/lang/invoke/VarHandle" ∧ (parseMethodDescriptor (zy 135).desc).map (fun d => d.parameters.length) = some 2 := by decide +kernel
theorem zwi_136 : Cond.initialized (zy 136).cls ∈ zgt := zmem (List.mem_append_left _ (List.mem_of_getElem? (i := 9) rfl)) rfl
theorem zwn_136 : Cond.instanceMethod (zy 136) ∈ zgt := zmem (List.mem_append_right _ (List.mem_append_right _ (List.mem_append_right _ (List.mem_append_right _ (List.mem_append_left _ (List.mem_of_getElem? (i := 3) rfl)))))) rfl
theorem zwl_136 : Cond.selects (zy 136).cls (zy 136) (zy 136) ∈ zgt := zmem (List.mem_append_right _ (List.mem_append_right _ (List.mem_append_right _ (List.mem_append_right _ (List.mem_append_left _ (List.mem_of_getElem? (i := 4) rfl)))))) rfl
theorem zwd_136 : (zy 136).cls ≠ "java/lang/invoke/MethodHandle" ∧ (zy 136).cls ≠ "java/lang/invoke/VarHandle" ∧ (parseMethodDescriptor (zy 136).desc).map (fun d => d.parameters.length) = some 3 := by decide +kernel
theorem zwi_137 : Cond.initialized (zy 137).cls ∈ zgt := zmem (List.mem_append_left _ (List.mem_of_getElem? (i := 9) rfl)) rfl
theorem zwn_137 : Cond.instanceMethod (zy 137) ∈ zgt := zmem (List.mem_append_right _ (List.mem_append_right _ (List.mem_append_right _ (List.mem_append_right _ (List.mem_append_left _ (List.mem_of_getElem? (i := 7) rfl)))))) rfl
theorem zwl_137 : Cond.selects (zy 137).cls (zy 137) (zy 137) ∈ zgt := zmem (List.mem_append_right _ (List.mem_append_right _ (List.mem_append_right _ (List.mem_append_right _ (List.mem_append_left _ (List.mem_of_getElem? (i := 8) rfl)))))) rfl
theorem zwd_137 : (zy 137).cls ≠ "java/lang/invoke/MethodHandle" ∧ (zy 137).cls ≠ "java/lang/invoke/VarHandle" ∧ (parseMethodDescriptor (zy 137).desc).map (fun d => d.parameters.length) = some 2 := by decide +kernel
theorem zwi_138 : Cond.initialized (zy 138).cls ∈ zgt := zmem (List.mem_append_left _ (List.mem_of_getElem? (i := 9) rfl)) rfl
theorem zwn_138 : Cond.instanceMethod (zy 138) ∈ zgt := zmem (List.mem_append_right _ (List.mem_append_right _ (List.mem_append_right _ (List.mem_append_right _ (List.mem_append_left _ (List.mem_of_getElem? (i := 11) rfl)))))) rfl
theorem zwl_138 : Cond.selects (zy 138).cls (zy 138) (zy 138) ∈ zgt := zmem (List.mem_append_right _ (List.mem_append_right _ (List.mem_append_right _ (List.mem_append_right _ (List.mem_append_left _ (List.mem_of_getElem? (i := 12) rfl)))))) rfl
theorem zwd_138 : (zy 138).cls ≠ "java/lang/invoke/MethodHandle" ∧ (zy 138).cls ≠ "java/lang/invoke/VarHandle" ∧ (parseMethodDescriptor (zy 138).desc).map (fun d => d.parameters.length) = some 2 := by decide +kernel
theorem zwi_139 : Cond.initialized (zy 139).cls ∈ zgt := zmem (List.mem_append_left _ (List.mem_of_getElem? (i := 9) rfl)) rfl
theorem zwn_139 : Cond.instanceMethod (zy 139) ∈ zgt := zmem (List.mem_append_right _ (List.mem_append_right _ (List.mem_append_right _ (List.mem_append_right _ (List.mem_append_left _ (List.mem_of_getElem? (i := 45) rfl)))))) rfl
theorem zwl_139 : Cond.selects (zy 139).cls (zy 139) (zy 139) ∈ zgt := zmemS (List.mem_of_getElem? (i := 46) rfl) rfl
theorem zwd_139 : (zy 139).cls ≠ "java/lang/invoke/MethodHandle" ∧ (zy 139).cls ≠ "java/lang/invoke/VarHandle" ∧ (parseMethodDescriptor (zy 139).desc).map (fun d => d.parameters.length) = some 0 := by decide +kernel
theorem zwi_140 : Cond.initialized (zy 140).cls ∈ zgt := zmem (List.mem_append_left _ (List.mem_of_getElem? (i := 9) rfl)) rfl
theorem zwn_140 : Cond.instanceMethod (zy 140) ∈ zgt := zmem (List.mem_append_right _ (List.mem_append_right _ (List.mem_append_right _ (List.mem_append_right _ (List.mem_append_left _ (List.mem_of_getElem? (i := 49) rfl)))))) rfl
theorem zwl_140 : Cond.selects (zy 140).cls (zy 140) (zy 140) ∈ zgt := zmemS (List.mem_of_getElem? (i := 47) rfl) rfl
theorem zwd_140 : (zy 140).cls ≠ "java/lang/invoke/MethodHandle" ∧ (zy 140).cls ≠ "java/lang/invoke/VarHandle" ∧ (parseMethodDescriptor (zy 140).desc).map (fun d => d.parameters.length) = some 1 := by decide +kernel
theorem zwi_141 : Cond.initialized (zy 141).cls ∈ zgt := zmem (List.mem_append_left _ (List.mem_of_getElem? (i := 9) rfl)) rfl
theorem zwn_141 : Cond.instanceMethod (zy 141) ∈ zgt := zmem (List.mem_append_right _ (List.mem_append_right _ (List.mem_append_right _ (List.mem_append_right _ (List.mem_append_left _ (List.mem_of_getElem? (i := 53) rfl)))))) rfl
theorem zwl_141 : Cond.selects (zy 141).cls (zy 141) (zy 141) ∈ zgt := zmemS (List.mem_of_getElem? (i := 48) rfl) rfl
theorem zwd_141 : (zy 141).cls ≠ "java/lang/invoke/MethodHandle" ∧ (zy 141).cls ≠ "java/lang/invoke/VarHandle" ∧ (parseMethodDescriptor (zy 141).desc).map (fun d => d.parameters.length) = some 2 := by decide +kernel
theorem zwi_142 : Cond.initialized (zy 142).cls ∈ zgt := zmem (List.mem_append_left _ (List.mem_of_getElem? (i := 9) rfl)) rfl
theorem zwn_142 : Cond.instanceMethod (zy 142) ∈ zgt := zmem (List.mem_append_right _ (List.mem_append_right _ (List.mem_append_right _ (List.mem_append_right _ (List.mem_append_left _ (List.mem_of_getElem? (i := 57) rfl)))))) rfl
theorem zwl_142 : Cond.selects (zy 142).cls (zy 142) (zy 142) ∈ zgt := zmemS (List.mem_of_getElem? (i := 49) rfl) rfl
theorem zwd_142 : (zy 142).cls ≠ "java/lang/invoke/MethodHandle" ∧ (zy 142).cls ≠ "java/lang/invoke/VarHandle" ∧ (parseMethodDescriptor (zy 142).desc).map (fun d => d.parameters.length) = some 0 := by decide +kernel
theorem zwi_143 : Cond.initialized (zy 143).cls ∈ zgt := zmem (List.mem_append_left _ (List.mem_of_getElem? (i := 9) rfl)) rfl
theorem zwn_143 : Cond.instanceMethod (zy 143) ∈ zgt := zmem (List.mem_append_right _ (List.mem_append_right _ (List.mem_append_right _ (List.mem_append_right _ (List.mem_append_left _ (List.mem_of_getElem? (i := 25) rfl)))))) rfl
theorem zwl_143 : Cond.selects (zy 143).cls (zy 143) (zy 143) ∈ zgt := zmemS (List.mem_of_getElem? (i := 41) rfl) rfl
theorem zwd_143 : (zy 143).cls ≠ "java/lang/invoke/MethodHandle" ∧ (zy 143).cls ≠ "java/lang/invoke/VarHandle" ∧ (parseMethodDescriptor (zy 143).desc).map (fun d => d.parameters.length) = some 0 := by decide +kernel
theorem zwi_144 : Cond.initialized (zy 144).cls ∈ zgt := zmem (List.mem_append_left _ (List.mem_of_getElem? (i := 9) rfl)) rfl
theorem zwn_144 : Cond.instanceMethod (zy 144) ∈ zgt := zmem (List.mem_append_right _ (List.mem_append_right _ (List.mem_append_right _ (List.mem_append_right _ (List.mem_append_left _ (List.mem_of_getElem? (i := 29) rfl)))))) rfl
theorem zwl_144 : Cond.selects (zy 144).cls (zy 144) (zy 144) ∈ zgt := zmemS (List.mem_of_getElem? (i := 42) rfl) rfl
theorem zwd_144 : (zy 144).cls ≠ "java/lang/invoke/MethodHandle" ∧ (zy 144).cls ≠ "java/lang/invoke/VarHandle" ∧ (parseMethodDescriptor (zy 144).desc).map (fun d => d.parameters.length) = some 0 := by decide +kernel
theorem zwi_145 : Cond.initialized (zy 145).cls ∈ zgt := zmem (List.mem_append_left _ (List.mem_of_getElem? (i := 9) rfl)) rfl
theorem zwn_145 : Cond.instanceMethod (zy 145) ∈ zgt := zmem (List.mem_append_right _ (List.mem_append_right _ (List.mem_append_right _ (List.mem_append_right _ (List.mem_append_left _ (List.mem_of_getElem? (i := 41) rfl)))))) rfl
theorem zwl_145 : Cond.selects (zy 145).cls (zy 145) (zy 145) ∈ zgt := zmemS (List.mem_of_getElem? (i := 45) rfl) rfl
theorem zwd_145 : (zy 145).cls ≠ "java/lang/invoke/MethodHandle" ∧ (zy 145).cls ≠ "java/lang/invoke/VarHandle" ∧ (parseMethodDescriptor (zy 145).desc).map (fun d => d.parameters.length) = some 0 := by decide +kernel
theorem zwi_146 : Cond.initialized (zy 146).cls ∈ zgt := zmem (List.mem_append_left _ (List.mem_of_getElem? (i := 9) rfl)) rfl
theorem zwn_146 : Cond.instanceMethod (zy 146) ∈ zgt := zmem (List.mem_append_right _ (List.mem_append_right _ (List.mem_append_right _ (List.mem_append_right _ (List.mem_append_left _ (List.mem_of_getElem? (i := 37) rfl)))))) rfl
theorem zwl_146 : Cond.selects (zy 146).cls (zy 146) (zy 146) ∈ zgt := zmemS (List.mem_of_getElem? (i := 44) rfl) rfl
theorem zwd_146 : (zy 146).cls ≠ "java/lang/invoke/MethodHandle" ∧ (zy 146).cls ≠ "java/lang/invoke/VarHandle" ∧ (parseMethodDescriptor (zy 146).desc).map (fun d => d.parameters.length) = some 0 := by decide +kernel
theorem zwi_147 : Cond.initialized (zy 147).cls ∈ zgt := zmem (List.mem_append_left _ (List.mem_of_getElem? (i := 9) rfl)) rfl
theorem zwn_147 : Cond.instanceMethod (zy 147) ∈ zgt := zmem (List.mem_append_right _ (List.mem_append_right _ (List.mem_append_right _ (List.mem_append_right _ (List.mem_append_left _ (List.mem_of_getElem? (i := 33) rfl)))))) rfl
theorem zwl_147 : Cond.selects (zy 147).cls (zy 147) (zy 147) ∈ zgt := zmemS (List.mem_of_getElem? (i := 43) rfl) rfl
theorem zwd_147 : (zy 147).cls ≠ "java/lang/invoke/MethodHandle" ∧ (zy 147).cls ≠ "java/lang/invoke/VarHandle" ∧ (parseMethodDescriptor (zy 147).desc).map (fun d => d.parameters.length) = some 0 := by decide +kernel
theorem zwi_148 : Cond.initialized (zy 148).cls ∈ zgt := zmem (List.mem_append_left _ (List.mem_of_getElem? (i := 9) rfl)) rfl
theorem zwn_148 : Cond.instanceMethod (zy 148) ∈ zgt := zmem (List.mem_append_right _ (List.mem_append_right _ (List.mem_append_right _ (List.mem_append_right _ (List.mem_append_left _ (List.mem_of_getElem? (i := 21) rfl)))))) rfl
theorem zwl_148 : Cond.selects (zy 148).cls (zy 148) (zy 148) ∈ zgt := zmemS (List.mem_of_getElem? (i := 40) rfl) rfl
theorem zwd_148 : (zy 148).cls ≠ "java/lang/invoke/MethodHandle" ∧ (zy 148).cls ≠ "java/lang/invoke/VarHandle" ∧ (parseMethodDescriptor (zy 148).desc).map (fun d => d.parameters.length) = some 0 := by decide +kernel
theorem zwi_149 : Cond.initialized (zy 149).cls ∈ zgt := zmem (List.mem_append_left _ (List.mem_of_getElem? (i := 9) rfl)) rfl
theorem zwn_149 : Cond.instanceMethod (zy 149) ∈ zgt := zmem (List.mem_append_right _ (List.mem_append_right _ (List.mem_append_right _ (List.mem_append_right _ (List.mem_append_left _ (List.mem_of_getElem? (i := 16) rfl)))))) rfl
theorem zwl_149 : Cond.selects (zy 149).cls (zy 149) (zy 149) ∈ zgt := zmem (List.mem_append_right _ (List.mem_append_right _ (List.mem_append_right _ (List.mem_append_right _ (List.mem_append_left _ (List.mem_of_getElem? (i := 17) rfl)))))) rfl
theorem zwd_149 : (zy 149).cls ≠ "java/lang/invoke/MethodHandle" ∧ (zy 149).cls ≠ "java/lang/invoke/VarHandle" ∧ (parseMethodDescriptor (zy 149).desc).map (fun d => d.parameters.length) = some 1 := by decide +kernel
theorem zwi_150 : Cond.initialized (zy 150).cls ∈ zgt := zmem (List.mem_append_left _ (List.mem_of_getElem? (i := 9) rfl)) rfl
theorem zwn_150 : Cond.instanceMethod (zy 150) ∈ zgt := zmem (List.mem_append_right _ (List.mem_append_right _ (List.mem_append_right _ (List.mem_append_right _ (List.mem_append_left _ (List.mem_of_getElem? (i := 60) rfl)))))) rfl
theorem zwl_150 : Cond.selects (zy 150).cls (zy 150) (zy 150) ∈ zgt := zmem (List.mem_append_right _ (List.mem_append_right _ (List.mem_append_right _ (List.mem_append_right _ (List.mem_append_left _ (List.mem_of_getElem? (i := 61) rfl)))))) rfl
theorem zwd_150 : (zy 150).cls ≠ "java/lang/invoke/MethodHandle" ∧ (zy 150).cls ≠ "java/lang/invoke/VarHandle" ∧ (parseMethodDescriptor (zy 150).desc).map (fun d => d.parameters.length) = some 1 := by decide +kernel
theorem zwi_151 : Cond.initialized (zy 151).cls ∈ zgt := zmem (List.mem_append_left _ (List.mem_of_getElem? (i := 9) rfl)) rfl
theorem zwn_151 : Cond.instanceMethod (zy 151) ∈ zgt := zmem (List.mem_append_right _ (List.mem_append_right _ (List.mem_append_right _ (List.mem_append_right _ (List.mem_append_left _ (List.mem_of_getElem? (i := 77) rfl)))))) rfl
theorem zwl_151 : Cond.selects (zy 151).cls (zy 151) (zy 151) ∈ zgt := zmemS (List.mem_of_getElem? (i := 52) rfl) rfl
theorem zwd_151 : (zy 151).cls ≠ "java/lang/invoke/MethodHandle" ∧ (zy 151).cls ≠ "java/lang/invoke/VarHandle" ∧ (parseMethodDescriptor (zy 151).desc).map (fun d => d.parameters.length) = some 0 := by decide +kernel
theorem zwi_152 : Cond.initialized (zy 152).cls ∈ zgt := zmem (List.mem_append_left _ (List.mem_of_getElem? (i := 9) rfl)) rfl
theorem zwn_152 : Cond.instanceMethod (zy 152) ∈ zgt := zmem (List.mem_append_right _ (List.mem_append_right _ (List.mem_append_right _ (List.mem_append_right _ (List.mem_append_left _ (List.mem_of_getElem? (i := 85) rfl)))))) rfl
theorem zwl_152 : Cond.selects (zy 152).cls (zy 152) (zy 152) ∈ zgt := zmemS (List.mem_of_getElem? (i := 54) rfl) rfl
theorem zwd_152 : (zy 152).cls ≠ "java/lang/invoke/MethodHandle" ∧ (zy 152).cls ≠ "java/lang/invoke/VarHandle" ∧ (parseMethodDescriptor (zy 152).desc).map (fun d => d.parameters.length) = some 0 := by decide +kernel
theorem zwi_153 : Cond.initialized (zy 153).cls ∈ zgt := zmem (List.mem_append_left _ (List.mem_of_getElem? (i := 9) rfl)) rfl
theorem zwn_153 : Cond.instanceMethod (zy 153) ∈ zgt := zmem (List.mem_append_right _ (List.mem_append_right _ (List.mem_append_right _ (List.mem_append_right _ (List.mem_append_left _ (List.mem_of_getElem? (i := 81) rfl)))))) rfl
theorem zwl_153 : Cond.selects (zy 153).cls (zy 153) (zy 153) ∈ zgt := zmemS (List.mem_of_getElem? (i := 53) rfl) rfl
theorem zwd_153 : (zy 153).cls ≠ "java/lang/invoke/MethodHandle" ∧ (zy 153).cls ≠ "java/lang/invoke/VarHandle" ∧ (parseMethodDescriptor (zy 153).desc).map (fun d => d.parameters.length) = some 0 := by decide +kernel
theorem zwi_154 : Cond.initialized (zy 154).cls ∈ zgt := zmem (List.mem_append_left _ (List.mem_of_getElem? (i := 9) rfl)) rfl
theorem zwn_154 : Cond.instanceMethod (zy 154) ∈ zgt := zmem (List.mem_append_right _ (List.mem_append_right _ (List.mem_append_right _ (List.mem_append_right _ (List.mem_append_left _ (List.mem_of_getElem? (i := 89) rfl)))))) rfl
theorem zwl_154 : Cond.selects (zy 154).cls (zy 154) (zy 154) ∈ zgt := zmemS (List.mem_of_getElem? (i := 55) rfl) rfl
theorem zwd_154 : (zy 154).cls ≠ "java/lang/invoke/MethodHandle" ∧ (zy 154).cls ≠ "java/lang/invoke/VarHandle" ∧ (parseMethodDescriptor (zy 154).desc).map (fun d => d.parameters.length) = some 0 := by decide +kernel
theorem zwi_155 : Cond.initialized (zy 155).cls ∈ zgt := zmem (List.mem_append_left _ (List.mem_of_getElem? (i := 9) rfl)) rfl
theorem zwn_155 : Cond.instanceMethod (zy 155) ∈ zgt := zmem (List.mem_append_right _ (List.mem_append_right _ (List.mem_append_right _ (List.mem_append_right _ (List.mem_append_left _ (List.mem_of_getElem? (i := 93) rfl)))))) rfl
theorem zwl_155 : Cond.selects (zy 155).cls (zy 155) (zy 155) ∈ zgt := zmemS (List.mem_of_getElem? (i := 56) rfl) rfl
theorem zwd_155 : (zy 155).cls ≠ "java/lang/invoke/MethodHandle" ∧ (zy 155).cls ≠ "java/lang/invoke/VarHandle" ∧ (parseMethodDescriptor (zy 155).desc).map (fun d => d.parameters.length) = some 2 := by decide +kernel
theorem zwi_156 : Cond.initialized (zy 156).cls ∈ zgt := zmem (List.mem_append_left _ (List.mem_of_getElem? (i := 9) rfl)) rfl
theorem zwn_156 : Cond.instanceMethod (zy 156) ∈ zgt := zmem (List.mem_append_right _ (List.mem_append_right _ (List.mem_append_right _ (List.mem_append_right _ (List.mem_append_left _ (List.mem_of_getElem? (i := 99) rfl)))))) rfl
theorem zwl_156 : Cond.selects (zy 156).cls (zy 156) (zy 156) ∈ zgt := zmemS (List.mem_of_getElem? (i := 57) rfl) rfl
theorem zwd_156 : (zy 156).cls ≠ "java/lang/invoke/MethodHandle" ∧ (zy 156).cls ≠ "java/lang/invoke/VarHandle" ∧ (parseMethodDescriptor (zy 156).desc).map (fun d => d.parameters.length) = some 0 := by decide +kernel
theorem zwi_157 : Cond.initialized (zy 157).cls ∈ zgt := zmem (List.mem_append_left _ (List.mem_of_getElem? (i := 9) rfl)) rfl
theorem zwn_157 : Cond.instanceMethod (zy 157) ∈ zgt := zmem (List.mem_append_right _ (List.mem_append_right _ (List.mem_append_right _ (List.mem_append_right _ (List.mem_append_left _ (List.mem_of_getElem? (i := 73) rfl)))))) rfl
theorem zwl_157 : Cond.selects (zy 157).cls (zy 157) (zy 157) ∈ zgt := zmemS (List.mem_of_getElem? (i := 51) rfl) rfl
theorem zwd_157 : (zy 157).cls ≠ "java/lang/invoke/MethodHandle" ∧ (zy 157).cls ≠ "java/lang/invoke/VarHandle" ∧ (parseMethodDescriptor (zy 157).desc).map (fun d => d.parameters.length) = some 0 := by decide +kernel
theorem zwi_158 : Cond.initialized (zy 158).cls ∈ zgt := zmem (List.mem_append_left _ (List.mem_of_getElem? (i := 9) rfl)) rfl
theorem zwn_158 : Cond.instanceMethod (zy 158) ∈ zgt := zmem (List.mem_append_right _ (List.mem_append_right _ (List.mem_append_right _ (List.mem_append_right _ (List.mem_append_left _ (List.mem_of_getElem? (i := 111) rfl)))))) rfl
theorem zwl_158 : Cond.selects (zy 158).cls (zy 158) (zy 158) ∈ zgt := zmemS (List.mem_of_getElem? (i := 59) rfl) rfl
theorem zwd_158 : (zy 158).cls ≠ "java/lang/invoke/MethodHandle" ∧ (zy 158).cls ≠ "java/lang/invoke/VarHandle" ∧ (parseMethodDescriptor (zy 158).desc).map (fun d => d.parameters.length) = some 0 := by decide +kernel
theorem zwi_159 : Cond.initialized (zy 159).cls ∈ zgt := zmem (List.mem_append_left _ (List.mem_of_getElem? (i := 9) rfl)) rfl
theorem zwn_159 : Cond.instanceMethod (zy 159) ∈ zgt := zmem (List.mem_append_right _ (List.mem_append_right _ (List.mem_append_right _ (List.mem_append_right _ (List.mem_append_left _ (List.mem_of_getElem? (i := 107) rfl)))))) rfl
theorem zwl_159 : Cond.selects (zy 159).cls (zy 159) (zy 159) ∈ zgt := zmemS (List.mem_of_getElem? (i := 58) rfl) rfl
theorem zwd_159 : (zy 159).cls ≠ "java/lang/invoke/MethodHandle" ∧ (zy 159).cls ≠ "java/lang/invoke/VarHandle" ∧ (parseMethodDescriptor (zy 159).desc).map (fun d => d.parameters.length) = some 0 := by decide +kernel
theorem zwi_160 : Cond.initialized (zy 160).cls ∈ zgt := zmem (List.mem_append_left _ (List.mem_of_getElem? (i := 9) rfl)) rfl
theorem zwn_160 : Cond.instanceMethod (zy 160) ∈ zgt := zmem (List.mem_append_right _ (List.mem_append_right _ (List.mem_append_right _ (List.mem_append_right _ (List.mem_append_left _ (List.mem_of_getElem? (i := 69) rfl)))))) rfl
theorem zwl_160 : Cond.selects (zy 160).cls (zy 160) (zy 160) ∈ zgt := zmemS (List.mem_of_getElem? (i := 50) rfl) rfl
theorem zwd_160 : (zy 160).cls ≠ "java/lang/invoke/MethodHandle" ∧ (zy 160).cls ≠ "java/lang/invoke/VarHandle" ∧ (parseMethodDescriptor (zy 160).desc).map (fun d => d.parameters.length) = some 1 := by decide +kernel
theorem zwi_161 : Cond.initialized (zy 161).cls ∈ zgt := zmem (List.mem_append_left _ (List.mem_of_getElem? (i := 9) rfl)) rfl
theorem zwn_161 : Cond.instanceMethod (zy 161) ∈ zgt := zmem (List.mem_append_right _ (List.mem_append_right _ (List.mem_append_right _ (List.mem_append_right _ (List.mem_append_left _ (List.mem_of_getElem? (i := 64) rfl)))))) rfl
theorem zwl_161 : Cond.selects (zy 161).cls (zy 161) (zy 161) ∈ zgt := zmem (List.mem_append_right _ (List.mem_append_right _ (List.mem_append_right _ (List.mem_append_right _ (List.mem_append_left _ (List.mem_of_getElem? (i := 65) rfl)))))) rfl
theorem zwd_161 : (zy 161).cls ≠ "java/lang/invoke/MethodHandle" ∧ (zy 161).cls ≠ "java/lang/invoke/VarHandle" ∧ (parseMethodDescriptor (zy 161).desc).map (fun d => d.parameters.length) = some 1 := by decide +kernel
theorem zwi_162 : Cond.initialized (zy 162).cls ∈ zgt := zmem (List.mem_append_left _ (List.mem_of_getElem? (i := 9) rfl)) rfl
theorem zwn_162 : Cond.instanceMethod (zy 162) ∈ zgt := zmem (List.mem_append_right _ (List.mem_append_right _ (List.mem_append_right _ (List.mem_append_right _ (List.mem_append_left _ (List.mem_of_getElem? (i := 102) rfl)))))) rfl
theorem zwl_162 : Cond.selects (zy 162).cls (zy 162) (zy 162) ∈ zgt := zmem (List.mem_append_right _ (List.mem_append_right _ (List.mem_append_right _ (List.mem_append_right _ (List.mem_append_left _ (List.mem_of_getElem? (i := 103) rfl)))))) rfl
theorem zwd_162 : (zy 162).cls ≠ "java/lang/invoke/MethodHandle" ∧ (zy 162).cls ≠ "java/lang/invoke/VarHandle" ∧ (parseMethodDescriptor (zy 162).desc).map (fun d => d.parameters.length) = some 1 := by decide +kernel
theorem zwi_163 : Cond.initialized (zy 163).cls ∈ zgt := zmem (List.mem_append_left _ (List.mem_of_getElem? (i := 9) rfl)) rfl
theorem zwn_163 : Cond.instanceMethod (zy 163) ∈ zgt := zmem (List.mem_append_right _ (List.mem_append_right _ (List.mem_append_right _ (List.mem_append_right _ (List.mem_append_left _ (List.mem_of_getElem? (i := 115) rfl)))))) rfl
theorem zwl_163 : Cond.selects (zy 163).cls (zy 163) (zy 163) ∈ zgt := zmem (List.mem_append_right _ (List.mem_append_right _ (List.mem_append_right _ (List.mem_append_right _ (List.mem_append_left _ (List.mem_of_getElem? (i := 116) rfl)))))) rfl
theorem zwd_163 : (zy 163).cls ≠ "java/lang/invoke/MethodHandle" ∧ (zy 163).cls ≠ "java/lang/invoke/VarHandle" ∧ (parseMethodDescriptor (zy 163).desc).map (fun d => d.parameters.length) = some 1 := by decide +kernel
theorem zwi_164 : Cond.initialized (zy 164).cls ∈ zgt := zmem (List.mem_append_left _ (List.mem_of_getElem? (i := 9) rfl)) rfl
theorem zwn_164 : Cond.instanceMethod (zy 164) ∈ zgt := zmem (List.mem_append_right _ (List.mem_append_right _ (List.mem_append_right _ (List.mem_append_right _ (List.mem_append_left _ (List.mem_of_getElem? (i := 119) rfl)))))) rfl
theorem zwl_164 : Cond.selects (zy 164).cls (zy 164) (zy 164) ∈ zgt := zmem (List.mem_append_right _ (List.mem_append_right _ (List.mem_append_right _ (List.mem_append_right _ (List.mem_append_left _ (List.mem_of_getElem? (i := 120) rfl)))))) rfl
theorem zwd_164 : (zy 164).cls ≠ "java/lang/invoke/MethodHandle" ∧ (zy 164).cls ≠ "java/lang/invoke/VarHandle" ∧ (parseMethodDescriptor (zy 164).desc).map (fun d => d.parameters.length) = some 0 := by decide +kernel
theorem zwi_165 : Cond.initialized (zy 165).cls ∈ zgt := zmem (List.mem_append_left _ (List.mem_of_getElem? (i := 9) rfl)) rfl
theorem zws_165 : Cond.static (zy 165) ∈ zgt := zmem (List.mem_append_right _ (List.mem_append_right _ (List.mem_append_right _ (List.mem_append_right _ (List.mem_append_left _ (List.mem_of_getElem? (i := 127) rfl)))))) rfl
theorem zwd_165 : (zy 165).cls ≠ "java/lang/invoke/MethodHandle" ∧ (zy 165).cls ≠ "java/lang/invoke/VarHandle" ∧ (parseMethodDescriptor (zy 165).desc).map (fun d => d.parameters.length) = some 1 := by decide +kernel
theorem zwi_166 : Cond.initialized (zy 166).cls ∈ zgt := zmem (List.mem_append_left _ (List.mem_of_getElem? (i := 9) rfl)) rfl
theorem zwn_166 : Cond.instanceMethod (zy 166) ∈ zgt := zmem (List.mem_append_right _ (List.mem_append_right _ (List.mem_append_right _ (List.mem_append_right _ (List.mem_append_left _ (List.mem_of_getElem? (i := 123) rfl)))))) rfl
theorem zwl_166 : Cond.selects (zy 166).cls (zy 166) (zy 166) ∈ zgt := zmem (List.mem_append_right _ (List.mem_append_right _ (List.mem_append_right _ (List.mem_append_right _ (List.mem_append_left _ (List.mem_of_getElem? (i := 124) rfl)))))) rfl
theorem zwd_166 : (zy 166).cls ≠ "java/lang/invoke/MethodHandle" ∧ (zy 166).cls ≠ "java/lang/invoke/VarHandle" ∧ (parseMethodDescriptor (zy 166).desc).map (fun d => d.parameters.length) = some 1 := by decide +kernel
theorem zwi_167 : Cond.initialized (zy 167).cls ∈ zgt := zmem (List.mem_append_left _ (List.mem_of_getElem? (i := 9) rfl)) rfl
theorem zwn_167 : Cond.instanceMethod (zy 167) ∈ zgt := zmem (List.mem_append_right _ (List.mem_append_right _ (List.mem_append_right _ (List.mem_append_right _ (List.mem_append_left _ (List.mem_of_getElem? (i := 138) rfl)))))) rfl
theorem zwl_167 : Cond.selects (zy 167).cls (zy 167) (zy 167) ∈ zgt := zmemS (List.mem_of_getElem? (i := 60) rfl) rfl
theorem zwd_167 : (zy 167).cls ≠ "java/lang/invoke/MethodHandle" ∧ (zy 167).cls ≠ "java/lang/invoke/VarHandle" ∧ (parseMethodDescriptor (zy 167).desc).map (fun d => d.parameters.length) = some 3 := by decide +kernel
theorem zwi_168 : Cond.initialized (zy 168).cls ∈ zgt := zmem (List.mem_append_left _ (List.mem_of_getElem? (i := 9) rfl)) rfl
theorem zwn_168 : Cond.instanceMethod (zy 168) ∈ zgt := zmem (List.mem_append_right _ (List.mem_append_right _ (List.mem_append_right _ (List.mem_append_right _ (List.mem_append_left _ (List.mem_of_getElem? (i := 133) rfl)))))) rfl
theorem zwl_168 : Cond.selects (zy 168).cls (zy 168) (zy 168) ∈ zgt := zmem (List.mem_append_right _ (List.mem_append_right _ (List.mem_append_right _ (List.mem_append_right _ (List.mem_append_left _ (List.mem_of_getElem? (i := 134) rfl)))))) rfl
theorem zwd_168 : (zy 168).cls ≠ "java/lang/invoke/MethodHandle" ∧ (zy 168).cls ≠ "java/lang/invoke/VarHandle" ∧ (parseMethodDescriptor (zy 168).desc).map (fun d => d.parameters.length) = some 3 := by decide +kernel
theorem zwi_169 : Cond.initialized (zy 169).cls ∈ zgt := zmem (List.mem_append_left _ (List.mem_of_getElem? (i := 9) rfl)) rfl
theorem zwn_169 : Cond.instanceMethod (zy 169) ∈ zgt := zmem (List.mem_append_right _ (List.mem_append_right _ (List.mem_append_right _ (List.mem_append_right _ (List.mem_append_left _ (List.mem_of_getElem? (i := 141) rfl)))))) rfl
theorem zwl_169 : Cond.selects (zy 169).cls (zy 169) (zy 169) ∈ zgt := zmem (List.mem_append_right _ (List.mem_append_right _ (List.mem_append_right _ (List.mem_append_right _ (List.mem_append_left _ (List.mem_of_getElem? (i := 142) rfl)))))) rfl
theorem zwd_169 : (zy 169).cls ≠ "java/lang/invoke/MethodHandle" ∧ (zy 169).cls ≠ "java/lang/invoke/VarHandle" ∧ (parseMethodDescriptor (zy 169).desc).map (fun d => d.parameters.length) = some 0 := by decide +kernel
theorem zwi_170 : Cond.initialized (zy 170).cls ∈ zgt := zmem (List.mem_append_left _ (List.mem_of_getElem? (i := 9) rfl)) rfl
theorem zwn_170 : Cond.instanceMethod (zy 170) ∈ zgt := zmem (List.mem_append_right _ (List.mem_append_right _ (List.mem_append_right _ (List.mem_append_right _ (List.mem_append_left _ (List.mem_of_getElem? (i := 150) rfl)))))) rfl
theorem zwl_170 : Cond.selects (zy 170).cls (zy 170) (zy 170) ∈ zgt := zmemS (List.mem_of_getElem? (i := 61) rfl) rfl
theorem zwd_170 : (zy 170).cls ≠ "java/lang/invoke/MethodHandle" ∧ (zy 170).cls ≠ "java/lang/invoke/VarHandle" ∧ (parseMethodDescriptor (zy 170).desc).map (fun d => d.parameters.length) = some 2 := by decide +kernel
theorem zwi_171 : Cond.initialized (zy 171).cls ∈ zgt := zmem (List.mem_append_left _ (List.mem_of_getElem? (i := 9) rfl)) rfl
theorem zwn_171 : Cond.instanceMethod (zy 171) ∈ zgt := zmem (List.mem_append_right _ (List.mem_append_right _ (List.mem_append_right _ (List.mem_append_right _ (List.mem_append_left _ (List.mem_of_getElem? (i := 145) rfl)))))) rfl
theorem zwl_171 : Cond.selects (zy 171).cls (zy 171) (zy 171) ∈ zgt := zmem (List.mem_append_right _ (List.mem_append_right _ (List.mem_append_right _ (List.mem_append_right _ (List.mem_append_left _ (List.mem_of_getElem? (i := 146) rfl)))))) rfl
theorem zwd_171 : (zy 171).cls ≠ "java/lang/invoke/MethodHandle" ∧ (zy 171).cls ≠ "java/lang/invoke/VarHandle" ∧ (parseMethodDescriptor (zy 171).desc).map (fun d => d.parameters.length) = some 2 := by decide +kernel
theorem zwi_172 : Cond.initialized (zy 172).cls ∈ zgt := zmem (List.mem_append_left _ (List.mem_of_getElem? (i := 9) rfl)) rfl
theorem zwn_172 : Cond.instanceMethod (zy 172) ∈ zgt := zmem (List.mem_append_right _ (List.mem_append_right _ (List.mem_append_right _ (List.mem_append_right _ (List.mem_append_left _ (List.mem_of_getElem? (i := 153) rfl)))))) rfl
theorem zwl_172 : Cond.selects (zy 172).cls (zy 172) (zy 172) ∈ zgt := zmem (List.mem_append_right _ (List.mem_append_right _ (List.mem_append_right _ (List.mem_append_right _ (List.mem_append_left _ (List.mem_of_getElem? (i := 154) rfl)))))) rfl
theorem zwd_172 : (zy 172).cls ≠ "java/lang/invoke/MethodHandle" ∧ (zy 172).cls ≠ "java/lang/invoke/VarHandle" ∧ (parseMethodDescriptor (zy 172).desc).map (fun d => d.parameters.length) = some 2 := by decide +kernel
theorem zwi_173 : Cond.initialized (zy 173).cls ∈ zgt := zmem (List.mem_append_left _ (List.mem_of_getElem? (i := 9) rfl)) rfl
theorem zwn_173 : Cond.instanceMethod (zy 173) ∈ zgt := zmem (List.mem_append_right _ (List.mem_append_right _ (List.mem_append_right _ (List.mem_append_right _ (List.mem_append_left _ (List.mem_of_getElem? (i := 162) rfl)))))) rfl
theorem zwl_173 : Cond.selects (zy 173).cls (zy 173) (zy 173) ∈ zgt := zmemS (List.mem_of_getElem? (i := 62) rfl) rfl
theorem zwd_173 : (zy 173).cls ≠ "java/lang/invoke/MethodHandle" ∧ (zy 173).cls ≠ "java/lang/invoke/VarHandle" ∧ (parseMethodDescriptor (zy 173).desc).map (fun d => d.parameters.length) = some 3 := by decide +kernel
theorem zwi_174 : Cond.initialized (zy 174).cls ∈ zgt := zmem (List.mem_append_left _ (List.mem_of_getElem? (i := 9) rfl)) rfl
theorem zwn_174 : Cond.instanceMethod (zy 174) ∈ zgt := zmem (List.mem_append_right _ (List.mem_append_right _ (List.mem_append_right _ (List.mem_append_right _ (List.mem_append_left _ (List.mem_of_getElem? (i := 157) rfl)))))) rfl
theorem zwl_174 : Cond.selects (zy 174).cls (zy 174) (zy 174) ∈ zgt := zmem (List.mem_append_right _ (List.mem_append_right _ (List.mem_append_right _ (List.mem_append_right _ (List.mem_append_left _ (List.mem_of_getElem? (i := 158) rfl)))))) rfl
theorem zwd_174 : (zy 174).cls ≠ "java/lang/invoke/MethodHandle" ∧ (zy 174).cls ≠ "java/lang/invoke/VarHandle" ∧ (parseMethodDescriptor (zy 174).desc).map (fun d => d.parameters.length) = some 2 := by decide +kernel
theorem zwi_175 : Cond.initialized (zy 175).cls ∈ zgt := zmem (List.mem_append_left _ (List.mem_of_getElem? (i := 9) rfl)) rfl
theorem zwn_175 : Cond.instanceMethod (zy 175) ∈ zgt := zmem (List.mem_append_right _ (List.mem_append_right _ (List.mem_append_right _ (List.mem_append_right _ (List.mem_append_left _ (List.mem_of_getElem? (i := 170) rfl)))))) rfl
theorem zwl_175 : Cond.selects (zy 175).cls (zy 175) (zy 175) ∈ zgt := zmemS (List.mem_of_getElem? (i := 63) rfl) rfl
theorem zwd_175 : (zy 175).cls ≠ "java/lang/invoke/MethodHandle" ∧ (zy 175).cls ≠ "java/lang/invoke/VarHandle" ∧ (parseMethodDescriptor (zy 175).desc).map (fun d => d.parameters.length) = some 1 := by decide +kernel
theorem zwi_176 : Cond.initialized (zy 176).cls ∈ zgt := zmem (List.mem_append_left _ (List.mem_of_getElem? (i := 9) rfl)) rfl
theorem zwn_176 : Cond.instanceMethod (zy 176) ∈ zgt := zmem (List.mem_append_right _ (List.mem_append_right _ (List.mem_append_right _ (List.mem_append_right _ (List.mem_append_left _ (List.mem_of_getElem? (i := 165) rfl)))))) rfl
theorem zwl_176 : Cond.selects (zy 176).cls (zy 176) (zy 176) ∈ zgt := zmem (List.mem_append_right _ (List.mem_append_right _ (List.mem_append_right _ (List.mem_append_right _ (List.mem_append_left _ (List.mem_of_getElem? (i := 166) rfl)))))) rfl
theorem zwd_176 : (zy 176).cls ≠ "java/lang/invoke/MethodHandle" ∧ (zy 176).cls ≠ "java/lang/invoke/VarHandle" ∧ (parseMethodDescriptor (zy 176).desc).map (fun d => d.parameters.length) = some 1 := by decide +kernel
theorem zwi_177 : Cond.initialized (zy 177).cls ∈ zgt := zmem (List.mem_append_left _ (List.mem_of_getElem? (i := 9) rfl)) rfl
theorem zwn_177 : Cond.instanceMethod (zy 177) ∈ zgt := zmem (List.mem_append_right _ (List.mem_append_right _ (List.mem_append_right _ (List.mem_append_right _ (List.mem_append_left _ (List.mem_of_getElem? (i := 173) rfl)))))) rfl
theorem zwl_177 : Cond.selects (zy 177).cls (zy 177) (zy 177) ∈ zgt := zmem (List.mem_append_right _ (List.mem_append_right _ (List.mem_append_right _ (List.mem_append_right _ (List.mem_append_left _ (List.mem_of_getElem? (i := 174) rfl)))))) rfl
theorem zwd_177 : (zy 177).cls ≠ "java/lang/invoke/MethodHandle" ∧ (zy 177).cls ≠ "java/lang/invoke/VarHandle" ∧ (parseMethodDescriptor (zy 177).desc).map (fun d => d.parameters.length) = some 2 := by decide +kernel
theorem zwi_178 : Cond.initialized (zy 178).cls ∈ zgt := zmem (List.mem_append_left _ (List.mem_of_getElem? (i := 9) rfl)) rfl
theorem zwn_178 : Cond.instanceMethod (zy 178) ∈ zgt := zmem (List.mem_append_right _ (List.mem_append_right _ (List.mem_append_right _ (List.mem_append_right _ (List.mem_append_left _ (List.mem_of_getElem? (i := 182) rfl)))))) rfl
theorem zwl_178 : Cond.selects (zy 178).cls (zy 178) (zy 178) ∈ zgt := zmemS (List.mem_of_getElem? (i := 64) rfl) rfl
theorem zwd_178 : (zy 178).cls ≠ "java/lang/invoke/MethodHandle" ∧ (zy 178).cls ≠ "java/lang/invoke/VarHandle" ∧ (parseMethodDescriptor (zy 178).desc).map (fun d => d.parameters.length) = some 2 := by decide +kernel
theorem zwi_179 : Cond.initialized (zy 179).cls ∈ zgt := zmem (List.mem_append_left _ (List.mem_of_getElem? (i := 9) rfl)) rfl
theorem zwn_179 : Cond.instanceMethod (zy 179) ∈ zgt := zmem (List.mem_append_right _ (List.mem_append_right _ (List.mem_append_right _ (List.mem_append_right _ (List.mem_append_left _ (List.mem_of_getElem? (i := 177) rfl)))))) rfl
theorem zwl_179 : Cond.selects (zy 179).cls (zy 179) (zy 179) ∈ zgt := zmem (List.mem_append_right _ (List.mem_append_right _ (List.mem_append_right _ (List.mem_append_right _ (List.mem_append_left _ (List.mem_of_getElem? (i := 178) rfl)))))) rfl
theorem zwd_179 : (zy 179).cls ≠ "java/lang/invoke/MethodHandle" ∧ (zy 179).cls ≠ "java/lang/invoke/VarHandle" ∧ (parseMethodDescriptor (zy 179).desc).map (fun d => d.parameters.length) = some 1 := by decide +kernel
theorem zwi_180 : Cond.initialized (zy 180).cls ∈ zgt := zmem (List.mem_append_left _ (List.mem_of_getElem? (i := 9) rfl)) rfl
theorem zwn_180 : Cond.instanceMethod (zy 180) ∈ zgt := zmem (List.mem_append_right _ (List.mem_append_right _ (List.mem_append_right _ (List.mem_append_right _ (List.mem_append_left _ (List.mem_of_getElem? (i := 185) rfl)))))) rfl
theorem zwl_180 : Cond.selects (zy 180).cls (zy 180) (zy 180) ∈ zgt := zmem (List.mem_append_right _ (List.mem_append_right _ (List.mem_append_right _ (List.mem_append_right _ (List.mem_append_left _ (List.mem_of_getElem? (i := 186) rfl)))))) rfl
theorem zwd_180 : (zy 180).cls ≠ "java/lang/invoke/MethodHandle" ∧ (zy 180).cls ≠ "java/lang/invoke/VarHandle" ∧ (parseMethodDescriptor (zy 180).desc).map (fun d => d.parameters.length) = some 1 := by decide +kernel
theorem zwi_181 : Cond.initialized (zy 181).cls ∈ zgt := zmem (List.mem_append_left _ (List.mem_of_getElem? (i := 9) rfl)) rfl
theorem zwn_181 : Cond.instanceMethod (zy 181) ∈ zgt := zmem (List.mem_append_right _ (List.mem_append_right _ (List.mem_append_right _ (List.mem_append_right _ (List.mem_append_left _ (List.mem_of_getElem? (i := 202) rfl)))))) rfl
theorem zwl_181 : Cond.selects (zy 181).cls (zy 181) (zy 181) ∈ zgt := zmemS (List.mem_of_getElem? (i := 67) rfl) rfl
theorem zwd_181 : (zy 181).cls ≠ "java/lang/invoke/MethodHandle" ∧ (zy 181).cls ≠ "java/lang/invoke/VarHandle" ∧ (parseMethodDescriptor (zy 181).desc).map (fun d => d.parameters.length) = some 1 := by decide +kernel
theorem zwi_182 : Cond.initialized (zy 182).cls ∈ zgt := zmem (List.mem_append_left _ (List.mem_of_getElem? (i := 9) rfl)) rfl
theorem zws_182 : Cond.static (zy 182) ∈ zgt := zmem (List.mem_append_right _ (List.mem_append_right _ (List.mem_append_right _ (List.mem_append_right _ (List.mem_append_left _ (List.mem_of_getElem? (i := 205) rfl)))))) rfl
theorem zwd_182 : (zy 182).cls ≠ "java/lang/invoke/MethodHandle" ∧ (zy 182).cls ≠ "java/lang/invoke/VarHandle" ∧ (parseMethodDescriptor (zy 182).desc).map (fun d => d.parameters.length) = some 1 := by decide +kernel
theorem zwi_183 : Cond.initialized (zy 183).cls ∈ zgt := zmem (List.mem_append_left _ (List.mem_of_getElem? (i := 9) rfl)) rfl
theorem zwn_183 : Cond.instanceMethod (zy 183) ∈ zgt := zmem (List.mem_append_right _ (List.mem_append_right _ (List.mem_append_right _ (List.mem_append_right _ (List.mem_append_left _ (List.mem_of_getElem? (i := 194) rfl)))))) rfl
theorem zwl_183 : Cond.selects (zy 183).cls (zy 183) (zy 183) ∈ zgt := zmemS (List.mem_of_getElem? (i := 65) rfl) rfl
theorem zwd_183 : (zy 183).cls ≠ "java/lang/invoke/MethodHandle" ∧ (zy 183).cls ≠ "java/lang/invoke/VarHandle" ∧ (parseMethodDescriptor (zy 183).desc).map (fun d => d.parameters.length) = some 0 := by decide +kernel
theorem zwi_184 : Cond.initialized (zy 184).cls ∈ zgt := zmem (List.mem_append_left _ (List.mem_of_getElem? (i := 9) rfl)) rfl
theorem zwn_184 : Cond.instanceMethod (zy 184) ∈ zgt := zmem (List.mem_append_right _ (List.mem_append_right _ (List.mem_append_right _ (List.mem_append_right _ (List.mem_append_left _ (List.mem_of_getElem? (i := 209) rfl)))))) rfl
theorem zwl_184 : Cond.selects (zy 184).cls (zy 184) (zy 184) ∈ zgt := zmemS (List.mem_of_getElem? (i := 68) rfl) rfl
theorem zwd_184 : (zy 184).cls ≠ "java/lang/invoke/MethodHandle" ∧ (zy 184).cls ≠ "java/lang/invoke/VarHandle" ∧ (parseMethodDescriptor (zy 184).desc).map (fun d => d.parameters.length) = some 0 := by decide +kernel
theorem zwi_185 : Cond.initialized (zy 185).cls ∈ zgt := zmem (List.mem_append_left _ (List.mem_of_getElem? (i := 9) rfl)) rfl
theorem zwn_185 : Cond.instanceMethod (zy 185) ∈ zgt := zmem (List.mem_append_right _ (List.mem_append_right _ (List.mem_append_right _ (List.mem_append_right _ (List.mem_append_left _ (List.mem_of_getElem? (i := 198) rfl)))))) rfl
theorem zwl_185 : Cond.selects (zy 185).cls (zy 185) (zy 185) ∈ zgt := zmemS (List.mem_of_getElem? (i := 66) rfl) rfl
theorem zwd_185 : (zy 185).cls ≠ "java/lang/invoke/MethodHandle" ∧ (zy 185).cls ≠ "java/lang/invoke/VarHandle" ∧ (parseMethodDescriptor (zy 185).desc).map (fun d => d.parameters.length) = some 2 := by decide +kernel
theorem zwi_186 : Cond.initialized (zy 186).cls ∈ zgt := zmem (List.mem_append_left _ (List.mem_of_getElem? (i := 9) rfl)) rfl
theorem zwn_186 : Cond.instanceMethod (zy 186) ∈ zgt := zmem (List.mem_append_right _ (List.mem_append_right _ (List.mem_append_right _ (List.mem_append_right _ (List.mem_append_left _ (List.mem_of_getElem? (i := 213) rfl)))))) rfl
theorem zwl_186 : Cond.selects (zy 186).cls (zy 186) (zy 186) ∈ zgt := zmemS (List.mem_of_getElem? (i := 69) rfl) rfl
theorem zwd_186 : (zy 186).cls ≠ "java/lang/invoke/MethodHandle" ∧ (zy 186).cls ≠ "java/lang/invoke/VarHandle" ∧ (parseMethodDescriptor (zy 186).desc).map (fun d => d.parameters.length) = some 2 := by decide +kernel
theorem zwi_187 : Cond.initialized (zy 187).cls ∈ zgt := zmem (List.mem_append_left _ (List.mem_of_getElem? (i := 9) rfl)) rfl
theorem zwn_187 : Cond.instanceMethod (zy 187) ∈ zgt := zmem (List.mem_append_right _ (List.mem_append_right _ (List.mem_append_right _ (List.mem_append_right _ (List.mem_append_left _ (List.mem_of_getElem? (i := 217) rfl)))))) rfl
theorem zwl_187 : Cond.selects (zy 187).cls (zy 187) (zy 187) ∈ zgt := zmemS (List.mem_of_getElem? (i := 70) rfl) rfl
theorem zwd_187 : (zy 187).cls ≠ "java/lang/invoke/MethodHandle" ∧ (zy 187).cls ≠ "java/lang/invoke/VarHandle" ∧ (parseMethodDescriptor (zy 187).desc).map (fun d => d.parameters.length) = some 2 := by decide +kernel
theorem zwi_188 : Cond.initialized (zy 188).cls ∈ zgt := zmem (List.mem_append_left _ (List.mem_of_getElem? (i := 9) rfl)) rfl
theorem zwn_188 : Cond.instanceMethod (zy 188) ∈ zgt := zmem (List.mem_append_right _ (List.mem_append_right _ (List.mem_append_right _ (List.mem_append_right _ (List.mem_append_left _ (List.mem_of_getElem? (i := 221) rfl)))))) rfl
theorem zwl_188 : Cond.selects (zy 188).cls (zy 188) (zy 188) ∈ zgt := zmemS (List.mem_of_getElem? (i := 71) rfl) rfl
theorem zwd_188 : (zy 188).cls ≠ "java/lang/invoke/MethodHandle" ∧ (zy 188).cls ≠ "java/lang/invoke/VarHandle" ∧ (parseMethodDescriptor (zy 188).desc).map (fun d => d.parameters.length) = some 2 := by decide +kernel
theorem zwi_189 : Cond.initialized (zy 189).cls ∈ zgt := zmem (List.mem_append_left _ (List.mem_of_getElem? (i := 9) rfl)) rfl
theorem zwn_189 : Cond.instanceMethod (zy 189) ∈ zgt := zmem (List.mem_append_right _ (List.mem_append_right _ (List.mem_append_right _ (List.mem_append_right _ (List.mem_append_left _ (List.mem_of_getElem? (i := 189) rfl)))))) rfl
theorem zwl_189 : Cond.selects (zy 189).cls (zy 189) (zy 189) ∈ zgt := zmem (List.mem_append_right _ (List.mem_append_right _ (List.mem_append_right _ (List.mem_append_right _ (List.mem_append_left _ (List.mem_of_getElem? (i := 190) rfl)))))) rfl
theorem zwd_189 : (zy 189).cls ≠ "java/lang/invoke/MethodHandle" ∧ (zy 189).cls ≠ "java/lang/invoke/VarHandle" ∧ (parseMethodDescriptor (zy 189).desc).map (fun d => d.parameters.length) = some 3 := by decide +kernel
theorem zwi_190 : Cond.initialized (zy 190).cls ∈ zgt := zmem (List.mem_append_left _ (List.mem_of_getElem? (i := 9) rfl)) rfl
theorem zwn_190 : Cond.instanceMethod (zy 190) ∈ zgt := zmem (List.mem_append_right _ (List.mem_append_right _ (List.mem_append_right _ (List.mem_append_right _ (List.mem_append_left _ (List.mem_of_getElem? (i := 224) rfl)))))) rfl
theorem zwl_190 : Cond.selects (zy 190).cls (zy 190) (zy 190) ∈ zgt := zmem (List.mem_append_right _ (List.mem_append_right _ (List.mem_append_right _ (List.mem_append_right _ (List.mem_append_left _ (List.mem_of_getElem? (i := 225) rfl)))))) rfl
theorem zwd_190 : (zy 190).cls ≠ "java/lang/invoke/MethodHandle" ∧ (zy 190).cls ≠ "java/lang/invoke/VarHandle" ∧ (parseMethodDescriptor (zy 190).desc).map (fun d => d.parameters.length) = some 1 := by decide +kernel
theorem zwi_191 : Cond.initialized (zy 191).cls ∈ zgt := zmem (List.mem_append_left _ (List.mem_of_getElem? (i := 9) rfl)) rfl
theorem zws_191 : Cond.static (zy 191) ∈ zgt := zmem (List.mem_append_right _ (List.mem_append_right _ (List.mem_append_right _ (List.mem_append_right _ (List.mem_append_left _ (List.mem_of_getElem? (i := 232) rfl)))))) rfl
theorem zwd_191 : (zy 191).cls ≠ "java/lang/invoke/MethodHandle" ∧ (zy 191).cls ≠ "java/lang/invoke/VarHandle" ∧ (parseMethodDescriptor (zy 191).desc).map (fun d => d.parameters.length) = some 1 := by decide +kernel
theorem zwi_192 : Cond.initialized (zy 192).cls ∈ zgt := zmem (List.mem_append_left _ (List.mem_of_getElem? (i := 9) rfl)) rfl
theorem zwn_192 : Cond.instanceMethod (zy 192) ∈ zgt := zmem (List.mem_append_right _ (List.mem_append_right _ (List.mem_append_right _ (List.mem_append_right _ (List.mem_append_left _ (List.mem_of_getElem? (i := 228) rfl)))))) rfl
theorem zwl_192 : Cond.selects (zy 192).cls (zy 192) (zy 192) ∈ zgt := zmem (List.mem_append_right _ (List.mem_append_right _ (List.mem_append_right _ (List.mem_append_right _ (List.mem_append_left _ (List.mem_of_getElem? (i := 229) rfl)))))) rfl
theorem zwd_192 : (zy 192).cls ≠ "java/lang/invoke/MethodHandle" ∧ (zy 192).cls ≠ "java/lang/invoke/VarHandle" ∧ (parseMethodDescriptor (zy 192).desc).map (fun d => d.parameters.length) = some 3 := by decide +kernel
theorem zwi_193 : Cond.initialized (zy 193).cls ∈ zgt := zmem (List.mem_append_left _ (List.mem_of_getElem? (i := 9) rfl)) rfl
theorem zwn_193 : Cond.instanceMethod (zy 193) ∈ zgt := zmem (List.mem_append_right _ (List.mem_append_right _ (List.mem_append_right _ (List.mem_append_right _ (List.mem_append_left _ (List.mem_of_getElem? (i := 235) rfl)))))) rfl
theorem zwl_193 : Cond.selects (zy 193).cls (zy 193) (zy 193) ∈ zgt := zmem (List.mem_append_right _ (List.mem_append_right _ (List.mem_append_right _ (List.mem_append_right _ (List.mem_append_left _ (List.mem_of_getElem? (i := 236) rfl)))))) rfl
theorem zwd_193 : (zy 193).cls ≠ "java/lang/invoke/MethodHandle" ∧ (zy 193).cls ≠ "java/lang/invoke/VarHandle" ∧ (parseMethodDescriptor (zy 193).desc).map (fun d => d.parameters.length) = some 3 := by decide +kernel
theorem zwi_194 : Cond.initialized (zy 194).cls ∈ zgt := zmem (List.mem_append_left _ (List.mem_of_getElem? (i := 9) rfl)) rfl
theorem zwn_194 : Cond.instanceMethod (zy 194) ∈ zgt := zmem (List.mem_append_right _ (List.mem_append_right _ (List.mem_append_right _ (List.mem_append_right _ (List.mem_append_left _ (List.mem_of_getElem? (i := 239) rfl)))))) rfl
theorem zwl_194 : Cond.selects (zy 194).cls (zy 194) (zy 194) ∈ zgt := zmem (List.mem_append_right _ (List.mem_append_right _ (List.mem_append_right _ (List.mem_append_right _ (List.mem_append_right _ (List.mem_of_getElem? (i := 0) rfl)))))) rfl
theorem zwd_194 : (zy 194).cls ≠ "java/lang/invoke/MethodHandle" ∧ (zy 194).cls ≠ "java/lang/invoke/VarHandle" ∧ (parseMethodDescriptor (zy 194).desc).map (fun d => d.parameters.length) = some 5 := by decide +kernel
theorem zwi_195 : Cond.initialized (zy 195).cls ∈ zgt := zmem (List.mem_append_left _ (List.mem_of_getElem? (i := 9) rfl)) rfl
theorem zwn_195 : Cond.instanceMethod (zy 195) ∈ zgt := zmem (List.mem_append_right _ (List.mem_append_right _ (List.mem_append_right _ (List.mem_append_right _ (List.mem_append_right _ (List.mem_of_getElem? (i := 8) rfl)))))) rfl
theorem zwl_195 : Cond.selects (zy 195).cls (zy 195) (zy 195) ∈ zgt := zmemS (List.mem_of_getElem? (i := 72) rfl) rfl
theorem zwd_195 : (zy 195).cls ≠ "java/lang/invoke/MethodHandle" ∧ (zy 195).cls ≠ "java/lang/invoke/VarHandle" ∧ (parseMethodDescriptor (zy 195).desc).map (fun d => d.parameters.length) = some 1 := by decide +kernel
theorem zwi_196 : Cond.initialized (zy 196).cls ∈ zgt := zmem (List.mem_append_left _ (List.mem_of_getElem? (i := 9) rfl)) rfl
theorem zwn_196 : Cond.instanceMethod (zy 196) ∈ zgt := zmem (List.mem_append_right _ (List.mem_append_right _ (List.mem_append_right _ (List.mem_append_right _ (List.mem_append_right _ (List.mem_of_getElem? (i := 3) rfl)))))) rfl
theorem zwl_196 : Cond.selects (zy 196).cls (zy 196) (zy 196) ∈ zgt := zmem (List.mem_append_right _ (List.mem_append_right _ (List.mem_append_right _ (List.mem_append_right _ (List.mem_append_right _ (List.mem_of_getElem? (i := 4) rfl)))))) rfl
theorem zwd_196 : (zy 196).cls ≠ "java/lang/invoke/MethodHandle" ∧ (zy 196).cls ≠ "java/lang/invoke/VarHandle" ∧ (parseMethodDescriptor (zy 196).desc).map (fun d => d.parameters.length) = some 1 := by decide +kernel
theorem zwi_197 : Cond.initialized (zy 197).cls ∈ zgt := zmem (List.mem_append_left _ (List.mem_of_getElem? (i := 9) rfl)) rfl
theorem zwn_197 : Cond.instanceMethod (zy 197) ∈ zgt := zmem (List.mem_append_right _ (List.mem_append_right _ (List.mem_append_right _ (List.mem_append_right _ (List.mem_append_right _ (List.mem_of_getElem? (i := 11) rfl)))))) rfl
theorem zwl_197 : Cond.selects (zy 197).cls (zy 197) (zy 197) ∈ zgt := zmem (List.mem_append_right _ (List.mem_append_right _ (List.mem_append_right _ (List.mem_append_right _ (List.mem_append_right _ (List.mem_of_getElem? (i := 12) rfl)))))) rfl
theorem zwd_197 : (zy 197).cls ≠ "java/lang/invoke/MethodHandle" ∧ (zy 197).cls ≠ "java/lang/invoke/VarHandle" ∧ (parseMethodDescriptor (zy 197).desc).map (fun d => d.parameters.length) = some 1 := by decide +kernel
theorem zwi_198 : Cond.initialized (zy 198).cls ∈ zgt := zmem (List.mem_append_left _ (List.mem_of_getElem? (i := 9) rfl)) rfl
theorem zwn_198 : Cond.instanceMethod (zy 198) ∈ zgt := zmem (List.mem_append_right _ (List.mem_append_right _ (List.mem_append_right _ (List.mem_append_right _ (List.mem_append_right _ (List.mem_of_getElem? (i := 15) rfl)))))) rfl
theorem zwl_198 : Cond.selects (zy 198).cls (zy 198) (zy 198) ∈ zgt := zmem (List.mem_append_right _ (List.mem_append_right _ (List.mem_append_right _ (List.mem_append_right _ (List.mem_append_right _ (List.mem_of_getElem? (i := 16) rfl)))))) rfl
theorem zwd_198 : (zy 198).cls ≠ "java/lang/invoke/MethodHandle" ∧ (zy 198).cls ≠ "java/lang/invoke/VarHandle" ∧ (parseMethodDescriptor (zy 198).desc).map (fun d => d.parameters.length) = some 0 := by decide +kernel
theorem zwi_199 : Cond.initialized (zy 199).cls ∈ zgt := zmem (List.mem_append_left _ (List.mem_of_getElem? (i := 9) rfl)) rfl
theorem zwn_199 : Cond.instanceMethod (zy 199) ∈ zgt := zmem (List.mem_append_right _ (List.mem_append_right _ (List.mem_append_right _ (List.mem_append_right _ (List.mem_append_right _ (List.mem_of_getElem? (i := 19) rfl)))))) rfl
theorem zwl_199 : Cond.selects (zy 199).cls (zy 199) (zy 199) ∈ zgt := zmem (List.mem_append_right _ (List.mem_append_right _ (List.mem_append_right _ (List.mem_append_right _ (List.mem_append_right _ (List.mem_of_getElem? (i := 20) rfl)))))) rfl
theorem zwd_199 : (zy 199).cls ≠ "java/lang/invoke/MethodHandle" ∧ (zy 199).cls ≠ "java/lang/invoke/VarHandle" ∧ (parseMethodDescriptor (zy 199).desc).map (fun d => d.parameters.length) = some 0 := by decide +kernel
theorem zwi_200 : Cond.initialized (zy 200).cls ∈ zgt := zmem (List.mem_append_left _ (List.mem_of_getElem? (i := 9) rfl)) rfl
theorem zwn_200 : Cond.instanceMethod (zy 200) ∈ zgt := zmem (List.mem_append_right _ (List.mem_append_right _ (List.mem_append_right _ (List.mem_append_right _ (List.mem_append_right _ (List.mem_of_getElem? (i := 23) rfl)))))) rfl
theorem zwl_200 : Cond.selects (zy 200).cls (zy 200) (zy 200) ∈ zgt := zmem (List.mem_append_right _ (List.mem_append_right _ (List.mem_append_right _ (List.mem_append_right _ (List.mem_append_right _ (List.mem_of_getElem? (i := 24) rfl)))))) rfl
theorem zwd_200 : (zy 200).cls ≠ "java/lang/invoke/MethodHandle" ∧ (zy 200).cls ≠ "java/lang/invoke/VarHandle" ∧ (parseMethodDescriptor (zy 200).desc).map (fun d => d.parameters.length) = some 1 := by decide +kernel
theorem zwi_201 : Cond.initialized (zy 201).cls ∈ zgt := zmem (List.mem_append_left _ (List.mem_of_getElem? (i := 9) rfl)) rfl
theorem zwn_201 : Cond.instanceMethod (zy 201) ∈ zgt := zmem (List.mem_append_right _ (List.mem_append_right _ (List.mem_append_right _ (List.mem_append_right _ (List.mem_append_right _ (List.mem_of_getElem? (i := 27) rfl)))))) rfl
theorem zwl_201 : Cond.selects (zy 201).cls (zy 201) (zy 201) ∈ zgt := zmem (List.mem_append_right _ (List.mem_append_right _ (List.mem_append_right _ (List.mem_append_right _ (List.mem_append_right _ (List.mem_of_getElem? (i := 28) rfl)))))) rfl
theorem zwd_201 : (zy 201).cls ≠ "java/lang/invoke/MethodHandle" ∧ (zy 201).cls ≠ "java/lang/invoke/VarHandle" ∧ (parseMethodDescriptor (zy 201).desc).map (fun d => d.parameters.length) = some 0 := by decide +kernel
theorem zwi_202 : Cond.initialized (zy 202).cls ∈ zgt := zmem (List.mem_append_left _ (List.mem_of_getElem? (i := 9) rfl)) rfl
theorem zwn_202 : Cond.instanceMethod (zy 202) ∈ zgt := zmem (List.mem_append_right _ (List.mem_append_right _ (List.mem_append_right _ (List.mem_append_right _ (List.mem_append_right _ (List.mem_of_getElem? (i := 31) rfl)))))) rfl
theorem zwl_202 : Cond.selects (zy 202).cls (zy 202) (zy 202) ∈ zgt := zmem (List.mem_append_right _ (List.mem_append_right _ (List.mem_append_right _ (List.mem_append_right _ (List.mem_append_right _ (List.mem_of_getElem? (i := 32) rfl)))))) rfl
theorem zwd_202 : (zy 202).cls ≠ "java/lang/invoke/MethodHandle" ∧ (zy 202).cls ≠ "java/lang/invoke/VarHandle" ∧ (parseMethodDescriptor (zy 202).desc).map (fun d => d.parameters.length) = some 1 := by decide +kernel
theorem zwi_203 : Cond.initialized (zy 203).cls ∈ zgt := zmem (List.mem_append_left _ (List.mem_of_getElem? (i := 9) rfl)) rfl
theorem zwn_203 : Cond.instanceMethod (zy 203) ∈ zgt := zmem (List.mem_append_right _ (List.mem_append_right _ (List.mem_append_right _ (List.mem_append_right _ (List.mem_append_right _ (List.mem_of_getElem? (i := 35) rfl)))))) rfl
theorem zwl_203 : Cond.selects (zy 203).cls (zy 203) (zy 203) ∈ zgt := zmem (List.mem_append_right _ (List.mem_append_right _ (List.mem_append_right _ (List.mem_append_right _ (List.mem_append_right _ (List.mem_of_getElem? (i := 36) rfl)))))) rfl
theorem zwd_203 : (zy 203).cls ≠ "java/lang/invoke/MethodHandle" ∧ (zy 203).cls ≠ "java/lang/invoke/VarHandle" ∧ (parseMethodDescriptor (zy 203).desc).map (fun d => d.parameters.length) = some 1 := by decide +kernel
theorem zwi_204 : Cond.initialized (zy 204).cls ∈ zgt := zmem (List.mem_append_left _ (List.mem_of_getElem? (i := 10) rfl)) rfl
theorem zws_204 : Cond.static (zy 204) ∈ zgt := zmem (List.mem_append_right _ (List.mem_append_left _ (List.mem_of_getElem? (i := 37) rfl))) rfl
theorem zwd_204 : (zy 204).cls ≠ "java/lang/invoke/MethodHandle" ∧ (zy 204).cls ≠ "java/lang/invoke/VarHandle" ∧ (parseMethodDescriptor (zy 204).desc).map (fun d => d.parameters.length) = some 1 := by decide +kernel
theorem zwi_205 : Cond.initialized (zy 205).cls ∈ zgt := zmem (List.mem_append_left _ (List.mem_of_getElem? (i := 10) rfl)) rfl
theorem zws_205 : Cond.static (zy 205) ∈ zgt := zmem (List.mem_append_right _ (List.mem_append_left _ (List.mem_of_getElem? (i := 100) rfl))) rfl
theorem zwd_205 : (zy 205).cls ≠ "java/lang/invoke/MethodHandle" ∧ (zy 205).cls ≠ "java/lang/invoke/VarHandle" ∧ (parseMethodDescriptor (zy 205).desc).map (fun d => d.parameters.length) = some 2 := by decide +kernel
theorem zwi_206 : Cond.initialized (zy 206).cls ∈ zgt := zmem (List.mem_append_left _ (List.mem_of_getElem? (i := 10) rfl)) rfl
theorem zws_206 : Cond.static (zy 206) ∈ zgt := zmem (List.mem_append_right _ (List.mem_append_left _ (List.mem_of_getElem? (i := 106) rfl))) rfl
theorem zwd_206 : (zy 206).cls ≠ "java/lang/invoke/MethodHandle" ∧ (zy 206).cls ≠ "java/lang/invoke/VarHandle" ∧ (parseMethodDescriptor (zy 206).desc).map (fun d => d.parameters.length) = some 2 := by decide +kernel
theorem zwi_207 : Cond.initialized (zy 207).cls ∈ zgt := zmem (List.mem_append_left _ (List.mem_of_getElem? (i := 4) rfl)) rfl
theorem zwn_207 : Cond.instanceMethod (zy 207) ∈ zgt := zmem (List.mem_append_right _ (List.mem_append_left _ (List.mem_of_getElem? (i := 189) rfl))) rfl
theorem zwl_207 : Cond.selects (zy 207).cls (zy 207) (zy 207) ∈ zgt := zmem (List.mem_append_right _ (List.mem_append_left _ (List.mem_of_getElem? (i := 190) rfl))) rfl
theorem zwd_207 : (zy 207).cls ≠ "java/lang/invoke/MethodHandle" ∧ (zy 207).cls ≠ "java/lang/invoke/VarHandle" ∧ (parseMethodDescriptor (zy 207).desc).map (fun d => d.parameters.length) = some 0 := by decide +kernel
theorem zwi_208 : Cond.initialized (zy 208).cls ∈ zgt := zmem (List.mem_append_left _ (List.mem_of_getElem? (i := 4) rfl)) rfl
theorem zwn_208 : Cond.instanceMethod (zy 208) ∈ zgt := zmem (List.mem_append_left _ (List.mem_of_getElem? (i := 62) rfl)) rfl
theorem zwl_208 : Cond.selects (zy 208).cls (zy 208) (zy 208) ∈ zgt := zmem (List.mem_append_left _ (List.mem_of_getElem? (i := 63) rfl)) rfl
theorem zwd_208 : (zy 208).cls ≠ "java/lang/invoke/MethodHandle" ∧ (zy 208).cls ≠ "java/lang/invoke/VarHandle" ∧ (parseMethodDescriptor (zy 208).desc).map (fun d => d.parameters.length) = some 0 := by decide +kernel
theorem zwi_209 : Cond.initialized (zy 209).cls ∈ zgt := zmem (List.mem_append_left _ (List.mem_of_getElem? (i := 4) rfl)) rfl
theorem zwn_209 : Cond.instanceMethod (zy 209) ∈ zgt := zmem (List.mem_append_left _ (List.mem_of_getElem? (i := 58) rfl)) rfl
theorem zwl_209 : Cond.selects (zy 209).cls (zy 209) (zy 209) ∈ zgt := zmem (List.mem_append_left _ (List.mem_of_getElem? (i := 59) rfl)) rfl
theorem zwd_209 : (zy 209).cls ≠ "java/lang/invoke/MethodHandle" ∧ (zy 209).cls ≠ "java/lang/invoke/VarHandle" ∧ (parseMethodDescriptor (zy 209).desc).map (fun d => d.parameters.length) = some 0 := by decide +kernel
theorem zwi_210 : Cond.initialized (zy 210).cls ∈ zgt := zmem (List.mem_append_left _ (List.mem_of_getElem? (i := 4) rfl)) rfl
theorem zwn_210 : Cond.instanceMethod (zy 210) ∈ zgt := zmem (List.mem_append_right _ (List.mem_append_left _ (List.mem_of_getElem? (i := 185) rfl))) rfl
theorem zwl_210 : Cond.selects (zy 210).cls (zy 210) (zy 210) ∈ zgt := zmem (List.mem_append_right _ (List.mem_append_left _ (List.mem_of_getElem? (i := 186) rfl))) rfl
theorem zwd_210 : (zy 210).cls ≠ "java/lang/invoke/MethodHandle" ∧ (zy 210).cls ≠ "java/lang/invoke/VarHandle" ∧ (parseMethodDescriptor (zy 210).desc).map (fun d => d.parameters.length) = some 2 := by decide +kernel
theorem zwi_211 : Cond.initialized (zy 211).cls ∈ zgt := zmem (List.mem_append_left _ (List.mem_of_getElem? (i := 4) rfl)) rfl
theorem zwn_211 : Cond.instanceMethod (zy 211) ∈ zgt := zmem (List.mem_append_right _ (List.mem_append_left _ (List.mem_of_getElem? (i := 181) rfl))) rfl
theorem zwl_211 : Cond.selects (zy 211).cls (zy 211) (zy 211) ∈ zgt := zmem (List.mem_append_right _ (List.mem_append_left _ (List.mem_of_getElem? (i := 182) rfl))) rfl
theorem zwd_211 : (zy 211).cls ≠ "java/lang/invoke/MethodHandle" ∧ (zy 211).cls ≠ "java/lang/invoke/VarHandle" ∧ (parseMethodDescriptor (zy 211).desc).map (fun d => d.parameters.length) = some 1 := by decide +kernel
theorem zwi_212 : Cond.initialized (zy 212).cls ∈ zgt := zmem (List.mem_append_left _ (List.mem_of_getElem? (i := 11) rfl)) rfl
theorem zws_212 : Cond.static (zy 212) ∈ zgt := zmem (List.mem_append_right _ (List.mem_append_left _ (List.mem_of_getElem? (i := 197) rfl))) rfl
theorem zwd_212 : (zy 212).cls ≠ "java/lang/invoke/MethodHandle" ∧ (zy 212).cls ≠ "java/lang/invoke/VarHandle" ∧ (parseMethodDescriptor (zy 212).desc).map (fun d => d.parameters.length) = some 1 := by decide +kernel
theorem zwi_213 : Cond.initialized (zy 213).cls ∈ zgt := zmem (List.mem_append_left _ (List.mem_of_getElem? (i := 11) rfl)) rfl
theorem zws_213 : Cond.static (zy 213) ∈ zgt := zmem (List.mem_append_right _ (List.mem_append_left _ (List.mem_of_getElem? (i := 202) rfl))) rfl
theorem zwd_213 : (zy 213).cls ≠ "java/lang/invoke/MethodHandle" ∧ (zy 213).cls ≠ "java/lang/invoke/VarHandle" ∧ (parseMethodDescriptor (zy 213).desc).map (fun d => d.parameters.length) = some 4 := by decide +kernel
theorem zwi_214 : Cond.initialized (zy 214).cls ∈ zgt := zmem (List.mem_append_left _ (List.mem_of_getElem? (i := 11) rfl)) rfl
theorem zws_214 : Cond.static (zy 214) ∈ zgt := zmem (List.mem_append_right _ (List.mem_append_left _ (List.mem_of_getElem? (i := 194) rfl))) rfl
theorem zwd_214 : (zy 214).cls ≠ "java/lang/invoke/MethodHandle" ∧ (zy 214).cls ≠ "java/lang/invoke/VarHandle" ∧ (parseMethodDescriptor (zy 214).desc).map (fun d => d.parameters.length) = some 4 := by decide +kernel
