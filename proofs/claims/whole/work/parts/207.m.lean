def S_X12_chargeColumn (a0 : Int32) (D : DD) : Option RT := (cI (S_X8_hasCharge a0 D) (fun r3 D2 => (if r3 = 0 then some (4, none, D2) else (cI (S_X8_cellOf a0 D2) (fun r6 D5 => some (0, some (.int (r6 - r6 / (6 : Int32) * (6 : Int32))), D5))))))
set_option maxRecDepth 100000 in
set_option maxHeartbeats 4000000 in
theorem c_X12_chargeColumn (l : Launch) (hfl : l.stackTraces = false) (G : va_G) (E : EE) (a0 : Int32) (D : DD) (r : RT) (h : S_X12_chargeColumn a0 D = some r) : MX l G E yX12_chargeColumn cX12_chargeColumn 2 (some .int) (rmx 6) [.ref (E.1 0), .int a0] D r := by
  refine mx_of rfl (Nat.le_of_ble_eq_true rfl) ?_
  intro p e s m args below meth c X hr ht
  unfold S_X12_chargeColumn at h
  refine g_aload_n X 0 (i0 := 0) dX12_chargeColumn_0 rfl rfl ?_
  refine g_get X (D := D) (v := .ref (E.1 1)) (T := TX12) 0 uX12 (wg_0 E _) rfl 0 (by decide) fl_X12_10 rfl rfl dX12_chargeColumn_1 ?_
  refine g_iload_n X 1 (i0 := 1) dX12_chargeColumn_4 rfl rfl ?_
  obtain ⟨r3, D2, e1, h⟩ := cI_s h
  refine g_V X (As := [.int a0]) (rest := []) (c_X8_hasCharge l G E a0 _ _ e1) 1 (wg_1 E _) rfl rfl kv_X12_170 ⟨rfl, rfl⟩ ⟨rfl, hd_X8_hasCharge⟩ (⟨Nat.le_of_ble_eq_true rfl, Nat.le_of_ble_eq_true rfl⟩) rfl rfl (Nat.le_of_ble_eq_true rfl) dX12_chargeColumn_5 ?_
  refine g_if_ne X (tgt := 21) dX12_chargeColumn_8 (by decide) (fun c7 => ?_) (fun c7 => ?_)
  · have h := (ite_s h).2 c7
    refine g_aload_n X 0 (i0 := 0) dX12_chargeColumn_21 rfl rfl ?_
    refine g_get X (D := D2) (v := .ref (E.1 1)) (T := TX12) 0 uX12 (wg_0 E _) rfl 0 (by decide) fl_X12_10 rfl rfl dX12_chargeColumn_22 ?_
    refine g_iload_n X 1 (i0 := 1) dX12_chargeColumn_25 rfl rfl ?_
    obtain ⟨r6, D5, e4, h⟩ := cI_s h
    refine g_V X (As := [.int a0]) (rest := []) (c_X8_cellOf l G E a0 _ _ e4) 1 (wg_1 E _) rfl rfl kv_X12_187 ⟨rfl, rfl⟩ ⟨rfl, hd_X8_cellOf⟩ (⟨Nat.le_of_ble_eq_true rfl, Nat.le_of_ble_eq_true rfl⟩) rfl rfl (Nat.le_of_ble_eq_true rfl) dX12_chargeColumn_26 ?_
    refine g_bipush X (v := (6 : Int32)) dX12_chargeColumn_29 (by decide) ?_
    refine g_irem X (by decide) dX12_chargeColumn_31 ?_
    exact gx_iret X hr rfl dX12_chargeColumn_32 (Option.some.inj h)
  · have h := (ite_s h).1 c7
    exact gx_throw X hfl ht (by decide +kernel) (by decide +kernel) wcl_X12_173 wini_4 wst_X12_175 wat_X12_177 wgo_X12_177 dX12_chargeColumn_11 dX12_chargeColumn_14 dX12_chargeColumn_15 dX12_chargeColumn_17 dX12_chargeColumn_20 (Nat.le_of_ble_eq_true rfl) (Nat.le_of_ble_eq_true rfl) (Nat.le_of_ble_eq_true rfl) (Nat.le_of_ble_eq_true rfl) (k := 4) (by decide) rfl (Option.some.inj h)
theorem kv_X12_190 : GoodIn UT (wsV RX12 190 RX8 yX8_strengthOf (Cond.code yX8_strengthOf cX8_strengthOf 2 (some .int) :: UT)) := gu_V (ut 965 (by decide +kernel) (by decide +kernel)) wm_X8_strengthOf we_X8_strengthOf wi_RX8 wc_X8_strengthOf
def S_X12_chargeStrength (a0 : Int32) (D : DD) : Option RT := (cI (S_X8_hasCharge a0 D) (fun r3 D2 => (if r3 = 0 then some (4, none, D2) else (cI (S_X8_strengthOf a0 D2) (fun r6 D5 => some (0, some (.int r6), D5))))))
set_option maxRecDepth 100000 in
set_option maxHeartbeats 4000000 in
theorem c_X12_chargeStrength (l : Launch) (hfl : l.stackTraces = false) (G : va_G) (E : EE) (a0 : Int32) (D : DD) (r : RT) (h : S_X12_chargeStrength a0 D = some r) : MX l G E yX12_chargeStrength cX12_chargeStrength 2 (some .int) (rmx 6) [.ref (E.1 0), .int a0] D r := by
  refine mx_of rfl (Nat.le_of_ble_eq_true rfl) ?_
  intro p e s m args below meth c X hr ht
  unfold S_X12_chargeStrength at h
  refine g_aload_n X 0 (i0 := 0) dX12_chargeStrength_0 rfl rfl ?_
  refine g_get X (D := D) (v := .ref (E.1 1)) (T := TX12) 0 uX12 (wg_0 E _) rfl 0 (by decide) fl_X12_10 rfl rfl dX12_chargeStrength_1 ?_
  refine g_iload_n X 1 (i0 := 1) dX12_chargeStrength_4 rfl rfl ?_
  obtain ⟨r3, D2, e1, h⟩ := cI_s h
  refine g_V X (As := [.int a0]) (rest := []) (c_X8_hasCharge l G E a0 _ _ e1) 1 (wg_1 E _) rfl rfl kv_X12_170 ⟨rfl, rfl⟩ ⟨rfl, hd_X8_hasCharge⟩ (⟨Nat.le_of_ble_eq_true rfl, Nat.le_of_ble_eq_true rfl⟩) rfl rfl (Nat.le_of_ble_eq_true rfl) dX12_chargeStrength_5 ?_
  refine g_if_ne X (tgt := 21) dX12_chargeStrength_8 (by decide) (fun c7 => ?_) (fun c7 => ?_)
  · have h := (ite_s h).2 c7
    refine g_aload_n X 0 (i0 := 0) dX12_chargeStrength_21 rfl rfl ?_
    refine g_get X (D := D2) (v := .ref (E.1 1)) (T := TX12) 0 uX12 (wg_0 E _) rfl 0 (by decide) fl_X12_10 rfl rfl dX12_chargeStrength_22 ?_
    refine g_iload_n X 1 (i0 := 1) dX12_chargeStrength_25 rfl rfl ?_
    obtain ⟨r6, D5, e4, h⟩ := cI_s h
    refine g_V X (As := [.int a0]) (rest := []) (c_X8_strengthOf l G E a0 _ _ e4) 1 (wg_1 E _) rfl rfl kv_X12_190 ⟨rfl, rfl⟩ ⟨rfl, hd_X8_strengthOf⟩ (⟨Nat.le_of_ble_eq_true rfl, Nat.le_of_ble_eq_true rfl⟩) rfl rfl (Nat.le_of_ble_eq_true rfl) dX12_chargeStrength_26 ?_
    exact gx_iret X hr rfl dX12_chargeStrength_29 (Option.some.inj h)
  · have h := (ite_s h).1 c7
    exact gx_throw X hfl ht (by decide +kernel) (by decide +kernel) wcl_X12_173 wini_4 wst_X12_175 wat_X12_177 wgo_X12_177 dX12_chargeStrength_11 dX12_chargeStrength_14 dX12_chargeStrength_15 dX12_chargeStrength_17 dX12_chargeStrength_20 (Nat.le_of_ble_eq_true rfl) (Nat.le_of_ble_eq_true rfl) (Nat.le_of_ble_eq_true rfl) (Nat.le_of_ble_eq_true rfl) (k := 4) (by decide) rfl (Option.some.inj h)
theorem fl_X12_197 : Cond.fieldLink RX12 197 "StoneQuarry$Blast" "explodedCount" "I" ∈ UT := ut 204 (by decide +kernel) (by decide +kernel)
def S_X12_chainOf (a0 : Int32) (D : DD) : Option RT := (cI (S_X8_hasCharge a0 D) (fun r3 D2 => (if r3 = 0 then some (4, none, D2) else (cV (S_X1_run a0 D2) (fun D5 => some (0, some (.int (D5.1 126)), D5))))))
set_option maxRecDepth 100000 in
set_option maxHeartbeats 4000000 in
theorem c_X12_chainOf (l : Launch) (hfl : l.stackTraces = false) (G : va_G) (E : EE) (a0 : Int32) (D : DD) (r : RT) (h : S_X12_chainOf a0 D = some r) : MX l G E yX12_chainOf cX12_chainOf 2 (some .int) (rmx 6) [.ref (E.1 0), .int a0] D r := by
  refine mx_of rfl (Nat.le_of_ble_eq_true rfl) ?_
  intro p e s m args below meth c X hr ht
  unfold S_X12_chainOf at h
  refine g_aload_n X 0 (i0 := 0) dX12_chainOf_0 rfl rfl ?_
  refine g_get X (D := D) (v := .ref (E.1 1)) (T := TX12) 0 uX12 (wg_0 E _) rfl 0 (by decide) fl_X12_10 rfl rfl dX12_chainOf_1 ?_
  refine g_iload_n X 1 (i0 := 1) dX12_chainOf_4 rfl rfl ?_
  obtain ⟨r3, D2, e1, h⟩ := cI_s h
  refine g_V X (As := [.int a0]) (rest := []) (c_X8_hasCharge l G E a0 _ _ e1) 1 (wg_1 E _) rfl rfl kv_X12_170 ⟨rfl, rfl⟩ ⟨rfl, hd_X8_hasCharge⟩ (⟨Nat.le_of_ble_eq_true rfl, Nat.le_of_ble_eq_true rfl⟩) rfl rfl (Nat.le_of_ble_eq_true rfl) dX12_chainOf_5 ?_
  refine g_if_ne X (tgt := 21) dX12_chainOf_8 (by decide) (fun c6 => ?_) (fun c6 => ?_)
  · have h := (ite_s h).2 c6
    refine g_aload_n X 0 (i0 := 0) dX12_chainOf_21 rfl rfl ?_
    refine g_get X (D := D2) (v := .ref (E.1 61)) (T := TX12) 0 uX12 (wg_0 E _) rfl 5 (by decide) fl_X12_39 rfl rfl dX12_chainOf_22 ?_
    refine g_aload_n X 0 (i0 := 0) dX12_chainOf_25 rfl rfl ?_
    refine g_get X (D := D2) (v := .ref (E.1 1)) (T := TX12) 0 uX12 (wg_0 E _) rfl 0 (by decide) fl_X12_10 rfl rfl dX12_chainOf_26 ?_
    refine g_iload_n X 1 (i0 := 1) dX12_chainOf_29 rfl rfl ?_
    obtain ⟨D5, e4, h⟩ := cV_s h
    refine g_V X (As := [.ref (E.1 1), .int a0]) (rest := []) (c_X1_run l G E a0 _ _ e4) 61 (wg_61 E _) rfl rfl kv_X12_193 ⟨rfl, rfl⟩ ⟨rfl, hd_X1_run⟩ (⟨Nat.le_of_ble_eq_true rfl, Nat.le_of_ble_eq_true rfl⟩) rfl rfl (Nat.le_of_ble_eq_true rfl) dX12_chainOf_30 ?_
    refine g_aload_n X 0 (i0 := 0) dX12_chainOf_33 rfl rfl ?_
    refine g_get X (D := D5) (v := .ref (E.1 61)) (T := TX12) 0 uX12 (wg_0 E _) rfl 5 (by decide) fl_X12_39 rfl rfl dX12_chainOf_34 ?_
    refine g_get X (D := D5) (v := .int (D5.1 126)) (T := TX1) 61 uX1 (wg_61 E _) rfl 3 (by decide) fl_X12_197 rfl rfl dX12_chainOf_37 ?_
    exact gx_iret X hr rfl dX12_chainOf_40 (Option.some.inj h)
  · have h := (ite_s h).1 c6
    exact gx_throw X hfl ht (by decide +kernel) (by decide +kernel) wcl_X12_173 wini_4 wst_X12_175 wat_X12_177 wgo_X12_177 dX12_chainOf_11 dX12_chainOf_14 dX12_chainOf_15 dX12_chainOf_17 dX12_chainOf_20 (Nat.le_of_ble_eq_true rfl) (Nat.le_of_ble_eq_true rfl) (Nat.le_of_ble_eq_true rfl) (Nat.le_of_ble_eq_true rfl) (k := 4) (by decide) rfl (Option.some.inj h)
theorem hd_X1_countByRounds : yX1_countByRounds.cls ≠ "java/lang/invoke/MethodHandle" ∧ yX1_countByRounds.cls ≠ "java/lang/invoke/VarHandle" ∧ (parseMethodDescriptor yX1_countByRounds.desc).map (fun d => d.parameters.length) = some 2 := by decide +kernel
theorem wc_X1_countByRounds : Cond.code yX1_countByRounds cX1_countByRounds 5 (some .int) ∈ UT := ut 529 (by decide +kernel) (by decide +kernel)
theorem we_X1_countByRounds : Cond.selects RX1 yX1_countByRounds yX1_countByRounds ∈ UT := ut 528 (by decide +kernel) (by decide +kernel)
theorem wm_X1_countByRounds : Cond.instanceMethod yX1_countByRounds ∈ UT := ut 527 (by decide +kernel) (by decide +kernel)
theorem kv_X12_200 : GoodIn UT (wsV RX12 200 RX1 yX1_countByRounds (Cond.code yX1_countByRounds cX1_countByRounds 5 (some .int) :: UT)) := gu_V (ut 526 (by decide +kernel) (by decide +kernel)) wm_X1_countByRounds we_X1_countByRounds wi_RX1 wc_X1_countByRounds
def S_X12_chainByRounds (a0 : Int32) (D : DD) : Option RT := (cI (S_X8_hasCharge a0 D) (fun r3 D2 => (if r3 = 0 then some (4, none, D2) else (cI (S_X1_countByRounds a0 D2) (fun r6 D5 => some (0, some (.int r6), D5))))))
set_option maxRecDepth 100000 in
set_option maxHeartbeats 4000000 in
theorem c_X12_chainByRounds (l : Launch) (hfl : l.stackTraces = false) (G : va_G) (E : EE) (a0 : Int32) (D : DD) (r : RT) (h : S_X12_chainByRounds a0 D = some r) : MX l G E yX12_chainByRounds cX12_chainByRounds 2 (some .int) (rmx 6) [.ref (E.1 0), .int a0] D r := by
  refine mx_of rfl (Nat.le_of_ble_eq_true rfl) ?_
  intro p e s m args below meth c X hr ht
  unfold S_X12_chainByRounds at h
  refine g_aload_n X 0 (i0 := 0) dX12_chainByRounds_0 rfl rfl ?_
  refine g_get X (D := D) (v := .ref (E.1 1)) (T := TX12) 0 uX12 (wg_0 E _) rfl 0 (by decide) fl_X12_10 rfl rfl dX12_chainByRounds_1 ?_
  refine g_iload_n X 1 (i0 := 1) dX12_chainByRounds_4 rfl rfl ?_
  obtain ⟨r3, D2, e1, h⟩ := cI_s h
  refine g_V X (As := [.int a0]) (rest := []) (c_X8_hasCharge l G E a0 _ _ e1) 1 (wg_1 E _) rfl rfl kv_X12_170 ⟨rfl, rfl⟩ ⟨rfl, hd_X8_hasCharge⟩ (⟨Nat.le_of_ble_eq_true rfl, Nat.le_of_ble_eq_true rfl⟩) rfl rfl (Nat.le_of_ble_eq_true rfl) dX12_chainByRounds_5 ?_
  refine g_if_ne X (tgt := 21) dX12_chainByRounds_8 (by decide) (fun c7 => ?_) (fun c7 => ?_)
  · have h := (ite_s h).2 c7
    refine g_aload_n X 0 (i0 := 0) dX12_chainByRounds_21 rfl rfl ?_
    refine g_get X (D := D2) (v := .ref (E.1 61)) (T := TX12) 0 uX12 (wg_0 E _) rfl 5 (by decide) fl_X12_39 rfl rfl dX12_chainByRounds_22 ?_
    refine g_aload_n X 0 (i0 := 0) dX12_chainByRounds_25 rfl rfl ?_
    refine g_get X (D := D2) (v := .ref (E.1 1)) (T := TX12) 0 uX12 (wg_0 E _) rfl 0 (by decide) fl_X12_10 rfl rfl dX12_chainByRounds_26 ?_
    refine g_iload_n X 1 (i0 := 1) dX12_chainByRounds_29 rfl rfl ?_
    obtain ⟨r6, D5, e4, h⟩ := cI_s h
    refine g_V X (As := [.ref (E.1 1), .int a0]) (rest := []) (c_X1_countByRounds l G E a0 _ _ e4) 61 (wg_61 E _) rfl rfl kv_X12_200 ⟨rfl, rfl⟩ ⟨rfl, hd_X1_countByRounds⟩ (⟨Nat.le_of_ble_eq_true rfl, Nat.le_of_ble_eq_true rfl⟩) rfl rfl (Nat.le_of_ble_eq_true rfl) dX12_chainByRounds_30 ?_
    exact gx_iret X hr rfl dX12_chainByRounds_33 (Option.some.inj h)
  · have h := (ite_s h).1 c7
    exact gx_throw X hfl ht (by decide +kernel) (by decide +kernel) wcl_X12_173 wini_4 wst_X12_175 wat_X12_177 wgo_X12_177 dX12_chainByRounds_11 dX12_chainByRounds_14 dX12_chainByRounds_15 dX12_chainByRounds_17 dX12_chainByRounds_20 (Nat.le_of_ble_eq_true rfl) (Nat.le_of_ble_eq_true rfl) (Nat.le_of_ble_eq_true rfl) (Nat.le_of_ble_eq_true rfl) (k := 4) (by decide) rfl (Option.some.inj h)
def S_X12_opensOf (a0 : Int32) (D : DD) : Option RT := (cI (S_X8_hasCharge a0 D) (fun r3 D2 => (if r3 = 0 then some (4, none, D2) else (cV (S_X1_run a0 D2) (fun D5 => some (0, some (.int (D5.1 127)), D5))))))
set_option maxRecDepth 100000 in
set_option maxHeartbeats 4000000 in
theorem c_X12_opensOf (l : Launch) (hfl : l.stackTraces = false) (G : va_G) (E : EE) (a0 : Int32) (D : DD) (r : RT) (h : S_X12_opensOf a0 D = some r) : MX l G E yX12_opensOf cX12_opensOf 2 (some .int) (rmx 6) [.ref (E.1 0), .int a0] D r := by
  refine mx_of rfl (Nat.le_of_ble_eq_true rfl) ?_
  intro p e s m args below meth c X hr ht
  unfold S_X12_opensOf at h
  refine g_aload_n X 0 (i0 := 0) dX12_opensOf_0 rfl rfl ?_
  refine g_get X (D := D) (v := .ref (E.1 1)) (T := TX12) 0 uX12 (wg_0 E _) rfl 0 (by decide) fl_X12_10 rfl rfl dX12_opensOf_1 ?_
  refine g_iload_n X 1 (i0 := 1) dX12_opensOf_4 rfl rfl ?_
  obtain ⟨r3, D2, e1, h⟩ := cI_s h
  refine g_V X (As := [.int a0]) (rest := []) (c_X8_hasCharge l G E a0 _ _ e1) 1 (wg_1 E _) rfl rfl kv_X12_170 ⟨rfl, rfl⟩ ⟨rfl, hd_X8_hasCharge⟩ (⟨Nat.le_of_ble_eq_true rfl, Nat.le_of_ble_eq_true rfl⟩) rfl rfl (Nat.le_of_ble_eq_true rfl) dX12_opensOf_5 ?_
  refine g_if_ne X (tgt := 21) dX12_opensOf_8 (by decide) (fun c6 => ?_) (fun c6 => ?_)
  · have h := (ite_s h).2 c6
    refine g_aload_n X 0 (i0 := 0) dX12_opensOf_21 rfl rfl ?_
    refine g_get X (D := D2) (v := .ref (E.1 61)) (T := TX12) 0 uX12 (wg_0 E _) rfl 5 (by decide) fl_X12_39 rfl rfl dX12_opensOf_22 ?_
    refine g_aload_n X 0 (i0 := 0) dX12_opensOf_25 rfl rfl ?_
    refine g_get X (D := D2) (v := .ref (E.1 1)) (T := TX12) 0 uX12 (wg_0 E _) rfl 0 (by decide) fl_X12_10 rfl rfl dX12_opensOf_26 ?_
    refine g_iload_n X 1 (i0 := 1) dX12_opensOf_29 rfl rfl ?_
    obtain ⟨D5, e4, h⟩ := cV_s h
    refine g_V X (As := [.ref (E.1 1), .int a0]) (rest := []) (c_X1_run l G E a0 _ _ e4) 61 (wg_61 E _) rfl rfl kv_X12_193 ⟨rfl, rfl⟩ ⟨rfl, hd_X1_run⟩ (⟨Nat.le_of_ble_eq_true rfl, Nat.le_of_ble_eq_true rfl⟩) rfl rfl (Nat.le_of_ble_eq_true rfl) dX12_opensOf_30 ?_
    refine g_aload_n X 0 (i0 := 0) dX12_opensOf_33 rfl rfl ?_
    refine g_get X (D := D5) (v := .ref (E.1 61)) (T := TX12) 0 uX12 (wg_0 E _) rfl 5 (by decide) fl_X12_39 rfl rfl dX12_opensOf_34 ?_
    refine g_get X (D := D5) (v := .int (D5.1 127)) (T := TX1) 61 uX1 (wg_61 E _) rfl 4 (by decide) fl_X12_203 rfl rfl dX12_opensOf_37 ?_
    exact gx_iret X hr rfl dX12_opensOf_40 (Option.some.inj h)
  · have h := (ite_s h).1 c6
    exact gx_throw X hfl ht (by decide +kernel) (by decide +kernel) wcl_X12_173 wini_4 wst_X12_175 wat_X12_177 wgo_X12_177 dX12_opensOf_11 dX12_opensOf_14 dX12_opensOf_15 dX12_opensOf_17 dX12_opensOf_20 (Nat.le_of_ble_eq_true rfl) (Nat.le_of_ble_eq_true rfl) (Nat.le_of_ble_eq_true rfl) (Nat.le_of_ble_eq_true rfl) (k := 4) (by decide) rfl (Option.some.inj h)
theorem fl_X12_46 : Cond.fieldLink RX12 46 "StoneQuarry" "tunnels" "LStoneQuarry$Tunnels;" ∈ UT := ut 321 (by decide +kernel) (by decide +kernel)
theorem hd_X10_costByNearest : yX10_costByNearest.cls ≠ "java/lang/invoke/MethodHandle" ∧ yX10_costByNearest.cls ≠ "java/lang/invoke/VarHandle" ∧ (parseMethodDescriptor yX10_costByNearest.desc).map (fun d => d.parameters.length) = some 1 := by decide +kernel
theorem wc_X10_costByNearest : Cond.code yX10_costByNearest cX10_costByNearest 4 (some .int) ∈ UT := ut 380 (by decide +kernel) (by decide +kernel)
theorem we_X10_costByNearest : Cond.selects RX10 yX10_costByNearest yX10_costByNearest ∈ UT := ut 379 (by decide +kernel) (by decide +kernel)
theorem wm_X10_costByNearest : Cond.instanceMethod yX10_costByNearest ∈ UT := ut 378 (by decide +kernel) (by decide +kernel)
theorem kv_X12_211 : GoodIn UT (wsV RX12 211 RX10 yX10_costByNearest (Cond.code yX10_costByNearest cX10_costByNearest 4 (some .int) :: UT)) := gu_V (ut 377 (by decide +kernel) (by decide +kernel)) wm_X10_costByNearest we_X10_costByNearest wi_RX10 wc_X10_costByNearest
def S_X12_tunnelCost  (D : DD) : Option RT := (cI (S_X10_costByNearest D) (fun r3 D2 => some (0, some (.int r3), D2)))
set_option maxRecDepth 100000 in
set_option maxHeartbeats 4000000 in
theorem c_X12_tunnelCost (l : Launch) (G : va_G) (E : EE)  (D : DD) (r : RT) (h : S_X12_tunnelCost  D = some r) : MM l G E yX12_tunnelCost cX12_tunnelCost 1 (some .int) (rmm 4) [.ref (E.1 0)] D r := by
  refine m_of rfl (Nat.le_of_ble_eq_true rfl) ?_
  intro p e s m args below meth c X hr
  unfold S_X12_tunnelCost at h
  refine g_aload_n X 0 (i0 := 0) dX12_tunnelCost_0 rfl rfl ?_
  refine g_get X (D := D) (v := .ref (E.1 65)) (T := TX12) 0 uX12 (wg_0 E _) rfl 6 (by decide) fl_X12_46 rfl rfl dX12_tunnelCost_1 ?_
  refine g_aload_n X 0 (i0 := 0) dX12_tunnelCost_4 rfl rfl ?_
  refine g_get X (D := D) (v := .ref (E.1 1)) (T := TX12) 0 uX12 (wg_0 E _) rfl 0 (by decide) fl_X12_10 rfl rfl dX12_tunnelCost_5 ?_
  obtain ⟨r3, D2, e1, h⟩ := cI_s h
  refine g_V X (As := [.ref (E.1 1)]) (rest := []) (c_X10_costByNearest l G E  _ _ e1) 65 (wg_65 E _) rfl rfl kv_X12_211 ⟨rfl, rfl⟩ ⟨rfl, hd_X10_costByNearest⟩ (⟨Nat.le_of_ble_eq_true rfl, Nat.le_of_ble_eq_true rfl⟩) rfl rfl (Nat.le_of_ble_eq_true rfl) dX12_tunnelCost_8 ?_
  exact g_iret X hr rfl dX12_tunnelCost_11 (Option.some.inj h)
theorem hd_X10_costByRounds : yX10_costByRounds.cls ≠ "java/lang/invoke/MethodHandle" ∧ yX10_costByRounds.cls ≠ "java/lang/invoke/VarHandle" ∧ (parseMethodDescriptor yX10_costByRounds.desc).map (fun d => d.parameters.length) = some 1 := by decide +kernel
theorem wc_X10_costByRounds : Cond.code yX10_costByRounds cX10_costByRounds 5 (some .int) ∈ UT := ut 425 (by decide +kernel) (by decide +kernel)
theorem we_X10_costByRounds : Cond.selects RX10 yX10_costByRounds yX10_costByRounds ∈ UT := ut 424 (by decide +kernel) (by decide +kernel)
theorem wm_X10_costByRounds : Cond.instanceMethod yX10_costByRounds ∈ UT := ut 423 (by decide +kernel) (by decide +kernel)
theorem kv_X12_215 : GoodIn UT (wsV RX12 215 RX10 yX10_costByRounds (Cond.code yX10_costByRounds cX10_costByRounds 5 (some .int) :: UT)) := gu_V (ut 422 (by decide +kernel) (by decide +kernel)) wm_X10_costByRounds we_X10_costByRounds wi_RX10 wc_X10_costByRounds
def S_X12_tunnelByRounds  (D : DD) : Option RT := (cI (S_X10_costByRounds D) (fun r3 D2 => some (0, some (.int r3), D2)))
set_option maxRecDepth 100000 in
set_option maxHeartbeats 4000000 in
theorem c_X12_tunnelByRounds (l : Launch) (G : va_G) (E : EE)  (D : DD) (r : RT) (h : S_X12_tunnelByRounds  D = some r) : MM l G E yX12_tunnelByRounds cX12_tunnelByRounds 1 (some .int) (rmm 4) [.ref (E.1 0)] D r := by
  refine m_of rfl (Nat.le_of_ble_eq_true rfl) ?_
  intro p e s m args below meth c X hr
  unfold S_X12_tunnelByRounds at h
  refine g_aload_n X 0 (i0 := 0) dX12_tunnelByRounds_0 rfl rfl ?_
  refine g_get X (D := D) (v := .ref (E.1 65)) (T := TX12) 0 uX12 (wg_0 E _) rfl 6 (by decide) fl_X12_46 rfl rfl dX12_tunnelByRounds_1 ?_
  refine g_aload_n X 0 (i0 := 0) dX12_tunnelByRounds_4 rfl rfl ?_
  refine g_get X (D := D) (v := .ref (E.1 1)) (T := TX12) 0 uX12 (wg_0 E _) rfl 0 (by decide) fl_X12_10 rfl rfl dX12_tunnelByRounds_5 ?_
  obtain ⟨r3, D2, e1, h⟩ := cI_s h
  refine g_V X (As := [.ref (E.1 1)]) (rest := []) (c_X10_costByRounds l G E  _ _ e1) 65 (wg_65 E _) rfl rfl kv_X12_215 ⟨rfl, rfl⟩ ⟨rfl, hd_X10_costByRounds⟩ (⟨Nat.le_of_ble_eq_true rfl, Nat.le_of_ble_eq_true rfl⟩) rfl rfl (Nat.le_of_ble_eq_true rfl) dX12_tunnelByRounds_8 ?_
  exact g_iret X hr rfl dX12_tunnelByRounds_11 (Option.some.inj h)
theorem fl_X12_53 : Cond.fieldLink RX12 53 "StoneQuarry" "slabs" "LStoneQuarry$Slabs;" ∈ UT := ut 322 (by decide +kernel) (by decide +kernel)
theorem hd_X9_countByMoving : yX9_countByMoving.cls ≠ "java/lang/invoke/MethodHandle" ∧ yX9_countByMoving.cls ≠ "java/lang/invoke/VarHandle" ∧ (parseMethodDescriptor yX9_countByMoving.desc).map (fun d => d.parameters.length) = some 1 := by decide +kernel
theorem wc_X9_countByMoving : Cond.code yX9_countByMoving cX9_countByMoving 4 (some .int) ∈ UT := ut 433 (by decide +kernel) (by decide +kernel)
theorem we_X9_countByMoving : Cond.selects RX9 yX9_countByMoving yX9_countByMoving ∈ UT := ut 432 (by decide +kernel) (by decide +kernel)
theorem wm_X9_countByMoving : Cond.instanceMethod yX9_countByMoving ∈ UT := ut 431 (by decide +kernel) (by decide +kernel)
theorem kv_X12_218 : GoodIn UT (wsV RX12 218 RX9 yX9_countByMoving (Cond.code yX9_countByMoving cX9_countByMoving 4 (some .int) :: UT)) := gu_V (ut 430 (by decide +kernel) (by decide +kernel)) wm_X9_countByMoving we_X9_countByMoving wi_RX9 wc_X9_countByMoving
def S_X12_mostSlabs  (D : DD) : Option RT := (cI (S_X9_countByMoving D) (fun r3 D2 => some (0, some (.int r3), D2)))
set_option maxRecDepth 100000 in
set_option maxHeartbeats 4000000 in
theorem c_X12_mostSlabs (l : Launch) (G : va_G) (E : EE)  (D : DD) (r : RT) (h : S_X12_mostSlabs  D = some r) : MM l G E yX12_mostSlabs cX12_mostSlabs 1 (some .int) (rmm 44) [.ref (E.1 0)] D r := by
  refine m_of rfl (Nat.le_of_ble_eq_true rfl) ?_
  intro p e s m args below meth c X hr
  unfold S_X12_mostSlabs at h
  refine g_aload_n X 0 (i0 := 0) dX12_mostSlabs_0 rfl rfl ?_
  refine g_get X (D := D) (v := .ref (E.1 68)) (T := TX12) 0 uX12 (wg_0 E _) rfl 7 (by decide) fl_X12_53 rfl rfl dX12_mostSlabs_1 ?_
  refine g_aload_n X 0 (i0 := 0) dX12_mostSlabs_4 rfl rfl ?_
  refine g_get X (D := D) (v := .ref (E.1 1)) (T := TX12) 0 uX12 (wg_0 E _) rfl 0 (by decide) fl_X12_10 rfl rfl dX12_mostSlabs_5 ?_
  obtain ⟨r3, D2, e1, h⟩ := cI_s h
  refine g_V X (As := [.ref (E.1 1)]) (rest := []) (c_X9_countByMoving l G E  _ _ e1) 68 (wg_68 E _) rfl rfl kv_X12_218 ⟨rfl, rfl⟩ ⟨rfl, hd_X9_countByMoving⟩ (⟨Nat.le_of_ble_eq_true rfl, Nat.le_of_ble_eq_true rfl⟩) rfl rfl (Nat.le_of_ble_eq_true rfl) dX12_mostSlabs_8 ?_
  exact g_iret X hr rfl dX12_mostSlabs_11 (Option.some.inj h)
theorem hd_X9_countByCells : yX9_countByCells.cls ≠ "java/lang/invoke/MethodHandle" ∧ yX9_countByCells.cls ≠ "java/lang/invoke/VarHandle" ∧ (parseMethodDescriptor yX9_countByCells.desc).map (fun d => d.parameters.length) = some 1 := by decide +kernel
theorem wc_X9_countByCells : Cond.code yX9_countByCells cX9_countByCells 4 (some .int) ∈ UT := ut 452 (by decide +kernel) (by decide +kernel)
theorem we_X9_countByCells : Cond.selects RX9 yX9_countByCells yX9_countByCells ∈ UT := ut 451 (by decide +kernel) (by decide +kernel)
theorem wm_X9_countByCells : Cond.instanceMethod yX9_countByCells ∈ UT := ut 450 (by decide +kernel) (by decide +kernel)
theorem kv_X12_221 : GoodIn UT (wsV RX12 221 RX9 yX9_countByCells (Cond.code yX9_countByCells cX9_countByCells 4 (some .int) :: UT)) := gu_V (ut 449 (by decide +kernel) (by decide +kernel)) wm_X9_countByCells we_X9_countByCells wi_RX9 wc_X9_countByCells
def S_X12_slabsByCells  (D : DD) : Option RT := (cI (S_X9_countByCells D) (fun r3 D2 => some (0, some (.int r3), D2)))
set_option maxRecDepth 100000 in
set_option maxHeartbeats 4000000 in
theorem c_X12_slabsByCells (l : Launch) (G : va_G) (E : EE)  (D : DD) (r : RT) (h : S_X12_slabsByCells  D = some r) : MM l G E yX12_slabsByCells cX12_slabsByCells 1 (some .int) (rmm 4) [.ref (E.1 0)] D r := by
  refine m_of rfl (Nat.le_of_ble_eq_true rfl) ?_
  intro p e s m args below meth c X hr
  unfold S_X12_slabsByCells at h
  refine g_aload_n X 0 (i0 := 0) dX12_slabsByCells_0 rfl rfl ?_
  refine g_get X (D := D) (v := .ref (E.1 68)) (T := TX12) 0 uX12 (wg_0 E _) rfl 7 (by decide) fl_X12_53 rfl rfl dX12_slabsByCells_1 ?_
  refine g_aload_n X 0 (i0 := 0) dX12_slabsByCells_4 rfl rfl ?_
  refine g_get X (D := D) (v := .ref (E.1 1)) (T := TX12) 0 uX12 (wg_0 E _) rfl 0 (by decide) fl_X12_10 rfl rfl dX12_slabsByCells_5 ?_
  obtain ⟨r3, D2, e1, h⟩ := cI_s h
  refine g_V X (As := [.ref (E.1 1)]) (rest := []) (c_X9_countByCells l G E  _ _ e1) 68 (wg_68 E _) rfl rfl kv_X12_221 ⟨rfl, rfl⟩ ⟨rfl, hd_X9_countByCells⟩ (⟨Nat.le_of_ble_eq_true rfl, Nat.le_of_ble_eq_true rfl⟩) rfl rfl (Nat.le_of_ble_eq_true rfl) dX12_slabsByCells_8 ?_
  exact g_iret X hr rfl dX12_slabsByCells_11 (Option.some.inj h)
theorem fl_X12_60 : Cond.fieldLink RX12 60 "StoneQuarry" "blocks" "LStoneQuarry$Blocks;" ∈ UT := ut 323 (by decide +kernel) (by decide +kernel)
theorem hd_X2_sizeByRectangles : yX2_sizeByRectangles.cls ≠ "java/lang/invoke/MethodHandle" ∧ yX2_sizeByRectangles.cls ≠ "java/lang/invoke/VarHandle" ∧ (parseMethodDescriptor yX2_sizeByRectangles.desc).map (fun d => d.parameters.length) = some 1 := by decide +kernel
theorem wc_X2_sizeByRectangles : Cond.code yX2_sizeByRectangles cX2_sizeByRectangles 5 (some .int) ∈ UT := ut 471 (by decide +kernel) (by decide +kernel)
theorem we_X2_sizeByRectangles : Cond.selects RX2 yX2_sizeByRectangles yX2_sizeByRectangles ∈ UT := ut 470 (by decide +kernel) (by decide +kernel)
theorem wm_X2_sizeByRectangles : Cond.instanceMethod yX2_sizeByRectangles ∈ UT := ut 469 (by decide +kernel) (by decide +kernel)
theorem kv_X12_224 : GoodIn UT (wsV RX12 224 RX2 yX2_sizeByRectangles (Cond.code yX2_sizeByRectangles cX2_sizeByRectangles 5 (some .int) :: UT)) := gu_V (ut 468 (by decide +kernel) (by decide +kernel)) wm_X2_sizeByRectangles we_X2_sizeByRectangles wi_RX2 wc_X2_sizeByRectangles
def S_X12_largestBlock  (D : DD) : Option RT := (cI (S_X2_sizeByRectangles D) (fun r3 D2 => some (0, some (.int r3), D2)))
set_option maxRecDepth 100000 in
set_option maxHeartbeats 4000000 in
theorem c_X12_largestBlock (l : Launch) (G : va_G) (E : EE)  (D : DD) (r : RT) (h : S_X12_largestBlock  D = some r) : MM l G E yX12_largestBlock cX12_largestBlock 1 (some .int) (rmm 5) [.ref (E.1 0)] D r := by
  refine m_of rfl (Nat.le_of_ble_eq_true rfl) ?_
  intro p e s m args below meth c X hr
  unfold S_X12_largestBlock at h
  refine g_aload_n X 0 (i0 := 0) dX12_largestBlock_0 rfl rfl ?_
  refine g_get X (D := D) (v := .ref (E.1 73)) (T := TX12) 0 uX12 (wg_0 E _) rfl 8 (by decide) fl_X12_60 rfl rfl dX12_largestBlock_1 ?_
  refine g_aload_n X 0 (i0 := 0) dX12_largestBlock_4 rfl rfl ?_
  refine g_get X (D := D) (v := .ref (E.1 1)) (T := TX12) 0 uX12 (wg_0 E _) rfl 0 (by decide) fl_X12_10 rfl rfl dX12_largestBlock_5 ?_
  obtain ⟨r3, D2, e1, h⟩ := cI_s h
  refine g_V X (As := [.ref (E.1 1)]) (rest := []) (c_X2_sizeByRectangles l G E  _ _ e1) 73 (wg_73 E _) rfl rfl kv_X12_224 ⟨rfl, rfl⟩ ⟨rfl, hd_X2_sizeByRectangles⟩ (⟨Nat.le_of_ble_eq_true rfl, Nat.le_of_ble_eq_true rfl⟩) rfl rfl (Nat.le_of_ble_eq_true rfl) dX12_largestBlock_8 ?_
  exact g_iret X hr rfl dX12_largestBlock_11 (Option.some.inj h)
theorem hd_X2_sizeByHeights : yX2_sizeByHeights.cls ≠ "java/lang/invoke/MethodHandle" ∧ yX2_sizeByHeights.cls ≠ "java/lang/invoke/VarHandle" ∧ (parseMethodDescriptor yX2_sizeByHeights.desc).map (fun d => d.parameters.length) = some 1 := by decide +kernel
theorem wc_X2_sizeByHeights : Cond.code yX2_sizeByHeights cX2_sizeByHeights 5 (some .int) ∈ UT := ut 490 (by decide +kernel) (by decide +kernel)
theorem we_X2_sizeByHeights : Cond.selects RX2 yX2_sizeByHeights yX2_sizeByHeights ∈ UT := ut 489 (by decide +kernel) (by decide +kernel)
theorem wm_X2_sizeByHeights : Cond.instanceMethod yX2_sizeByHeights ∈ UT := ut 488 (by decide +kernel) (by decide +kernel)
theorem kv_X12_227 : GoodIn UT (wsV RX12 227 RX2 yX2_sizeByHeights (Cond.code yX2_sizeByHeights cX2_sizeByHeights 5 (some .int) :: UT)) := gu_V (ut 487 (by decide +kernel) (by decide +kernel)) wm_X2_sizeByHeights we_X2_sizeByHeights wi_RX2 wc_X2_sizeByHeights
def S_X12_blockByHeights  (D : DD) : Option RT := (cI (S_X2_sizeByHeights D) (fun r3 D2 => some (0, some (.int r3), D2)))
set_option maxRecDepth 100000 in
set_option maxHeartbeats 4000000 in
theorem c_X12_blockByHeights (l : Launch) (G : va_G) (E : EE)  (D : DD) (r : RT) (h : S_X12_blockByHeights  D = some r) : MM l G E yX12_blockByHeights cX12_blockByHeights 1 (some .int) (rmm 3) [.ref (E.1 0)] D r := by
  refine m_of rfl (Nat.le_of_ble_eq_true rfl) ?_
  intro p e s m args below meth c X hr
  unfold S_X12_blockByHeights at h
  refine g_aload_n X 0 (i0 := 0) dX12_blockByHeights_0 rfl rfl ?_
  refine g_get X (D := D) (v := .ref (E.1 73)) (T := TX12) 0 uX12 (wg_0 E _) rfl 8 (by decide) fl_X12_60 rfl rfl dX12_blockByHeights_1 ?_
  refine g_aload_n X 0 (i0 := 0) dX12_blockByHeights_4 rfl rfl ?_
  refine g_get X (D := D) (v := .ref (E.1 1)) (T := TX12) 0 uX12 (wg_0 E _) rfl 0 (by decide) fl_X12_10 rfl rfl dX12_blockByHeights_5 ?_
  obtain ⟨r3, D2, e1, h⟩ := cI_s h
  refine g_V X (As := [.ref (E.1 1)]) (rest := []) (c_X2_sizeByHeights l G E  _ _ e1) 73 (wg_73 E _) rfl rfl kv_X12_227 ⟨rfl, rfl⟩ ⟨rfl, hd_X2_sizeByHeights⟩ (⟨Nat.le_of_ble_eq_true rfl, Nat.le_of_ble_eq_true rfl⟩) rfl rfl (Nat.le_of_ble_eq_true rfl) dX12_blockByHeights_8 ?_
  exact g_iret X hr rfl dX12_blockByHeights_11 (Option.some.inj h)
theorem hd_X8_faultOfPrice : yX8_faultOfPrice.cls ≠ "java/lang/invoke/MethodHandle" ∧ yX8_faultOfPrice.cls ≠ "java/lang/invoke/VarHandle" ∧ (parseMethodDescriptor yX8_faultOfPrice.desc).map (fun d => d.parameters.length) = some 2 := by decide +kernel
theorem hd_X8_putPrice : yX8_putPrice.cls ≠ "java/lang/invoke/MethodHandle" ∧ yX8_putPrice.cls ≠ "java/lang/invoke/VarHandle" ∧ (parseMethodDescriptor yX8_putPrice.desc).map (fun d => d.parameters.length) = some 2 := by decide +kernel
theorem wc_X8_faultOfPrice : Cond.code yX8_faultOfPrice cX8_faultOfPrice 3 (some .int) ∈ UT := ut 1021 (by decide +kernel) (by decide +kernel)
theorem we_X8_faultOfPrice : Cond.selects RX8 yX8_faultOfPrice yX8_faultOfPrice ∈ UT := ut 1020 (by decide +kernel) (by decide +kernel)
theorem wm_X8_faultOfPrice : Cond.instanceMethod yX8_faultOfPrice ∈ UT := ut 1019 (by decide +kernel) (by decide +kernel)
theorem kv_X12_230 : GoodIn UT (wsV RX12 230 RX8 yX8_faultOfPrice (Cond.code yX8_faultOfPrice cX8_faultOfPrice 3 (some .int) :: UT)) := gu_V (ut 1018 (by decide +kernel) (by decide +kernel)) wm_X8_faultOfPrice we_X8_faultOfPrice wi_RX8 wc_X8_faultOfPrice
theorem wc_X8_putPrice : Cond.code yX8_putPrice cX8_putPrice 4 (some .int) ∈ UT := ut 1026 (by decide +kernel) (by decide +kernel)
theorem we_X8_putPrice : Cond.selects RX8 yX8_putPrice yX8_putPrice ∈ UT := ut 1025 (by decide +kernel) (by decide +kernel)
theorem wm_X8_putPrice : Cond.instanceMethod yX8_putPrice ∈ UT := ut 1024 (by decide +kernel) (by decide +kernel)
theorem kv_X12_235 : GoodIn UT (wsV RX12 235 RX8 yX8_putPrice (Cond.code yX8_putPrice cX8_putPrice 4 (some .int) :: UT)) := gu_V (ut 1023 (by decide +kernel) (by decide +kernel)) wm_X8_putPrice we_X8_putPrice wi_RX8 wc_X8_putPrice
theorem wst_X12_233 : ((RX12, 233, "length or price out of range") : String × Nat × String) ∈ STRS := by decide +kernel
def S_X12_setPrice (a0 : Int32) (a1 : Int32) (D : DD) : Option RT := (cI (S_X8_faultOfPrice a0 a1 D) (fun r3 D2 => (if r3 = 0 then (cV (S_X6_remember D2) (fun D5 => (cI (S_X8_putPrice a0 a1 D5) (fun r8 D7 => some (0, some (.int r8), D7))))) else some (1, none, D2))))
set_option maxRecDepth 100000 in
set_option maxHeartbeats 4000000 in
theorem c_X12_setPrice (l : Launch) (hfl : l.stackTraces = false) (G : va_G) (E : EE) (a0 : Int32) (a1 : Int32) (D : DD) (r : RT) (h : S_X12_setPrice a0 a1 D = some r) : MX l G E yX12_setPrice cX12_setPrice 3 (some .int) (rmx 6) [.ref (E.1 0), .int a0, .int a1] D r := by
  refine mx_of rfl (Nat.le_of_ble_eq_true rfl) ?_
  intro p e s m args below meth c X hr ht
  unfold S_X12_setPrice at h
  refine g_aload_n X 0 (i0 := 0) dX12_setPrice_0 rfl rfl ?_
  refine g_get X (D := D) (v := .ref (E.1 1)) (T := TX12) 0 uX12 (wg_0 E _) rfl 0 (by decide) fl_X12_10 rfl rfl dX12_setPrice_1 ?_
  refine g_iload_n X 1 (i0 := 1) dX12_setPrice_4 rfl rfl ?_
  refine g_iload_n X 2 (i0 := 2) dX12_setPrice_5 rfl rfl ?_
  obtain ⟨r3, D2, e1, h⟩ := cI_s h
  refine g_V X (As := [.int a0, .int a1]) (rest := []) (c_X8_faultOfPrice l G E a0 a1 _ _ e1) 1 (wg_1 E _) rfl rfl kv_X12_230 ⟨rfl, rfl⟩ ⟨rfl, hd_X8_faultOfPrice⟩ (⟨Nat.le_of_ble_eq_true rfl, Nat.le_of_ble_eq_true rfl⟩) rfl rfl (Nat.le_of_ble_eq_true rfl) dX12_setPrice_6 ?_
  refine g_if_eq X (tgt := 22) dX12_setPrice_9 (by decide) (fun c9 => ?_) (fun c9 => ?_)
  · have h := (ite_s h).1 c9
    refine g_aload_n X 0 (i0 := 0) dX12_setPrice_22 rfl rfl ?_
    refine g_get X (D := D2) (v := .ref (E.1 16)) (T := TX12) 0 uX12 (wg_0 E _) rfl 3 (by decide) fl_X12_25 rfl rfl dX12_setPrice_23 ?_
    refine g_aload_n X 0 (i0 := 0) dX12_setPrice_26 rfl rfl ?_
    refine g_get X (D := D2) (v := .ref (E.1 1)) (T := TX12) 0 uX12 (wg_0 E _) rfl 0 (by decide) fl_X12_10 rfl rfl dX12_setPrice_27 ?_
    obtain ⟨D5, e4, h⟩ := cV_s h
    refine g_V X (As := [.ref (E.1 1)]) (rest := []) (c_X6_remember l G E  _ _ e4) 16 (wg_16 E _) rfl rfl kv_X12_108 ⟨rfl, rfl⟩ ⟨rfl, hd_X6_remember⟩ (⟨Nat.le_of_ble_eq_true rfl, Nat.le_of_ble_eq_true rfl⟩) rfl rfl (Nat.le_of_ble_eq_true rfl) dX12_setPrice_30 ?_
    refine g_aload_n X 0 (i0 := 0) dX12_setPrice_33 rfl rfl ?_
    refine g_get X (D := D5) (v := .ref (E.1 1)) (T := TX12) 0 uX12 (wg_0 E _) rfl 0 (by decide) fl_X12_10 rfl rfl dX12_setPrice_34 ?_
    refine g_iload_n X 1 (i0 := 1) dX12_setPrice_37 rfl rfl ?_
    refine g_iload_n X 2 (i0 := 2) dX12_setPrice_38 rfl rfl ?_
    obtain ⟨r8, D7, e6, h⟩ := cI_s h
    refine g_V X (As := [.int a0, .int a1]) (rest := []) (c_X8_putPrice l G E a0 a1 _ _ e6) 1 (wg_1 E _) rfl rfl kv_X12_235 ⟨rfl, rfl⟩ ⟨rfl, hd_X8_putPrice⟩ (⟨Nat.le_of_ble_eq_true rfl, Nat.le_of_ble_eq_true rfl⟩) rfl rfl (Nat.le_of_ble_eq_true rfl) dX12_setPrice_39 ?_
    exact gx_iret X hr rfl dX12_setPrice_42 (Option.some.inj h)
  · have h := (ite_s h).2 c9
    exact gx_throw X hfl ht (by decide +kernel) (by decide +kernel) wcl_X12_96 wini_1 wst_X12_233 wat_X12_100 wgo_X12_100 dX12_setPrice_12 dX12_setPrice_15 dX12_setPrice_16 dX12_setPrice_18 dX12_setPrice_21 (Nat.le_of_ble_eq_true rfl) (Nat.le_of_ble_eq_true rfl) (Nat.le_of_ble_eq_true rfl) (Nat.le_of_ble_eq_true rfl) (k := 1) (by decide) rfl (Option.some.inj h)
theorem kv_X12_240 : GoodIn UT (wsV RX12 240 RX8 yX8_priceAt (Cond.code yX8_priceAt cX8_priceAt 2 (some .int) :: UT)) := gu_V (ut 1036 (by decide +kernel) (by decide +kernel)) wm_X8_priceAt we_X8_priceAt wi_RX8 wc_X8_priceAt
theorem wst_X12_238 : ((RX12, 238, "length out of range") : String × Nat × String) ∈ STRS := by decide +kernel
def S_X12_priceOf (a0 : Int32) (D : DD) : Option RT := (cI (S_X12_inRange a0 (1 : Int32) (10 : Int32) D) (fun r3 D2 => (if r3 = 0 then some (1, none, D2) else (cI (S_X8_priceAt a0 D2) (fun r6 D5 => some (0, some (.int r6), D5))))))
set_option maxRecDepth 100000 in
set_option maxHeartbeats 4000000 in
theorem c_X12_priceOf (l : Launch) (hfl : l.stackTraces = false) (G : va_G) (E : EE) (a0 : Int32) (D : DD) (r : RT) (h : S_X12_priceOf a0 D = some r) : MX l G E yX12_priceOf cX12_priceOf 2 (some .int) (rmx 6) [.ref (E.1 0), .int a0] D r := by
  refine mx_of rfl (Nat.le_of_ble_eq_true rfl) ?_
  intro p e s m args below meth c X hr ht
  unfold S_X12_priceOf at h
  refine g_iload_n X 1 (i0 := 1) dX12_priceOf_0 rfl rfl ?_
  refine g_iconst X (v := (1 : Int32)) dX12_priceOf_1 (by decide) ?_
  refine g_bipush X (v := (10 : Int32)) dX12_priceOf_2 (by decide) ?_
  obtain ⟨r3, D2, e1, h⟩ := cI_s h
  refine g_S X (As := [.int a0, .int (1 : Int32), .int (10 : Int32)]) (rest := []) (c_X12_inRange l G E a0 (1 : Int32) (10 : Int32) _ _ e1) ks_X12_147 ⟨rfl, rfl⟩ hd_X12_inRange (⟨Nat.le_of_ble_eq_true rfl, Nat.le_of_ble_eq_true rfl⟩) rfl rfl (Nat.le_of_ble_eq_true rfl) dX12_priceOf_4 ?_
  refine g_if_ne X (tgt := 20) dX12_priceOf_7 (by decide) (fun c7 => ?_) (fun c7 => ?_)
  · have h := (ite_s h).2 c7
    refine g_aload_n X 0 (i0 := 0) dX12_priceOf_20 rfl rfl ?_
    refine g_get X (D := D2) (v := .ref (E.1 1)) (T := TX12) 0 uX12 (wg_0 E _) rfl 0 (by decide) fl_X12_10 rfl rfl dX12_priceOf_21 ?_
    refine g_iload_n X 1 (i0 := 1) dX12_priceOf_24 rfl rfl ?_
    obtain ⟨r6, D5, e4, h⟩ := cI_s h
    refine g_V X (As := [.int a0]) (rest := []) (c_X8_priceAt l G E a0 _ _ e4) 1 (wg_1 E _) rfl rfl kv_X12_240 ⟨rfl, rfl⟩ ⟨rfl, hd_X8_priceAt⟩ (⟨Nat.le_of_ble_eq_true rfl, Nat.le_of_ble_eq_true rfl⟩) rfl rfl (Nat.le_of_ble_eq_true rfl) dX12_priceOf_25 ?_
    exact gx_iret X hr rfl dX12_priceOf_28 (Option.some.inj h)
  · have h := (ite_s h).1 c7
    exact gx_throw X hfl ht (by decide +kernel) (by decide +kernel) wcl_X12_96 wini_1 wst_X12_238 wat_X12_100 wgo_X12_100 dX12_priceOf_10 dX12_priceOf_13 dX12_priceOf_14 dX12_priceOf_16 dX12_priceOf_19 (Nat.le_of_ble_eq_true rfl) (Nat.le_of_ble_eq_true rfl) (Nat.le_of_ble_eq_true rfl) (Nat.le_of_ble_eq_true rfl) (k := 1) (by decide) rfl (Option.some.inj h)
theorem fl_X12_67 : Cond.fieldLink RX12 67 "StoneQuarry" "cuts" "LStoneQuarry$Cuts;" ∈ UT := ut 324 (by decide +kernel) (by decide +kernel)
theorem hd_X5_coinsByTable : yX5_coinsByTable.cls ≠ "java/lang/invoke/MethodHandle" ∧ yX5_coinsByTable.cls ≠ "java/lang/invoke/VarHandle" ∧ (parseMethodDescriptor yX5_coinsByTable.desc).map (fun d => d.parameters.length) = some 2 := by decide +kernel
theorem wc_X5_coinsByTable : Cond.code yX5_coinsByTable cX5_coinsByTable 3 (some .int) ∈ UT := ut 616 (by decide +kernel) (by decide +kernel)
theorem we_X5_coinsByTable : Cond.selects RX5 yX5_coinsByTable yX5_coinsByTable ∈ UT := ut 615 (by decide +kernel) (by decide +kernel)
theorem wm_X5_coinsByTable : Cond.instanceMethod yX5_coinsByTable ∈ UT := ut 614 (by decide +kernel) (by decide +kernel)
theorem kv_X12_243 : GoodIn UT (wsV RX12 243 RX5 yX5_coinsByTable (Cond.code yX5_coinsByTable cX5_coinsByTable 3 (some .int) :: UT)) := gu_V (ut 613 (by decide +kernel) (by decide +kernel)) wm_X5_coinsByTable we_X5_coinsByTable wi_RX5 wc_X5_coinsByTable
def S_X12_bestCut (a0 : Int32) (D : DD) : Option RT := (cI (S_X12_inRange a0 (1 : Int32) (30 : Int32) D) (fun r3 D2 => (if r3 = 0 then some (1, none, D2) else (cI (S_X5_coinsByTable a0 D2) (fun r6 D5 => some (0, some (.int r6), D5))))))
set_option maxRecDepth 100000 in
set_option maxHeartbeats 4000000 in
theorem c_X12_bestCut (l : Launch) (hfl : l.stackTraces = false) (G : va_G) (E : EE) (a0 : Int32) (D : DD) (r : RT) (h : S_X12_bestCut a0 D = some r) : MX l G E yX12_bestCut cX12_bestCut 2 (some .int) (rmx 6) [.ref (E.1 0), .int a0] D r := by
  refine mx_of rfl (Nat.le_of_ble_eq_true rfl) ?_
  intro p e s m args below meth c X hr ht
  unfold S_X12_bestCut at h
  refine g_iload_n X 1 (i0 := 1) dX12_bestCut_0 rfl rfl ?_
  refine g_iconst X (v := (1 : Int32)) dX12_bestCut_1 (by decide) ?_
  refine g_bipush X (v := (30 : Int32)) dX12_bestCut_2 (by decide) ?_
  obtain ⟨r3, D2, e1, h⟩ := cI_s h
  refine g_S X (As := [.int a0, .int (1 : Int32), .int (30 : Int32)]) (rest := []) (c_X12_inRange l G E a0 (1 : Int32) (30 : Int32) _ _ e1) ks_X12_147 ⟨rfl, rfl⟩ hd_X12_inRange (⟨Nat.le_of_ble_eq_true rfl, Nat.le_of_ble_eq_true rfl⟩) rfl rfl (Nat.le_of_ble_eq_true rfl) dX12_bestCut_4 ?_
  refine g_if_ne X (tgt := 20) dX12_bestCut_7 (by decide) (fun c7 => ?_) (fun c7 => ?_)
  · have h := (ite_s h).2 c7
    refine g_aload_n X 0 (i0 := 0) dX12_bestCut_20 rfl rfl ?_
    refine g_get X (D := D2) (v := .ref (E.1 75)) (T := TX12) 0 uX12 (wg_0 E _) rfl 9 (by decide) fl_X12_67 rfl rfl dX12_bestCut_21 ?_
    refine g_aload_n X 0 (i0 := 0) dX12_bestCut_24 rfl rfl ?_
    refine g_get X (D := D2) (v := .ref (E.1 1)) (T := TX12) 0 uX12 (wg_0 E _) rfl 0 (by decide) fl_X12_10 rfl rfl dX12_bestCut_25 ?_
    refine g_iload_n X 1 (i0 := 1) dX12_bestCut_28 rfl rfl ?_
    obtain ⟨r6, D5, e4, h⟩ := cI_s h
    refine g_V X (As := [.ref (E.1 1), .int a0]) (rest := []) (c_X5_coinsByTable l G E a0 _ _ e4) 75 (wg_75 E _) rfl rfl kv_X12_243 ⟨rfl, rfl⟩ ⟨rfl, hd_X5_coinsByTable⟩ (⟨Nat.le_of_ble_eq_true rfl, Nat.le_of_ble_eq_true rfl⟩) rfl rfl (Nat.le_of_ble_eq_true rfl) dX12_bestCut_29 ?_
    exact gx_iret X hr rfl dX12_bestCut_32 (Option.some.inj h)
  · have h := (ite_s h).1 c7
    exact gx_throw X hfl ht (by decide +kernel) (by decide +kernel) wcl_X12_96 wini_1 wst_X12_238 wat_X12_100 wgo_X12_100 dX12_bestCut_10 dX12_bestCut_13 dX12_bestCut_14 dX12_bestCut_16 dX12_bestCut_19 (Nat.le_of_ble_eq_true rfl) (Nat.le_of_ble_eq_true rfl) (Nat.le_of_ble_eq_true rfl) (Nat.le_of_ble_eq_true rfl) (k := 1) (by decide) rfl (Option.some.inj h)
theorem hd_X5_coinsByTrial : yX5_coinsByTrial.cls ≠ "java/lang/invoke/MethodHandle" ∧ yX5_coinsByTrial.cls ≠ "java/lang/invoke/VarHandle" ∧ (parseMethodDescriptor yX5_coinsByTrial.desc).map (fun d => d.parameters.length) = some 2 := by decide +kernel
theorem wc_X5_coinsByTrial : Cond.code yX5_coinsByTrial cX5_coinsByTrial 2 (some .int) ∈ UT := ut 603 (by decide +kernel) (by decide +kernel)
theorem wt_X5_coinsByTrial : Cond.static yX5_coinsByTrial ∈ UT := ut 602 (by decide +kernel) (by decide +kernel)
theorem ks_X12_246 : GoodIn UT (va_wsS RX12 246 yX5_coinsByTrial (Cond.code yX5_coinsByTrial cX5_coinsByTrial 2 (some .int) :: UT)) := gu_S (ut 601 (by decide +kernel) (by decide +kernel)) wt_X5_coinsByTrial wi_RX5 wc_X5_coinsByTrial
def S_X12_bestCutByTrial (a0 : Int32) (D : DD) : Option RT := (cI (S_X12_inRange a0 (1 : Int32) (30 : Int32) D) (fun r3 D2 => (if r3 = 0 then some (1, none, D2) else (cI (S_X5_coinsByTrial a0 D2) (fun r6 D5 => some (0, some (.int r6), D5))))))
set_option maxRecDepth 100000 in
set_option maxHeartbeats 4000000 in
theorem c_X12_bestCutByTrial (l : Launch) (hfl : l.stackTraces = false) (G : va_G) (E : EE) (a0 : Int32) (D : DD) (r : RT) (h : S_X12_bestCutByTrial a0 D = some r) : MX l G E yX12_bestCutByTrial cX12_bestCutByTrial 2 (some .int) (rmx 44) [.ref (E.1 0), .int a0] D r := by
  refine mx_of rfl (Nat.le_of_ble_eq_true rfl) ?_
  intro p e s m args below meth c X hr ht
  unfold S_X12_bestCutByTrial at h
  refine g_iload_n X 1 (i0 := 1) dX12_bestCutByTrial_0 rfl rfl ?_
  refine g_iconst X (v := (1 : Int32)) dX12_bestCutByTrial_1 (by decide) ?_
  refine g_bipush X (v := (30 : Int32)) dX12_bestCutByTrial_2 (by decide) ?_
  obtain ⟨r3, D2, e1, h⟩ := cI_s h
  refine g_S X (As := [.int a0, .int (1 : Int32), .int (30 : Int32)]) (rest := []) (c_X12_inRange l G E a0 (1 : Int32) (30 : Int32) _ _ e1) ks_X12_147 ⟨rfl, rfl⟩ hd_X12_inRange (⟨Nat.le_of_ble_eq_true rfl, Nat.le_of_ble_eq_true rfl⟩) rfl rfl (Nat.le_of_ble_eq_true rfl) dX12_bestCutByTrial_4 ?_
  refine g_if_ne X (tgt := 20) dX12_bestCutByTrial_7 (by decide) (fun c7 => ?_) (fun c7 => ?_)
  · have h := (ite_s h).2 c7
    refine g_aload_n X 0 (i0 := 0) dX12_bestCutByTrial_20 rfl rfl ?_
    refine g_get X (D := D2) (v := .ref (E.1 1)) (T := TX12) 0 uX12 (wg_0 E _) rfl 0 (by decide) fl_X12_10 rfl rfl dX12_bestCutByTrial_21 ?_
    refine g_iload_n X 1 (i0 := 1) dX12_bestCutByTrial_24 rfl rfl ?_
    obtain ⟨r6, D5, e4, h⟩ := cI_s h
    refine g_S X (As := [.ref (E.1 1), .int a0]) (rest := []) (c_X5_coinsByTrial l G E a0 _ _ e4) ks_X12_246 ⟨rfl, rfl⟩ hd_X5_coinsByTrial (⟨Nat.le_of_ble_eq_true rfl, Nat.le_of_ble_eq_true rfl⟩) rfl rfl (Nat.le_of_ble_eq_true rfl) dX12_bestCutByTrial_25 ?_
    exact gx_iret X hr rfl dX12_bestCutByTrial_28 (Option.some.inj h)
  · have h := (ite_s h).1 c7
    exact gx_throw X hfl ht (by decide +kernel) (by decide +kernel) wcl_X12_96 wini_1 wst_X12_238 wat_X12_100 wgo_X12_100 dX12_bestCutByTrial_10 dX12_bestCutByTrial_13 dX12_bestCutByTrial_14 dX12_bestCutByTrial_16 dX12_bestCutByTrial_19 (Nat.le_of_ble_eq_true rfl) (Nat.le_of_ble_eq_true rfl) (Nat.le_of_ble_eq_true rfl) (Nat.le_of_ble_eq_true rfl) (k := 1) (by decide) rfl (Option.some.inj h)
theorem hd_X5_piecesByTable : yX5_piecesByTable.cls ≠ "java/lang/invoke/MethodHandle" ∧ yX5_piecesByTable.cls ≠ "java/lang/invoke/VarHandle" ∧ (parseMethodDescriptor yX5_piecesByTable.desc).map (fun d => d.parameters.length) = some 2 := by decide +kernel
theorem wc_X5_piecesByTable : Cond.code yX5_piecesByTable cX5_piecesByTable 3 (some .int) ∈ UT := ut 1061 (by decide +kernel) (by decide +kernel)
theorem we_X5_piecesByTable : Cond.selects RX5 yX5_piecesByTable yX5_piecesByTable ∈ UT := ut 1060 (by decide +kernel) (by decide +kernel)
theorem wm_X5_piecesByTable : Cond.instanceMethod yX5_piecesByTable ∈ UT := ut 1059 (by decide +kernel) (by decide +kernel)
theorem kv_X12_249 : GoodIn UT (wsV RX12 249 RX5 yX5_piecesByTable (Cond.code yX5_piecesByTable cX5_piecesByTable 3 (some .int) :: UT)) := gu_V (ut 1058 (by decide +kernel) (by decide +kernel)) wm_X5_piecesByTable we_X5_piecesByTable wi_RX5 wc_X5_piecesByTable
def S_X12_fewestPieces (a0 : Int32) (D : DD) : Option RT := (cI (S_X12_inRange a0 (1 : Int32) (30 : Int32) D) (fun r3 D2 => (if r3 = 0 then some (1, none, D2) else (cI (S_X5_piecesByTable a0 D2) (fun r6 D5 => some (0, some (.int r6), D5))))))
set_option maxRecDepth 100000 in
set_option maxHeartbeats 4000000 in
theorem c_X12_fewestPieces (l : Launch) (hfl : l.stackTraces = false) (G : va_G) (E : EE) (a0 : Int32) (D : DD) (r : RT) (h : S_X12_fewestPieces a0 D = some r) : MX l G E yX12_fewestPieces cX12_fewestPieces 2 (some .int) (rmx 6) [.ref (E.1 0), .int a0] D r := by
  refine mx_of rfl (Nat.le_of_ble_eq_true rfl) ?_
  intro p e s m args below meth c X hr ht
  unfold S_X12_fewestPieces at h
  refine g_iload_n X 1 (i0 := 1) dX12_fewestPieces_0 rfl rfl ?_
  refine g_iconst X (v := (1 : Int32)) dX12_fewestPieces_1 (by decide) ?_
  refine g_bipush X (v := (30 : Int32)) dX12_fewestPieces_2 (by decide) ?_
  obtain ⟨r3, D2, e1, h⟩ := cI_s h
  refine g_S X (As := [.int a0, .int (1 : Int32), .int (30 : Int32)]) (rest := []) (c_X12_inRange l G E a0 (1 : Int32) (30 : Int32) _ _ e1) ks_X12_147 ⟨rfl, rfl⟩ hd_X12_inRange (⟨Nat.le_of_ble_eq_true rfl, Nat.le_of_ble_eq_true rfl⟩) rfl rfl (Nat.le_of_ble_eq_true rfl) dX12_fewestPieces_4 ?_
  refine g_if_ne X (tgt := 20) dX12_fewestPieces_7 (by decide) (fun c7 => ?_) (fun c7 => ?_)
  · have h := (ite_s h).2 c7
    refine g_aload_n X 0 (i0 := 0) dX12_fewestPieces_20 rfl rfl ?_
    refine g_get X (D := D2) (v := .ref (E.1 75)) (T := TX12) 0 uX12 (wg_0 E _) rfl 9 (by decide) fl_X12_67 rfl rfl dX12_fewestPieces_21 ?_
    refine g_aload_n X 0 (i0 := 0) dX12_fewestPieces_24 rfl rfl ?_
    refine g_get X (D := D2) (v := .ref (E.1 1)) (T := TX12) 0 uX12 (wg_0 E _) rfl 0 (by decide) fl_X12_10 rfl rfl dX12_fewestPieces_25 ?_
    refine g_iload_n X 1 (i0 := 1) dX12_fewestPieces_28 rfl rfl ?_
    obtain ⟨r6, D5, e4, h⟩ := cI_s h
    refine g_V X (As := [.ref (E.1 1), .int a0]) (rest := []) (c_X5_piecesByTable l G E a0 _ _ e4) 75 (wg_75 E _) rfl rfl kv_X12_249 ⟨rfl, rfl⟩ ⟨rfl, hd_X5_piecesByTable⟩ (⟨Nat.le_of_ble_eq_true rfl, Nat.le_of_ble_eq_true rfl⟩) rfl rfl (Nat.le_of_ble_eq_true rfl) dX12_fewestPieces_29 ?_
    exact gx_iret X hr rfl dX12_fewestPieces_32 (Option.some.inj h)
  · have h := (ite_s h).1 c7
    exact gx_throw X hfl ht (by decide +kernel) (by decide +kernel) wcl_X12_96 wini_1 wst_X12_238 wat_X12_100 wgo_X12_100 dX12_fewestPieces_10 dX12_fewestPieces_13 dX12_fewestPieces_14 dX12_fewestPieces_16 dX12_fewestPieces_19 (Nat.le_of_ble_eq_true rfl) (Nat.le_of_ble_eq_true rfl) (Nat.le_of_ble_eq_true rfl) (Nat.le_of_ble_eq_true rfl) (k := 1) (by decide) rfl (Option.some.inj h)
theorem hd_X8_handOver : yX8_handOver.cls ≠ "java/lang/invoke/MethodHandle" ∧ yX8_handOver.cls ≠ "java/lang/invoke/VarHandle" ∧ (parseMethodDescriptor yX8_handOver.desc).map (fun d => d.parameters.length) = some 2 := by decide +kernel
theorem wc_X8_handOver : Cond.code yX8_handOver cX8_handOver 3 none ∈ UT := ut 1081 (by decide +kernel) (by decide +kernel)
theorem we_X8_handOver : Cond.selects RX8 yX8_handOver yX8_handOver ∈ UT := ut 1080 (by decide +kernel) (by decide +kernel)
theorem wm_X8_handOver : Cond.instanceMethod yX8_handOver ∈ UT := ut 1079 (by decide +kernel) (by decide +kernel)
theorem kv_X12_367 : GoodIn UT (wsV RX12 367 RX8 yX8_handOver (Cond.code yX8_handOver cX8_handOver 3 none :: UT)) := gu_V (ut 1078 (by decide +kernel) (by decide +kernel)) wm_X8_handOver we_X8_handOver wi_RX8 wc_X8_handOver
def S_X12_sellBar (a0 : Int32) (D : DD) : Option RT := (cI (S_X5_coinsByTable a0 D) (fun r3 D2 => (cV (S_X8_handOver a0 r3 D2) (fun D5 => some (0, some (.int r3), D5)))))
set_option maxRecDepth 100000 in
set_option maxHeartbeats 4000000 in
theorem c_X12_sellBar (l : Launch) (G : va_G) (E : EE) (a0 : Int32) (D : DD) (r : RT) (h : S_X12_sellBar a0 D = some r) : MM l G E yX12_sellBar cX12_sellBar 3 (some .int) (rmm 4) [.ref (E.1 0), .int a0] D r := by
  refine m_of rfl (Nat.le_of_ble_eq_true rfl) ?_
  intro p e s m args below meth c X hr
  unfold S_X12_sellBar at h
  refine g_aload_n X 0 (i0 := 0) dX12_sellBar_0 rfl rfl ?_
  refine g_get X (D := D) (v := .ref (E.1 75)) (T := TX12) 0 uX12 (wg_0 E _) rfl 9 (by decide) fl_X12_67 rfl rfl dX12_sellBar_1 ?_
  refine g_aload_n X 0 (i0 := 0) dX12_sellBar_4 rfl rfl ?_
  refine g_get X (D := D) (v := .ref (E.1 1)) (T := TX12) 0 uX12 (wg_0 E _) rfl 0 (by decide) fl_X12_10 rfl rfl dX12_sellBar_5 ?_
  refine g_iload_n X 1 (i0 := 1) dX12_sellBar_8 rfl rfl ?_
  obtain ⟨r3, D2, e1, h⟩ := cI_s h
  refine g_V X (As := [.ref (E.1 1), .int a0]) (rest := []) (c_X5_coinsByTable l G E a0 _ _ e1) 75 (wg_75 E _) rfl rfl kv_X12_243 ⟨rfl, rfl⟩ ⟨rfl, hd_X5_coinsByTable⟩ (⟨Nat.le_of_ble_eq_true rfl, Nat.le_of_ble_eq_true rfl⟩) rfl rfl (Nat.le_of_ble_eq_true rfl) dX12_sellBar_9 ?_
  refine g_istore_n X (i0 := 2) (lv' := [(2, .int r3), (0, .ref (E.1 0)), (1, .int a0)]) dX12_sellBar_12 rfl (by decide) rfl ?_
  refine g_aload_n X 1 (i0 := 0) dX12_sellBar_13 rfl rfl ?_
  refine g_get X (D := D2) (v := .ref (E.1 1)) (T := TX12) 0 uX12 (wg_0 E _) rfl 0 (by decide) fl_X12_10 rfl rfl dX12_sellBar_14 ?_
  refine g_iload_n X 2 (i0 := 1) dX12_sellBar_17 rfl rfl ?_
  refine g_iload_n X 0 (i0 := 2) dX12_sellBar_18 rfl rfl ?_
  obtain ⟨D5, e4, h⟩ := cV_s h
  refine g_V X (As := [.int a0, .int r3]) (rest := []) (c_X8_handOver l G E a0 r3 _ _ e4) 1 (wg_1 E _) rfl rfl kv_X12_367 ⟨rfl, rfl⟩ ⟨rfl, hd_X8_handOver⟩ (⟨Nat.le_of_ble_eq_true rfl, Nat.le_of_ble_eq_true rfl⟩) rfl rfl (Nat.le_of_ble_eq_true rfl) dX12_sellBar_19 ?_
  refine g_iload_n X 0 (i0 := 2) dX12_sellBar_22 rfl rfl ?_
  exact g_iret X hr rfl dX12_sellBar_23 (Option.some.inj h)
theorem hd_X12_sellBar : yX12_sellBar.cls ≠ "java/lang/invoke/MethodHandle" ∧ yX12_sellBar.cls ≠ "java/lang/invoke/VarHandle" ∧ (parseMethodDescriptor yX12_sellBar.desc).map (fun d => d.parameters.length) = some 1 := by decide +kernel
theorem hd_X8_faultOfSelling : yX8_faultOfSelling.cls ≠ "java/lang/invoke/MethodHandle" ∧ yX8_faultOfSelling.cls ≠ "java/lang/invoke/VarHandle" ∧ (parseMethodDescriptor yX8_faultOfSelling.desc).map (fun d => d.parameters.length) = some 1 := by decide +kernel
theorem wc_X8_faultOfSelling : Cond.code yX8_faultOfSelling cX8_faultOfSelling 2 (some .int) ∈ UT := ut 1072 (by decide +kernel) (by decide +kernel)
theorem we_X8_faultOfSelling : Cond.selects RX8 yX8_faultOfSelling yX8_faultOfSelling ∈ UT := ut 1071 (by decide +kernel) (by decide +kernel)
theorem wm_X8_faultOfSelling : Cond.instanceMethod yX8_faultOfSelling ∈ UT := ut 1070 (by decide +kernel) (by decide +kernel)
theorem kv_X12_252 : GoodIn UT (wsV RX12 252 RX8 yX8_faultOfSelling (Cond.code yX8_faultOfSelling cX8_faultOfSelling 2 (some .int) :: UT)) := gu_V (ut 1069 (by decide +kernel) (by decide +kernel)) wm_X8_faultOfSelling we_X8_faultOfSelling wi_RX8 wc_X8_faultOfSelling
theorem wc_X12_sellBar : Cond.code yX12_sellBar cX12_sellBar 3 (some .int) ∈ UT := ut 1077 (by decide +kernel) (by decide +kernel)
theorem we_X12_sellBar : Cond.selects RX12 yX12_sellBar yX12_sellBar ∈ UT := ut 26 (by decide +kernel) (by decide +kernel)
theorem wm_X12_sellBar : Cond.instanceMethod yX12_sellBar ∈ UT := ut 1076 (by decide +kernel) (by decide +kernel)
theorem kv_X12_257 : GoodIn UT (wsV RX12 257 RX12 yX12_sellBar (Cond.code yX12_sellBar cX12_sellBar 3 (some .int) :: UT)) := gu_V (ut 1074 (by decide +kernel) (by decide +kernel)) wm_X12_sellBar we_X12_sellBar wi_RX12 wc_X12_sellBar
theorem wst_X12_255 : ((RX12, 255, "too little stone") : String × Nat × String) ∈ STRS := by decide +kernel
def S_X12_sell (a0 : Int32) (D : DD) : Option RT := (cI (S_X8_faultOfSelling a0 D) (fun r3 D2 => (if r3 = (1 : Int32) then some (1, none, D2) else (if r3 = (3 : Int32) then some (3, none, D2) else (cV (S_X6_remember D2) (fun D5 => (cI (S_X12_sellBar a0 D5) (fun r8 D7 => some (0, some (.int r8), D7)))))))))
set_option maxRecDepth 100000 in
set_option maxHeartbeats 4000000 in
theorem c_X12_sell (l : Launch) (hfl : l.stackTraces = false) (G : va_G) (E : EE) (a0 : Int32) (D : DD) (r : RT) (h : S_X12_sell a0 D = some r) : MX l G E yX12_sell cX12_sell 3 (some .int) (rmx 6) [.ref (E.1 0), .int a0] D r := by
  refine mx_of rfl (Nat.le_of_ble_eq_true rfl) ?_
  intro p e s m args below meth c X hr ht
  unfold S_X12_sell at h
  refine g_aload_n X 0 (i0 := 0) dX12_sell_0 rfl rfl ?_
  refine g_get X (D := D) (v := .ref (E.1 1)) (T := TX12) 0 uX12 (wg_0 E _) rfl 0 (by decide) fl_X12_10 rfl rfl dX12_sell_1 ?_
  refine g_iload_n X 1 (i0 := 1) dX12_sell_4 rfl rfl ?_
  obtain ⟨r3, D2, e1, h⟩ := cI_s h
  refine g_V X (As := [.int a0]) (rest := []) (c_X8_faultOfSelling l G E a0 _ _ e1) 1 (wg_1 E _) rfl rfl kv_X12_252 ⟨rfl, rfl⟩ ⟨rfl, hd_X8_faultOfSelling⟩ (⟨Nat.le_of_ble_eq_true rfl, Nat.le_of_ble_eq_true rfl⟩) rfl rfl (Nat.le_of_ble_eq_true rfl) dX12_sell_5 ?_
  refine g_istore_n X (i0 := 2) (lv' := [(2, .int r3), (0, .ref (E.1 0)), (1, .int a0)]) dX12_sell_8 rfl (by decide) rfl ?_
  refine g_iload_n X 0 (i0 := 2) dX12_sell_9 rfl rfl ?_
  refine g_iconst X (v := (1 : Int32)) dX12_sell_10 (by decide) ?_
  refine g_icmp_ne X (tgt := 24) dX12_sell_11 (by decide) (fun c10 => ?_) (fun c10 => ?_)
  · have h := (ite_s h).2 c10
    refine g_iload_n X 0 (i0 := 2) dX12_sell_24 rfl rfl ?_
    refine g_iconst X (v := (3 : Int32)) dX12_sell_25 (by decide) ?_
    refine g_icmp_ne X (tgt := 39) dX12_sell_26 (by decide) (fun c9 => ?_) (fun c9 => ?_)
    · have h := (ite_s h).2 c9
      refine g_aload_n X 1 (i0 := 0) dX12_sell_39 rfl rfl ?_
      refine g_get X (D := D2) (v := .ref (E.1 16)) (T := TX12) 0 uX12 (wg_0 E _) rfl 3 (by decide) fl_X12_25 rfl rfl dX12_sell_40 ?_
      refine g_aload_n X 1 (i0 := 0) dX12_sell_43 rfl rfl ?_
      refine g_get X (D := D2) (v := .ref (E.1 1)) (T := TX12) 0 uX12 (wg_0 E _) rfl 0 (by decide) fl_X12_10 rfl rfl dX12_sell_44 ?_
      obtain ⟨D5, e4, h⟩ := cV_s h
      refine g_V X (As := [.ref (E.1 1)]) (rest := []) (c_X6_remember l G E  _ _ e4) 16 (wg_16 E _) rfl rfl kv_X12_108 ⟨rfl, rfl⟩ ⟨rfl, hd_X6_remember⟩ (⟨Nat.le_of_ble_eq_true rfl, Nat.le_of_ble_eq_true rfl⟩) rfl rfl (Nat.le_of_ble_eq_true rfl) dX12_sell_47 ?_
      refine g_aload_n X 1 (i0 := 0) dX12_sell_50 rfl rfl ?_
      refine g_iload_n X 2 (i0 := 1) dX12_sell_51 rfl rfl ?_
      obtain ⟨r8, D7, e6, h⟩ := cI_s h
      refine g_V X (As := [.int a0]) (rest := []) (c_X12_sellBar l G E a0 _ _ e6) 0 (wg_0 E _) rfl rfl kv_X12_257 ⟨rfl, rfl⟩ ⟨rfl, hd_X12_sellBar⟩ (⟨Nat.le_of_ble_eq_true rfl, Nat.le_of_ble_eq_true rfl⟩) rfl rfl (Nat.le_of_ble_eq_true rfl) dX12_sell_52 ?_
      exact gx_iret X hr rfl dX12_sell_55 (Option.some.inj h)
    · have h := (ite_s h).1 c9
      exact gx_throw X hfl ht (by decide +kernel) (by decide +kernel) wcl_X12_126 wini_3 wst_X12_255 wat_X12_130 wgo_X12_130 dX12_sell_29 dX12_sell_32 dX12_sell_33 dX12_sell_35 dX12_sell_38 (Nat.le_of_ble_eq_true rfl) (Nat.le_of_ble_eq_true rfl) (Nat.le_of_ble_eq_true rfl) (Nat.le_of_ble_eq_true rfl) (k := 3) (by decide) rfl (Option.some.inj h)
  · have h := (ite_s h).1 c10
    exact gx_throw X hfl ht (by decide +kernel) (by decide +kernel) wcl_X12_96 wini_1 wst_X12_238 wat_X12_100 wgo_X12_100 dX12_sell_14 dX12_sell_17 dX12_sell_18 dX12_sell_20 dX12_sell_23 (Nat.le_of_ble_eq_true rfl) (Nat.le_of_ble_eq_true rfl) (Nat.le_of_ble_eq_true rfl) (Nat.le_of_ble_eq_true rfl) (k := 1) (by decide) rfl (Option.some.inj h)
theorem fl_X12_260 : Cond.fieldLink RX12 260 "StoneQuarry$QuarryState" "stock" "I" ∈ UT := ut 130 (by decide +kernel) (by decide +kernel)
def S_X12_stone  (D : DD) : Option RT := some (0, some (.int (D.1 1)), D)
set_option maxRecDepth 100000 in
set_option maxHeartbeats 4000000 in
theorem c_X12_stone (l : Launch) (G : va_G) (E : EE)  (D : DD) (r : RT) (h : S_X12_stone  D = some r) : MM l G E yX12_stone cX12_stone 1 (some .int) (rmm 0) [.ref (E.1 0)] D r := by
  refine m_of rfl (Nat.le_of_ble_eq_true rfl) ?_
  intro p e s m args below meth c X hr
  unfold S_X12_stone at h
  refine g_aload_n X 0 (i0 := 0) dX12_stone_0 rfl rfl ?_
  refine g_get X (D := D) (v := .ref (E.1 1)) (T := TX12) 0 uX12 (wg_0 E _) rfl 0 (by decide) fl_X12_10 rfl rfl dX12_stone_1 ?_
  refine g_get X (D := D) (v := .int (D.1 1)) (T := TX8) 1 uX8 (wg_1 E _) rfl 5 (by decide) fl_X12_260 rfl rfl dX12_stone_4 ?_
  exact g_iret X hr rfl dX12_stone_7 (Option.some.inj h)
theorem fl_X12_263 : Cond.fieldLink RX12 263 "StoneQuarry$QuarryState" "quarriedStone" "I" ∈ UT := ut 132 (by decide +kernel) (by decide +kernel)
def S_X12_quarried  (D : DD) : Option RT := some (0, some (.int (D.1 2)), D)
set_option maxRecDepth 100000 in
set_option maxHeartbeats 4000000 in
theorem c_X12_quarried (l : Launch) (G : va_G) (E : EE)  (D : DD) (r : RT) (h : S_X12_quarried  D = some r) : MM l G E yX12_quarried cX12_quarried 1 (some .int) (rmm 0) [.ref (E.1 0)] D r := by
  refine m_of rfl (Nat.le_of_ble_eq_true rfl) ?_
  intro p e s m args below meth c X hr
  unfold S_X12_quarried at h
  refine g_aload_n X 0 (i0 := 0) dX12_quarried_0 rfl rfl ?_
  refine g_get X (D := D) (v := .ref (E.1 1)) (T := TX12) 0 uX12 (wg_0 E _) rfl 0 (by decide) fl_X12_10 rfl rfl dX12_quarried_1 ?_
  refine g_get X (D := D) (v := .int (D.1 2)) (T := TX8) 1 uX8 (wg_1 E _) rfl 6 (by decide) fl_X12_263 rfl rfl dX12_quarried_4 ?_
  exact g_iret X hr rfl dX12_quarried_7 (Option.some.inj h)
theorem fl_X12_266 : Cond.fieldLink RX12 266 "StoneQuarry$QuarryState" "soldStone" "I" ∈ UT := ut 134 (by decide +kernel) (by decide +kernel)
def S_X12_sold  (D : DD) : Option RT := some (0, some (.int (D.1 3)), D)
set_option maxRecDepth 100000 in
set_option maxHeartbeats 4000000 in
theorem c_X12_sold (l : Launch) (G : va_G) (E : EE)  (D : DD) (r : RT) (h : S_X12_sold  D = some r) : MM l G E yX12_sold cX12_sold 1 (some .int) (rmm 0) [.ref (E.1 0)] D r := by
  refine m_of rfl (Nat.le_of_ble_eq_true rfl) ?_
  intro p e s m args below meth c X hr
  unfold S_X12_sold at h
  refine g_aload_n X 0 (i0 := 0) dX12_sold_0 rfl rfl ?_
  refine g_get X (D := D) (v := .ref (E.1 1)) (T := TX12) 0 uX12 (wg_0 E _) rfl 0 (by decide) fl_X12_10 rfl rfl dX12_sold_1 ?_
  refine g_get X (D := D) (v := .int (D.1 3)) (T := TX8) 1 uX8 (wg_1 E _) rfl 7 (by decide) fl_X12_266 rfl rfl dX12_sold_4 ?_
  exact g_iret X hr rfl dX12_sold_7 (Option.some.inj h)
theorem fl_X12_269 : Cond.fieldLink RX12 269 "StoneQuarry$QuarryState" "purse" "J" ∈ UT := ut 136 (by decide +kernel) (by decide +kernel)
def S_X12_coins  (D : DD) : Option RT := some (0, some (.long (D.2.1 0)), D)
set_option maxRecDepth 100000 in
set_option maxHeartbeats 4000000 in
theorem c_X12_coins (l : Launch) (G : va_G) (E : EE)  (D : DD) (r : RT) (h : S_X12_coins  D = some r) : MM l G E yX12_coins cX12_coins 1 (some .long) (rmm 0) [.ref (E.1 0)] D r := by
  refine m_of rfl (Nat.le_of_ble_eq_true rfl) ?_
  intro p e s m args below meth c X hr
  unfold S_X12_coins at h
  refine g_aload_n X 0 (i0 := 0) dX12_coins_0 rfl rfl ?_
  refine g_get X (D := D) (v := .ref (E.1 1)) (T := TX12) 0 uX12 (wg_0 E _) rfl 0 (by decide) fl_X12_10 rfl rfl dX12_coins_1 ?_
  refine g_get X (D := D) (v := .long (D.2.1 0)) (T := TX8) 1 uX8 (wg_1 E _) rfl 8 (by decide) fl_X12_269 rfl rfl dX12_coins_4 ?_
  exact g_lret X hr dX12_coins_7 (Option.some.inj h)
theorem hd_X8_sumOfHardness : yX8_sumOfHardness.cls ≠ "java/lang/invoke/MethodHandle" ∧ yX8_sumOfHardness.cls ≠ "java/lang/invoke/VarHandle" ∧ (parseMethodDescriptor yX8_sumOfHardness.desc).map (fun d => d.parameters.length) = some 0 := by decide +kernel
theorem wc_X8_sumOfHardness : Cond.code yX8_sumOfHardness cX8_sumOfHardness 3 (some .int) ∈ UT := ut 1109 (by decide +kernel) (by decide +kernel)
theorem we_X8_sumOfHardness : Cond.selects RX8 yX8_sumOfHardness yX8_sumOfHardness ∈ UT := ut 1108 (by decide +kernel) (by decide +kernel)
theorem wm_X8_sumOfHardness : Cond.instanceMethod yX8_sumOfHardness ∈ UT := ut 1107 (by decide +kernel) (by decide +kernel)
theorem kv_X12_278 : GoodIn UT (wsV RX12 278 RX8 yX8_sumOfHardness (Cond.code yX8_sumOfHardness cX8_sumOfHardness 3 (some .int) :: UT)) := gu_V (ut 1106 (by decide +kernel) (by decide +kernel)) wm_X8_sumOfHardness we_X8_sumOfHardness wi_RX8 wc_X8_sumOfHardness
theorem wat_X12_277 : ∀ w ∈ vx_atS RX12 277 "java/lang/ArithmeticException" ["java/lang/RuntimeException", "java/lang/Exception"], w ∈ UT ∨ w ∈ NEST := at_of (by decide +kernel)
theorem wcl_X12_273 : Cond.classLink RX12 273 "java/lang/ArithmeticException" ∈ UT := ut 1103 (by decide +kernel) (by decide +kernel)
theorem wgo_X12_277 : ∀ w ∈ Cond.classLink RX12 273 "java/lang/ArithmeticException" :: Cond.initialized "java/lang/ArithmeticException" :: vx_atS RX12 277 "java/lang/ArithmeticException" ["java/lang/RuntimeException", "java/lang/Exception"], vx_ot w = true := List.all_eq_true.mp (by decide +kernel)
theorem wini_6 : Cond.initialized "java/lang/ArithmeticException" ∈ UT := ut 100 (by decide +kernel) (by decide +kernel)
theorem wst_X12_275 : ((RX12, 275, "all cells are open") : String × Nat × String) ∈ STRS := by decide +kernel
def S_X12_meanHardness  (D : DD) : Option RT := (cI (S_X8_countOpen D) (fun r3 D2 => (if ((36 : Int32) - r3) = 0 then some (6, none, D2) else (cI (S_X8_sumOfHardness D2) (fun r6 D5 => (if (FP.ddiv (FP.i2d r6) (FP.i2d ((36 : Int32) - r3))) &&& 0x7fffffffffffffff ≤ 0x7ff0000000000000 then some (0, some (.double (FP.ddiv (FP.i2d r6) (FP.i2d ((36 : Int32) - r3)))), D5) else none))))))
set_option maxRecDepth 100000 in
set_option maxHeartbeats 4000000 in
theorem c_X12_meanHardness (l : Launch) (hfl : l.stackTraces = false) (G : va_G) (E : EE)  (D : DD) (r : RT) (h : S_X12_meanHardness  D = some r) : MX l G E yX12_meanHardness cX12_meanHardness 2 (some .double) (rmx 6) [.ref (E.1 0)] D r := by
  refine mx_of rfl (Nat.le_of_ble_eq_true rfl) ?_
  intro p e s m args below meth c X hr ht
  unfold S_X12_meanHardness at h
  refine g_bipush X (v := (36 : Int32)) dX12_meanHardness_0 (by decide) ?_
  refine g_aload_n X 0 (i0 := 0) dX12_meanHardness_2 rfl rfl ?_
  refine g_get X (D := D) (v := .ref (E.1 1)) (T := TX12) 0 uX12 (wg_0 E _) rfl 0 (by decide) fl_X12_10 rfl rfl dX12_meanHardness_3 ?_
  obtain ⟨r3, D2, e1, h⟩ := cI_s h
  refine g_V X (As := []) (rest := [.int (36 : Int32)]) (c_X8_countOpen l G E  _ _ e1) 1 (wg_1 E _) rfl rfl kv_X12_143 ⟨rfl, rfl⟩ ⟨rfl, hd_X8_countOpen⟩ (⟨Nat.le_of_ble_eq_true rfl, Nat.le_of_ble_eq_true rfl⟩) rfl rfl (Nat.le_of_ble_eq_true rfl) dX12_meanHardness_6 ?_
  refine g_isub X dX12_meanHardness_9 ?_
  refine g_istore_n X (i0 := 1) (lv' := [(1, .int ((36 : Int32) - r3)), (0, .ref (E.1 0))]) dX12_meanHardness_10 rfl (by decide) rfl ?_
  refine g_iload_n X 0 (i0 := 1) dX12_meanHardness_11 rfl rfl ?_
  refine g_if_ne X (tgt := 26) dX12_meanHardness_12 (by decide) (fun c8 => ?_) (fun c8 => ?_)
  · have h := (ite_s h).2 c8
    refine g_aload_n X 1 (i0 := 0) dX12_meanHardness_26 rfl rfl ?_
    refine g_get X (D := D2) (v := .ref (E.1 1)) (T := TX12) 0 uX12 (wg_0 E _) rfl 0 (by decide) fl_X12_10 rfl rfl dX12_meanHardness_27 ?_
    obtain ⟨r6, D5, e4, h⟩ := cI_s h
    refine g_V X (As := []) (rest := []) (c_X8_sumOfHardness l G E  _ _ e4) 1 (wg_1 E _) rfl rfl kv_X12_278 ⟨rfl, rfl⟩ ⟨rfl, hd_X8_sumOfHardness⟩ (⟨Nat.le_of_ble_eq_true rfl, Nat.le_of_ble_eq_true rfl⟩) rfl rfl (Nat.le_of_ble_eq_true rfl) dX12_meanHardness_30 ?_
    refine g_i2d X dX12_meanHardness_33 ?_
    refine g_iload_n X 0 (i0 := 1) dX12_meanHardness_34 rfl rfl ?_
    refine g_i2d X dX12_meanHardness_35 ?_
    obtain ⟨v7, h⟩ := chk_s h
    refine g_ddiv X v7 dX12_meanHardness_36 ?_
    exact gx_dret X hr dX12_meanHardness_37 (Option.some.inj h)
  · have h := (ite_s h).1 c8
    exact gx_throwW X hfl ht (by decide +kernel) (by decide +kernel) wcl_X12_273 wini_6 wst_X12_275 wat_X12_277 wgo_X12_277 dX12_meanHardness_15 dX12_meanHardness_18 dX12_meanHardness_19 dX12_meanHardness_22 dX12_meanHardness_25 (Nat.le_of_ble_eq_true rfl) (Nat.le_of_ble_eq_true rfl) (Nat.le_of_ble_eq_true rfl) (Nat.le_of_ble_eq_true rfl) (k := 6) (by decide) rfl (Option.some.inj h)
theorem wkf_X12_281 : Cond.constantFloat RX12 281 (1108344832 : UInt32) ∈ UT := ut 517 (by decide +kernel) (by decide +kernel)
def S_X12_openShare  (D : DD) : Option RT := (cI (S_X8_countOpen D) (fun r3 D2 => (if (FP.fdiv (FP.i2f r3) (1108344832 : UInt32)) &&& 0x7fffffff ≤ 0x7f800000 then some (0, some (.float (FP.fdiv (FP.i2f r3) (1108344832 : UInt32))), D2) else none)))
set_option maxRecDepth 100000 in
set_option maxHeartbeats 4000000 in
theorem c_X12_openShare (l : Launch) (G : va_G) (E : EE)  (D : DD) (r : RT) (h : S_X12_openShare  D = some r) : MM l G E yX12_openShare cX12_openShare 1 (some .float) (rmm 1) [.ref (E.1 0)] D r := by
  refine m_of rfl (Nat.le_of_ble_eq_true rfl) ?_
  intro p e s m args below meth c X hr
  unfold S_X12_openShare at h
  refine g_aload_n X 0 (i0 := 0) dX12_openShare_0 rfl rfl ?_
  refine g_get X (D := D) (v := .ref (E.1 1)) (T := TX12) 0 uX12 (wg_0 E _) rfl 0 (by decide) fl_X12_10 rfl rfl dX12_openShare_1 ?_
  obtain ⟨r3, D2, e1, h⟩ := cI_s h
  refine g_V X (As := []) (rest := []) (c_X8_countOpen l G E  _ _ e1) 1 (wg_1 E _) rfl rfl kv_X12_143 ⟨rfl, rfl⟩ ⟨rfl, hd_X8_countOpen⟩ (⟨Nat.le_of_ble_eq_true rfl, Nat.le_of_ble_eq_true rfl⟩) rfl rfl (Nat.le_of_ble_eq_true rfl) dX12_openShare_4 ?_
  refine g_i2f X dX12_openShare_7 ?_
  refine g_ldcwf X (v := (1108344832 : UInt32)) wkf_X12_281 dX12_openShare_8 ?_
  obtain ⟨v4, h⟩ := chk_s h
  refine g_fdiv X v4 dX12_openShare_11 ?_
  exact g_fret X hr dX12_openShare_12 (Option.some.inj h)
theorem fl_X12_74 : Cond.fieldLink RX12 74 "StoneQuarry" "line" "LStoneQuarry$Line;" ∈ UT := ut 325 (by decide +kernel) (by decide +kernel)
theorem hd_X7_showRow : yX7_showRow.cls ≠ "java/lang/invoke/MethodHandle" ∧ yX7_showRow.cls ≠ "java/lang/invoke/VarHandle" ∧ (parseMethodDescriptor yX7_showRow.desc).map (fun d => d.parameters.length) = some 2 := by decide +kernel
theorem wc_X7_showRow : Cond.code yX7_showRow cX7_showRow 4 (some .int) ∈ UT := ut 1121 (by decide +kernel) (by decide +kernel)
theorem we_X7_showRow : Cond.selects RX7 yX7_showRow yX7_showRow ∈ UT := ut 1120 (by decide +kernel) (by decide +kernel)
theorem wm_X7_showRow : Cond.instanceMethod yX7_showRow ∈ UT := ut 1119 (by decide +kernel) (by decide +kernel)
theorem kv_X12_284 : GoodIn UT (wsV RX12 284 RX7 yX7_showRow (Cond.code yX7_showRow cX7_showRow 4 (some .int) :: UT)) := gu_V (ut 1118 (by decide +kernel) (by decide +kernel)) wm_X7_showRow we_X7_showRow wi_RX7 wc_X7_showRow
theorem wst_X12_282 : ((RX12, 282, "no such row") : String × Nat × String) ∈ STRS := by decide +kernel
def S_X12_writeRow (a0 : Int32) (D : DD) : Option RT := (cI (S_X12_inRange a0 (0 : Int32) (5 : Int32) D) (fun r3 D2 => (if r3 = 0 then some (1, none, D2) else (cI (S_X7_showRow a0 D2) (fun r6 D5 => some (0, some (.int r6), D5))))))
set_option maxRecDepth 100000 in
set_option maxHeartbeats 4000000 in
theorem c_X12_writeRow (l : Launch) (hfl : l.stackTraces = false) (G : va_G) (E : EE) (a0 : Int32) (D : DD) (r : RT) (h : S_X12_writeRow a0 D = some r) : MX l G E yX12_writeRow cX12_writeRow 2 (some .int) (rmx 6) [.ref (E.1 0), .int a0] D r := by
  refine mx_of rfl (Nat.le_of_ble_eq_true rfl) ?_
  intro p e s m args below meth c X hr ht
  unfold S_X12_writeRow at h
  refine g_iload_n X 1 (i0 := 1) dX12_writeRow_0 rfl rfl ?_
  refine g_iconst X (v := (0 : Int32)) dX12_writeRow_1 (by decide) ?_
  refine g_iconst X (v := (5 : Int32)) dX12_writeRow_2 (by decide) ?_
  obtain ⟨r3, D2, e1, h⟩ := cI_s h
  refine g_S X (As := [.int a0, .int (0 : Int32), .int (5 : Int32)]) (rest := []) (c_X12_inRange l G E a0 (0 : Int32) (5 : Int32) _ _ e1) ks_X12_147 ⟨rfl, rfl⟩ hd_X12_inRange (⟨Nat.le_of_ble_eq_true rfl, Nat.le_of_ble_eq_true rfl⟩) rfl rfl (Nat.le_of_ble_eq_true rfl) dX12_writeRow_3 ?_
  refine g_if_ne X (tgt := 20) dX12_writeRow_6 (by decide) (fun c7 => ?_) (fun c7 => ?_)
  · have h := (ite_s h).2 c7
    refine g_aload_n X 0 (i0 := 0) dX12_writeRow_20 rfl rfl ?_
    refine g_get X (D := D2) (v := .ref (E.1 78)) (T := TX12) 0 uX12 (wg_0 E _) rfl 10 (by decide) fl_X12_74 rfl rfl dX12_writeRow_21 ?_
    refine g_aload_n X 0 (i0 := 0) dX12_writeRow_24 rfl rfl ?_
    refine g_get X (D := D2) (v := .ref (E.1 1)) (T := TX12) 0 uX12 (wg_0 E _) rfl 0 (by decide) fl_X12_10 rfl rfl dX12_writeRow_25 ?_
    refine g_iload_n X 1 (i0 := 1) dX12_writeRow_28 rfl rfl ?_
    obtain ⟨r6, D5, e4, h⟩ := cI_s h
    refine g_V X (As := [.ref (E.1 1), .int a0]) (rest := []) (c_X7_showRow l G E a0 _ _ e4) 78 (wg_78 E _) rfl rfl kv_X12_284 ⟨rfl, rfl⟩ ⟨rfl, hd_X7_showRow⟩ (⟨Nat.le_of_ble_eq_true rfl, Nat.le_of_ble_eq_true rfl⟩) rfl rfl (Nat.le_of_ble_eq_true rfl) dX12_writeRow_29 ?_
    exact gx_iret X hr rfl dX12_writeRow_32 (Option.some.inj h)
  · have h := (ite_s h).1 c7
    exact gx_throwW X hfl ht (by decide +kernel) (by decide +kernel) wcl_X12_96 wini_1 wst_X12_282 wat_X12_100 wgo_X12_100 dX12_writeRow_9 dX12_writeRow_12 dX12_writeRow_13 dX12_writeRow_16 dX12_writeRow_19 (Nat.le_of_ble_eq_true rfl) (Nat.le_of_ble_eq_true rfl) (Nat.le_of_ble_eq_true rfl) (Nat.le_of_ble_eq_true rfl) (k := 1) (by decide) rfl (Option.some.inj h)
theorem hd_X7_showCharge : yX7_showCharge.cls ≠ "java/lang/invoke/MethodHandle" ∧ yX7_showCharge.cls ≠ "java/lang/invoke/VarHandle" ∧ (parseMethodDescriptor yX7_showCharge.desc).map (fun d => d.parameters.length) = some 2 := by decide +kernel
theorem wc_X7_showCharge : Cond.code yX7_showCharge cX7_showCharge 4 (some .int) ∈ UT := ut 1147 (by decide +kernel) (by decide +kernel)
theorem we_X7_showCharge : Cond.selects RX7 yX7_showCharge yX7_showCharge ∈ UT := ut 1146 (by decide +kernel) (by decide +kernel)
theorem wm_X7_showCharge : Cond.instanceMethod yX7_showCharge ∈ UT := ut 1145 (by decide +kernel) (by decide +kernel)
theorem kv_X12_287 : GoodIn UT (wsV RX12 287 RX7 yX7_showCharge (Cond.code yX7_showCharge cX7_showCharge 4 (some .int) :: UT)) := gu_V (ut 1144 (by decide +kernel) (by decide +kernel)) wm_X7_showCharge we_X7_showCharge wi_RX7 wc_X7_showCharge
def S_X12_writeCharge (a0 : Int32) (D : DD) : Option RT := (cI (S_X8_hasCharge a0 D) (fun r3 D2 => (if r3 = 0 then some (4, none, D2) else (cI (S_X7_showCharge a0 D2) (fun r6 D5 => some (0, some (.int r6), D5))))))
set_option maxRecDepth 100000 in
set_option maxHeartbeats 4000000 in
theorem c_X12_writeCharge (l : Launch) (hfl : l.stackTraces = false) (G : va_G) (E : EE) (a0 : Int32) (D : DD) (r : RT) (h : S_X12_writeCharge a0 D = some r) : MX l G E yX12_writeCharge cX12_writeCharge 2 (some .int) (rmx 6) [.ref (E.1 0), .int a0] D r := by
  refine mx_of rfl (Nat.le_of_ble_eq_true rfl) ?_
  intro p e s m args below meth c X hr ht
  unfold S_X12_writeCharge at h
  refine g_aload_n X 0 (i0 := 0) dX12_writeCharge_0 rfl rfl ?_
  refine g_get X (D := D) (v := .ref (E.1 1)) (T := TX12) 0 uX12 (wg_0 E _) rfl 0 (by decide) fl_X12_10 rfl rfl dX12_writeCharge_1 ?_
  refine g_iload_n X 1 (i0 := 1) dX12_writeCharge_4 rfl rfl ?_
  obtain ⟨r3, D2, e1, h⟩ := cI_s h
  refine g_V X (As := [.int a0]) (rest := []) (c_X8_hasCharge l G E a0 _ _ e1) 1 (wg_1 E _) rfl rfl kv_X12_170 ⟨rfl, rfl⟩ ⟨rfl, hd_X8_hasCharge⟩ (⟨Nat.le_of_ble_eq_true rfl, Nat.le_of_ble_eq_true rfl⟩) rfl rfl (Nat.le_of_ble_eq_true rfl) dX12_writeCharge_5 ?_
  refine g_if_ne X (tgt := 21) dX12_writeCharge_8 (by decide) (fun c7 => ?_) (fun c7 => ?_)
  · have h := (ite_s h).2 c7
    refine g_aload_n X 0 (i0 := 0) dX12_writeCharge_21 rfl rfl ?_
    refine g_get X (D := D2) (v := .ref (E.1 78)) (T := TX12) 0 uX12 (wg_0 E _) rfl 10 (by decide) fl_X12_74 rfl rfl dX12_writeCharge_22 ?_
    refine g_aload_n X 0 (i0 := 0) dX12_writeCharge_25 rfl rfl ?_
    refine g_get X (D := D2) (v := .ref (E.1 1)) (T := TX12) 0 uX12 (wg_0 E _) rfl 0 (by decide) fl_X12_10 rfl rfl dX12_writeCharge_26 ?_
    refine g_iload_n X 1 (i0 := 1) dX12_writeCharge_29 rfl rfl ?_
    obtain ⟨r6, D5, e4, h⟩ := cI_s h
    refine g_V X (As := [.ref (E.1 1), .int a0]) (rest := []) (c_X7_showCharge l G E a0 _ _ e4) 78 (wg_78 E _) rfl rfl kv_X12_287 ⟨rfl, rfl⟩ ⟨rfl, hd_X7_showCharge⟩ (⟨Nat.le_of_ble_eq_true rfl, Nat.le_of_ble_eq_true rfl⟩) rfl rfl (Nat.le_of_ble_eq_true rfl) dX12_writeCharge_30 ?_
    exact gx_iret X hr rfl dX12_writeCharge_33 (Option.some.inj h)
  · have h := (ite_s h).1 c7
    exact gx_throw X hfl ht (by decide +kernel) (by decide +kernel) wcl_X12_173 wini_4 wst_X12_175 wat_X12_177 wgo_X12_177 dX12_writeCharge_11 dX12_writeCharge_14 dX12_writeCharge_15 dX12_writeCharge_17 dX12_writeCharge_20 (Nat.le_of_ble_eq_true rfl) (Nat.le_of_ble_eq_true rfl) (Nat.le_of_ble_eq_true rfl) (Nat.le_of_ble_eq_true rfl) (k := 4) (by decide) rfl (Option.some.inj h)
theorem hd_X7_signAt : yX7_signAt.cls ≠ "java/lang/invoke/MethodHandle" ∧ yX7_signAt.cls ≠ "java/lang/invoke/VarHandle" ∧ (parseMethodDescriptor yX7_signAt.desc).map (fun d => d.parameters.length) = some 1 := by decide +kernel
theorem kv_X12_290 : GoodIn UT (wsV RX12 290 RX7 yX7_hasSign (Cond.code yX7_hasSign cX7_hasSign 2 (some .boolean) :: UT)) := gu_V (ut 1157 (by decide +kernel) (by decide +kernel)) wm_X7_hasSign we_X7_hasSign wi_RX7 wc_X7_hasSign
theorem wc_X7_signAt : Cond.code yX7_signAt cX7_signAt 2 (some .char) ∈ UT := ut 1165 (by decide +kernel) (by decide +kernel)
theorem we_X7_signAt : Cond.selects RX7 yX7_signAt yX7_signAt ∈ UT := ut 1164 (by decide +kernel) (by decide +kernel)
theorem wm_X7_signAt : Cond.instanceMethod yX7_signAt ∈ UT := ut 1163 (by decide +kernel) (by decide +kernel)
theorem kv_X12_295 : GoodIn UT (wsV RX12 295 RX7 yX7_signAt (Cond.code yX7_signAt cX7_signAt 2 (some .char) :: UT)) := gu_V (ut 1162 (by decide +kernel) (by decide +kernel)) wm_X7_signAt we_X7_signAt wi_RX7 wc_X7_signAt
theorem wst_X12_293 : ((RX12, 293, "no such character") : String × Nat × String) ∈ STRS := by decide +kernel
def S_X12_lineAt (a0 : Int32) (D : DD) : Option RT := (cI (S_X7_hasSign a0 D) (fun r3 D2 => (if r3 = 0 then some (4, none, D2) else (cI (S_X7_signAt a0 D2) (fun r6 D5 => (if vp_nar .char r6 = r6 then some (0, some (.int r6), D5) else none))))))
set_option maxRecDepth 100000 in
set_option maxHeartbeats 4000000 in
theorem c_X12_lineAt (l : Launch) (hfl : l.stackTraces = false) (G : va_G) (E : EE) (a0 : Int32) (D : DD) (r : RT) (h : S_X12_lineAt a0 D = some r) : MX l G E yX12_lineAt cX12_lineAt 2 (some .char) (rmx 6) [.ref (E.1 0), .int a0] D r := by
  refine mx_of rfl (Nat.le_of_ble_eq_true rfl) ?_
  intro p e s m args below meth c X hr ht
  unfold S_X12_lineAt at h
  refine g_aload_n X 0 (i0 := 0) dX12_lineAt_0 rfl rfl ?_
  refine g_get X (D := D) (v := .ref (E.1 78)) (T := TX12) 0 uX12 (wg_0 E _) rfl 10 (by decide) fl_X12_74 rfl rfl dX12_lineAt_1 ?_
  refine g_iload_n X 1 (i0 := 1) dX12_lineAt_4 rfl rfl ?_
  obtain ⟨r3, D2, e1, h⟩ := cI_s h
  refine g_V X (As := [.int a0]) (rest := []) (c_X7_hasSign l G E a0 _ _ e1) 78 (wg_78 E _) rfl rfl kv_X12_290 ⟨rfl, rfl⟩ ⟨rfl, hd_X7_hasSign⟩ (⟨Nat.le_of_ble_eq_true rfl, Nat.le_of_ble_eq_true rfl⟩) rfl rfl (Nat.le_of_ble_eq_true rfl) dX12_lineAt_5 ?_
  refine g_if_ne X (tgt := 22) dX12_lineAt_8 (by decide) (fun c8 => ?_) (fun c8 => ?_)
  · have h := (ite_s h).2 c8
    refine g_aload_n X 0 (i0 := 0) dX12_lineAt_22 rfl rfl ?_
    refine g_get X (D := D2) (v := .ref (E.1 78)) (T := TX12) 0 uX12 (wg_0 E _) rfl 10 (by decide) fl_X12_74 rfl rfl dX12_lineAt_23 ?_
    refine g_iload_n X 1 (i0 := 1) dX12_lineAt_26 rfl rfl ?_
    obtain ⟨r6, D5, e4, h⟩ := cI_s h
    refine g_V X (As := [.int a0]) (rest := []) (c_X7_signAt l G E a0 _ _ e4) 78 (wg_78 E _) rfl rfl kv_X12_295 ⟨rfl, rfl⟩ ⟨rfl, hd_X7_signAt⟩ (⟨Nat.le_of_ble_eq_true rfl, Nat.le_of_ble_eq_true rfl⟩) rfl rfl (Nat.le_of_ble_eq_true rfl) dX12_lineAt_27 ?_
    obtain ⟨n7, h⟩ := chk_s h
    exact gx_iret X hr (by first | exact congrArg Value.int n7 | (rw [show narrow .char (.int r6) = .int (vp_nar .char r6) from rfl, n7])) dX12_lineAt_30 (Option.some.inj h)
  · have h := (ite_s h).1 c8
    exact gx_throwW X hfl ht (by decide +kernel) (by decide +kernel) wcl_X12_173 wini_4 wst_X12_293 wat_X12_177 wgo_X12_177 dX12_lineAt_11 dX12_lineAt_14 dX12_lineAt_15 dX12_lineAt_18 dX12_lineAt_21 (Nat.le_of_ble_eq_true rfl) (Nat.le_of_ble_eq_true rfl) (Nat.le_of_ble_eq_true rfl) (Nat.le_of_ble_eq_true rfl) (k := 4) (by decide) rfl (Option.some.inj h)
def b_X12_chainsAgree_0  (D : DD) : Option ((Nat × List Int32 × DD) ⊕ RT) := some (.inl (1, [(0 : Int32)], D))
def b_X12_chainsAgree_1 (x1 : Int32) (D : DD) : Option ((Nat × List Int32 × DD) ⊕ RT) := (if (D.1 0) ≤ x1 then some (.inr (0, some (.int (1 : Int32)), D)) else (cI (S_X1_countByRounds x1 D) (fun r3 D2 => (cV (S_X1_run x1 D2) (fun D5 => (if (D5.1 126) = r3 then some (.inl (1, [(x1 + (1 : Int32))], D5)) else some (.inr (0, some (.int (0 : Int32)), D5))))))))
def T_X12_chainsAgree (k : Nat) (ls : List Int32) (D : DD) : Option ((Nat × List Int32 × DD) ⊕ RT) := match k, ls with
  | 0, [] => b_X12_chainsAgree_0  D
  | 1, [x1] => b_X12_chainsAgree_1 x1 D
  | _, _ => none
def S_X12_chainsAgree  (D : DD) : Option RT := run T_X12_chainsAgree FUEL 0 [] D
def hg_X12_chainsAgree (p : Program) (l : Launch) (e : Env) (s : State) (m : MethodId) (args : Array Value) (below : List Frame) (meth : Method) (c : Code) (G : va_G) (E : EE) (r : RT) (k : Nat) (ls : List Int32) (D : DD) : Prop := match k, ls with
  | 0, [] => GW p l e (rmm 5) s m args below meth c G E 3 (MQ below (QR G E s.heap.size r) args s 0 0 (fr E s.heap.size)) 0 0 D 0 [(0, .ref (E.1 0))] []
  | 1, [x1] => GW p l e (rmm 5) s m args below meth c G E 3 (MQ below (QR G E s.heap.size r) args s 0 0 (fr E s.heap.size)) 0 0 D 2 [(0, .ref (E.1 0)), (1, .int x1)] []
  | _, _ => True
set_option maxRecDepth 100000 in
set_option maxHeartbeats 4000000 in
theorem bl_X12_chainsAgree_0 {p : Program} {l : Launch} {e : Env} {s : State} {m : MethodId} {args : Array Value} {below : List Frame} {meth : Method} {c : Code} {G : va_G} {E : EE} {r : RT} (X : CX p s m args meth c cX12_chainsAgree RX12 3 G E) (hr : meth.sig.returnType = (some .boolean))  (D : DD) (o : (Nat × List Int32 × DD) ⊕ RT) (h : b_X12_chainsAgree_0  D = some o) (h1 : ∀ x, o = .inl x → hg_X12_chainsAgree p l e s m args below meth c G E r x.1 x.2.1 x.2.2) (h2 : ∀ x, o = .inr x → x = r) : GW p l e (rmm 5) s m args below meth c G E 3 (MQ below (QR G E s.heap.size r) args s 0 0 (fr E s.heap.size)) 0 0 D 0 [(0, .ref (E.1 0))] [] := by
  unfold b_X12_chainsAgree_0 at h
  refine g_iconst X (v := (0 : Int32)) dX12_chainsAgree_0 (by decide) ?_
  refine g_istore_n X (i0 := 1) (lv' := [(1, .int (0 : Int32)), (0, .ref (E.1 0))]) dX12_chainsAgree_1 rfl (by decide) rfl ?_
  refine g_sub (lv' := [(0, .ref (E.1 0)), (1, .int (0 : Int32))]) [1, 0] rfl ?_
  exact h1 _ (Option.some.inj h).symm
set_option maxRecDepth 100000 in
set_option maxHeartbeats 4000000 in
theorem bl_X12_chainsAgree_1 {p : Program} {l : Launch} {e : Env} {s : State} {m : MethodId} {args : Array Value} {below : List Frame} {meth : Method} {c : Code} {G : va_G} {E : EE} {r : RT} (X : CX p s m args meth c cX12_chainsAgree RX12 3 G E) (hr : meth.sig.returnType = (some .boolean)) (x1 : Int32) (D : DD) (o : (Nat × List Int32 × DD) ⊕ RT) (h : b_X12_chainsAgree_1 x1 D = some o) (h1 : ∀ x, o = .inl x → hg_X12_chainsAgree p l e s m args below meth c G E r x.1 x.2.1 x.2.2) (h2 : ∀ x, o = .inr x → x = r) : GW p l e (rmm 5) s m args below meth c G E 3 (MQ below (QR G E s.heap.size r) args s 0 0 (fr E s.heap.size)) 0 0 D 2 [(0, .ref (E.1 0)), (1, .int x1)] [] := by
  unfold b_X12_chainsAgree_1 at h
  refine g_iload_n X 1 (i0 := 1) dX12_chainsAgree_2 rfl rfl ?_
  refine g_aload_n X 0 (i0 := 0) dX12_chainsAgree_3 rfl rfl ?_
  refine g_get X (D := D) (v := .ref (E.1 1)) (T := TX12) 0 uX12 (wg_0 E _) rfl 0 (by decide) fl_X12_10 rfl rfl dX12_chainsAgree_4 ?_
  refine g_get X (D := D) (v := .int (D.1 0)) (T := TX8) 1 uX8 (wg_1 E _) rfl 4 (by decide) fl_X12_184 rfl rfl dX12_chainsAgree_7 ?_
  refine g_icmp_ge X (tgt := 57) dX12_chainsAgree_10 (by decide) (fun c7 => ?_) (fun c7 => ?_)
  · have h := (ite_s h).1 c7
    refine g_iconst X (v := (1 : Int32)) dX12_chainsAgree_57 (by decide) ?_
    exact g_iret X hr rfl dX12_chainsAgree_58 (h2 _ (Option.some.inj h).symm)
  · have h := (ite_s h).2 c7
    refine g_aload_n X 0 (i0 := 0) dX12_chainsAgree_13 rfl rfl ?_
    refine g_get X (D := D) (v := .ref (E.1 61)) (T := TX12) 0 uX12 (wg_0 E _) rfl 5 (by decide) fl_X12_39 rfl rfl dX12_chainsAgree_14 ?_
    refine g_aload_n X 0 (i0 := 0) dX12_chainsAgree_17 rfl rfl ?_
    refine g_get X (D := D) (v := .ref (E.1 1)) (T := TX12) 0 uX12 (wg_0 E _) rfl 0 (by decide) fl_X12_10 rfl rfl dX12_chainsAgree_18 ?_
    refine g_iload_n X 1 (i0 := 1) dX12_chainsAgree_21 rfl rfl ?_
    obtain ⟨r3, D2, e1, h⟩ := cI_s h
    refine g_V X (As := [.ref (E.1 1), .int x1]) (rest := []) (c_X1_countByRounds l G E x1 _ _ e1) 61 (wg_61 E _) rfl rfl kv_X12_200 ⟨rfl, rfl⟩ ⟨rfl, hd_X1_countByRounds⟩ (⟨Nat.le_of_ble_eq_true rfl, Nat.le_of_ble_eq_true rfl⟩) rfl rfl (Nat.le_of_ble_eq_true rfl) dX12_chainsAgree_22 ?_
    refine g_istore_n X (i0 := 2) (lv' := [(2, .int r3), (0, .ref (E.1 0)), (1, .int x1)]) dX12_chainsAgree_25 rfl (by decide) rfl ?_
    refine g_aload_n X 1 (i0 := 0) dX12_chainsAgree_26 rfl rfl ?_
    refine g_get X (D := D2) (v := .ref (E.1 61)) (T := TX12) 0 uX12 (wg_0 E _) rfl 5 (by decide) fl_X12_39 rfl rfl dX12_chainsAgree_27 ?_
    refine g_aload_n X 1 (i0 := 0) dX12_chainsAgree_30 rfl rfl ?_
    refine g_get X (D := D2) (v := .ref (E.1 1)) (T := TX12) 0 uX12 (wg_0 E _) rfl 0 (by decide) fl_X12_10 rfl rfl dX12_chainsAgree_31 ?_
    refine g_iload_n X 2 (i0 := 1) dX12_chainsAgree_34 rfl rfl ?_
    obtain ⟨D5, e4, h⟩ := cV_s h
    refine g_V X (As := [.ref (E.1 1), .int x1]) (rest := []) (c_X1_run l G E x1 _ _ e4) 61 (wg_61 E _) rfl rfl kv_X12_193 ⟨rfl, rfl⟩ ⟨rfl, hd_X1_run⟩ (⟨Nat.le_of_ble_eq_true rfl, Nat.le_of_ble_eq_true rfl⟩) rfl rfl (Nat.le_of_ble_eq_true rfl) dX12_chainsAgree_35 ?_
    refine g_aload_n X 1 (i0 := 0) dX12_chainsAgree_38 rfl rfl ?_
    refine g_get X (D := D5) (v := .ref (E.1 61)) (T := TX12) 0 uX12 (wg_0 E _) rfl 5 (by decide) fl_X12_39 rfl rfl dX12_chainsAgree_39 ?_
    refine g_get X (D := D5) (v := .int (D5.1 126)) (T := TX1) 61 uX1 (wg_61 E _) rfl 3 (by decide) fl_X12_197 rfl rfl dX12_chainsAgree_42 ?_
    refine g_iload_n X 0 (i0 := 2) dX12_chainsAgree_45 rfl rfl ?_
    refine g_icmp_eq X (tgt := 51) dX12_chainsAgree_46 (by decide) (fun c6 => ?_) (fun c6 => ?_)
    · have h := (ite_s h).1 c6
      refine g_iinc X 2 (v := (x1 + (1 : Int32))) (lv' := [(1, .int (x1 + (1 : Int32))), (2, .int r3), (0, .ref (E.1 0))]) dX12_chainsAgree_51 rfl rfl (by decide) rfl ?_
      refine g_goto X (tgt := 2) dX12_chainsAgree_54 (by decide) ?_
      refine g_sub (lv' := [(0, .ref (E.1 0)), (1, .int (x1 + (1 : Int32)))]) [2, 0] rfl ?_
      exact h1 _ (Option.some.inj h).symm
    · have h := (ite_s h).2 c6
      refine g_iconst X (v := (0 : Int32)) dX12_chainsAgree_49 (by decide) ?_
      exact g_iret X hr rfl dX12_chainsAgree_50 (h2 _ (Option.some.inj h).symm)
set_option maxRecDepth 100000 in
set_option maxHeartbeats 4000000 in
theorem c_X12_chainsAgree (l : Launch) (G : va_G) (E : EE)  (D : DD) (r : RT) (h : S_X12_chainsAgree  D = some r) : MM l G E yX12_chainsAgree cX12_chainsAgree 3 (some .boolean) (rmm 5) [.ref (E.1 0)] D r := by
  unfold S_X12_chainsAgree at h
  refine m_of rfl (Nat.le_of_ble_eq_true rfl) ?_
  intro p e s m args below meth c X hr
  exact run_G (T := T_X12_chainsAgree) (HG := hg_X12_chainsAgree p l e s m args below meth c G E r) (by
    intro k ls D o hT h1 h2
    unfold T_X12_chainsAgree at hT
    split at hT
    · exact bl_X12_chainsAgree_0 X hr  D o hT h1 h2
    · exact bl_X12_chainsAgree_1 X hr _ D o hT h1 h2
    · cases hT) FUEL 0 [] D h
def b_X12_cutsAgree_0  (D : DD) : Option ((Nat × List Int32 × DD) ⊕ RT) := some (.inl (1, [(1 : Int32)], D))
def b_X12_cutsAgree_1 (x1 : Int32) (D : DD) : Option ((Nat × List Int32 × DD) ⊕ RT) := (if (12 : Int32) < x1 then some (.inr (0, some (.int (1 : Int32)), D)) else (cI (S_X5_coinsByTrial x1 D) (fun r3 D2 => (cI (S_X5_coinsByTable x1 D2) (fun r6 D5 => (if r6 = r3 then some (.inl (1, [(x1 + (1 : Int32))], D5)) else some (.inr (0, some (.int (0 : Int32)), D5))))))))
def T_X12_cutsAgree (k : Nat) (ls : List Int32) (D : DD) : Option ((Nat × List Int32 × DD) ⊕ RT) := match k, ls with
  | 0, [] => b_X12_cutsAgree_0  D
  | 1, [x1] => b_X12_cutsAgree_1 x1 D
  | _, _ => none
def S_X12_cutsAgree  (D : DD) : Option RT := run T_X12_cutsAgree FUEL 0 [] D
def hg_X12_cutsAgree (p : Program) (l : Launch) (e : Env) (s : State) (m : MethodId) (args : Array Value) (below : List Frame) (meth : Method) (c : Code) (G : va_G) (E : EE) (r : RT) (k : Nat) (ls : List Int32) (D : DD) : Prop := match k, ls with
  | 0, [] => GW p l e (rmm 44) s m args below meth c G E 3 (MQ below (QR G E s.heap.size r) args s 0 0 (fr E s.heap.size)) 0 0 D 0 [(0, .ref (E.1 0))] []
  | 1, [x1] => GW p l e (rmm 44) s m args below meth c G E 3 (MQ below (QR G E s.heap.size r) args s 0 0 (fr E s.heap.size)) 0 0 D 2 [(0, .ref (E.1 0)), (1, .int x1)] []
  | _, _ => True
set_option maxRecDepth 100000 in
set_option maxHeartbeats 4000000 in
theorem bl_X12_cutsAgree_0 {p : Program} {l : Launch} {e : Env} {s : State} {m : MethodId} {args : Array Value} {below : List Frame} {meth : Method} {c : Code} {G : va_G} {E : EE} {r : RT} (X : CX p s m args meth c cX12_cutsAgree RX12 3 G E) (hr : meth.sig.returnType = (some .boolean))  (D : DD) (o : (Nat × List Int32 × DD) ⊕ RT) (h : b_X12_cutsAgree_0  D = some o) (h1 : ∀ x, o = .inl x → hg_X12_cutsAgree p l e s m args below meth c G E r x.1 x.2.1 x.2.2) (h2 : ∀ x, o = .inr x → x = r) : GW p l e (rmm 44) s m args below meth c G E 3 (MQ below (QR G E s.heap.size r) args s 0 0 (fr E s.heap.size)) 0 0 D 0 [(0, .ref (E.1 0))] [] := by
  unfold b_X12_cutsAgree_0 at h
  refine g_iconst X (v := (1 : Int32)) dX12_cutsAgree_0 (by decide) ?_
  refine g_istore_n X (i0 := 1) (lv' := [(1, .int (1 : Int32)), (0, .ref (E.1 0))]) dX12_cutsAgree_1 rfl (by decide) rfl ?_
  refine g_sub (lv' := [(0, .ref (E.1 0)), (1, .int (1 : Int32))]) [1, 0] rfl ?_
  exact h1 _ (Option.some.inj h).symm
set_option maxRecDepth 100000 in
set_option maxHeartbeats 4000000 in
theorem bl_X12_cutsAgree_1 {p : Program} {l : Launch} {e : Env} {s : State} {m : MethodId} {args : Array Value} {below : List Frame} {meth : Method} {c : Code} {G : va_G} {E : EE} {r : RT} (X : CX p s m args meth c cX12_cutsAgree RX12 3 G E) (hr : meth.sig.returnType = (some .boolean)) (x1 : Int32) (D : DD) (o : (Nat × List Int32 × DD) ⊕ RT) (h : b_X12_cutsAgree_1 x1 D = some o) (h1 : ∀ x, o = .inl x → hg_X12_cutsAgree p l e s m args below meth c G E r x.1 x.2.1 x.2.2) (h2 : ∀ x, o = .inr x → x = r) : GW p l e (rmm 44) s m args below meth c G E 3 (MQ below (QR G E s.heap.size r) args s 0 0 (fr E s.heap.size)) 0 0 D 2 [(0, .ref (E.1 0)), (1, .int x1)] [] := by
  unfold b_X12_cutsAgree_1 at h
  refine g_iload_n X 1 (i0 := 1) dX12_cutsAgree_2 rfl rfl ?_
  refine g_bipush X (v := (12 : Int32)) dX12_cutsAgree_3 (by decide) ?_
  refine g_icmp_gt X (tgt := 41) dX12_cutsAgree_5 (by decide) (fun c8 => ?_) (fun c8 => ?_)
  · have h := (ite_s h).1 c8
    refine g_iconst X (v := (1 : Int32)) dX12_cutsAgree_41 (by decide) ?_
    exact g_iret X hr rfl dX12_cutsAgree_42 (h2 _ (Option.some.inj h).symm)
  · have h := (ite_s h).2 c8
    refine g_aload_n X 0 (i0 := 0) dX12_cutsAgree_8 rfl rfl ?_
    refine g_get X (D := D) (v := .ref (E.1 1)) (T := TX12) 0 uX12 (wg_0 E _) rfl 0 (by decide) fl_X12_10 rfl rfl dX12_cutsAgree_9 ?_
    refine g_iload_n X 1 (i0 := 1) dX12_cutsAgree_12 rfl rfl ?_
    obtain ⟨r3, D2, e1, h⟩ := cI_s h
    refine g_S X (As := [.ref (E.1 1), .int x1]) (rest := []) (c_X5_coinsByTrial l G E x1 _ _ e1) ks_X12_246 ⟨rfl, rfl⟩ hd_X5_coinsByTrial (⟨Nat.le_of_ble_eq_true rfl, Nat.le_of_ble_eq_true rfl⟩) rfl rfl (Nat.le_of_ble_eq_true rfl) dX12_cutsAgree_13 ?_
    refine g_istore_n X (i0 := 2) (lv' := [(2, .int r3), (0, .ref (E.1 0)), (1, .int x1)]) dX12_cutsAgree_16 rfl (by decide) rfl ?_
    refine g_aload_n X 1 (i0 := 0) dX12_cutsAgree_17 rfl rfl ?_
    refine g_get X (D := D2) (v := .ref (E.1 75)) (T := TX12) 0 uX12 (wg_0 E _) rfl 9 (by decide) fl_X12_67 rfl rfl dX12_cutsAgree_18 ?_
    refine g_aload_n X 1 (i0 := 0) dX12_cutsAgree_21 rfl rfl ?_
    refine g_get X (D := D2) (v := .ref (E.1 1)) (T := TX12) 0 uX12 (wg_0 E _) rfl 0 (by decide) fl_X12_10 rfl rfl dX12_cutsAgree_22 ?_
    refine g_iload_n X 2 (i0 := 1) dX12_cutsAgree_25 rfl rfl ?_
    obtain ⟨r6, D5, e4, h⟩ := cI_s h
    refine g_V X (As := [.ref (E.1 1), .int x1]) (rest := []) (c_X5_coinsByTable l G E x1 _ _ e4) 75 (wg_75 E _) rfl rfl kv_X12_243 ⟨rfl, rfl⟩ ⟨rfl, hd_X5_coinsByTable⟩ (⟨Nat.le_of_ble_eq_true rfl, Nat.le_of_ble_eq_true rfl⟩) rfl rfl (Nat.le_of_ble_eq_true rfl) dX12_cutsAgree_26 ?_
    refine g_iload_n X 0 (i0 := 2) dX12_cutsAgree_29 rfl rfl ?_
    refine g_icmp_eq X (tgt := 35) dX12_cutsAgree_30 (by decide) (fun c7 => ?_) (fun c7 => ?_)
    · have h := (ite_s h).1 c7
      refine g_iinc X 2 (v := (x1 + (1 : Int32))) (lv' := [(1, .int (x1 + (1 : Int32))), (2, .int r3), (0, .ref (E.1 0))]) dX12_cutsAgree_35 rfl rfl (by decide) rfl ?_
      refine g_goto X (tgt := 2) dX12_cutsAgree_38 (by decide) ?_
      refine g_sub (lv' := [(0, .ref (E.1 0)), (1, .int (x1 + (1 : Int32)))]) [2, 0] rfl ?_
      exact h1 _ (Option.some.inj h).symm
    · have h := (ite_s h).2 c7
      refine g_iconst X (v := (0 : Int32)) dX12_cutsAgree_33 (by decide) ?_
      exact g_iret X hr rfl dX12_cutsAgree_34 (h2 _ (Option.some.inj h).symm)
set_option maxRecDepth 100000 in
set_option maxHeartbeats 4000000 in
theorem c_X12_cutsAgree (l : Launch) (G : va_G) (E : EE)  (D : DD) (r : RT) (h : S_X12_cutsAgree  D = some r) : MM l G E yX12_cutsAgree cX12_cutsAgree 3 (some .boolean) (rmm 44) [.ref (E.1 0)] D r := by
  unfold S_X12_cutsAgree at h
  refine m_of rfl (Nat.le_of_ble_eq_true rfl) ?_
  intro p e s m args below meth c X hr
  exact run_G (T := T_X12_cutsAgree) (HG := hg_X12_cutsAgree p l e s m args below meth c G E r) (by
    intro k ls D o hT h1 h2
    unfold T_X12_cutsAgree at hT
    split at hT
    · exact bl_X12_cutsAgree_0 X hr  D o hT h1 h2
    · exact bl_X12_cutsAgree_1 X hr _ D o hT h1 h2
    · cases hT) FUEL 0 [] D h
def S_X12_wallAnswersAgree  (D : DD) : Option RT := (cI (S_X10_costByNearest D) (fun r3 D2 => (cI (S_X10_costByRounds D2) (fun r6 D5 => (if r3 = r6 then (cI (S_X9_countByMoving D5) (fun r9 D8 => (cI (S_X9_countByCells D8) (fun r12 D11 => (if r9 = r12 then (cI (S_X2_sizeByRectangles D11) (fun r15 D14 => (cI (S_X2_sizeByHeights D14) (fun r18 D17 => (if r15 = r18 then some (0, some (.int (1 : Int32)), D17) else some (0, some (.int (0 : Int32)), D17)))))) else some (0, some (.int (0 : Int32)), D11)))))) else some (0, some (.int (0 : Int32)), D5))))))
set_option maxRecDepth 100000 in
set_option maxHeartbeats 4000000 in
theorem c_X12_wallAnswersAgree (l : Launch) (G : va_G) (E : EE)  (D : DD) (r : RT) (h : S_X12_wallAnswersAgree  D = some r) : MM l G E yX12_wallAnswersAgree cX12_wallAnswersAgree 1 (some .boolean) (rmm 44) [.ref (E.1 0)] D r := by
  refine m_of rfl (Nat.le_of_ble_eq_true rfl) ?_
  intro p e s m args below meth c X hr
  unfold S_X12_wallAnswersAgree at h
  refine g_aload_n X 0 (i0 := 0) dX12_wallAnswersAgree_0 rfl rfl ?_
  refine g_get X (D := D) (v := .ref (E.1 65)) (T := TX12) 0 uX12 (wg_0 E _) rfl 6 (by decide) fl_X12_46 rfl rfl dX12_wallAnswersAgree_1 ?_
  refine g_aload_n X 0 (i0 := 0) dX12_wallAnswersAgree_4 rfl rfl ?_
  refine g_get X (D := D) (v := .ref (E.1 1)) (T := TX12) 0 uX12 (wg_0 E _) rfl 0 (by decide) fl_X12_10 rfl rfl dX12_wallAnswersAgree_5 ?_
  obtain ⟨r3, D2, e1, h⟩ := cI_s h
  refine g_V X (As := [.ref (E.1 1)]) (rest := []) (c_X10_costByNearest l G E  _ _ e1) 65 (wg_65 E _) rfl rfl kv_X12_211 ⟨rfl, rfl⟩ ⟨rfl, hd_X10_costByNearest⟩ (⟨Nat.le_of_ble_eq_true rfl, Nat.le_of_ble_eq_true rfl⟩) rfl rfl (Nat.le_of_ble_eq_true rfl) dX12_wallAnswersAgree_8 ?_
  refine g_aload_n X 0 (i0 := 0) dX12_wallAnswersAgree_11 rfl rfl ?_
  refine g_get X (D := D2) (v := .ref (E.1 65)) (T := TX12) 0 uX12 (wg_0 E _) rfl 6 (by decide) fl_X12_46 rfl rfl dX12_wallAnswersAgree_12 ?_
  refine g_aload_n X 0 (i0 := 0) dX12_wallAnswersAgree_15 rfl rfl ?_
  refine g_get X (D := D2) (v := .ref (E.1 1)) (T := TX12) 0 uX12 (wg_0 E _) rfl 0 (by decide) fl_X12_10 rfl rfl dX12_wallAnswersAgree_16 ?_
  obtain ⟨r6, D5, e4, h⟩ := cI_s h
  refine g_V X (As := [.ref (E.1 1)]) (rest := [.int r3]) (c_X10_costByRounds l G E  _ _ e4) 65 (wg_65 E _) rfl rfl kv_X12_215 ⟨rfl, rfl⟩ ⟨rfl, hd_X10_costByRounds⟩ (⟨Nat.le_of_ble_eq_true rfl, Nat.le_of_ble_eq_true rfl⟩) rfl rfl (Nat.le_of_ble_eq_true rfl) dX12_wallAnswersAgree_19 ?_
  refine g_icmp_ne X (tgt := 79) dX12_wallAnswersAgree_22 (by decide) (fun c21 => ?_) (fun c21 => ?_)
  · have h := (ite_s h).2 c21
    refine g_iconst X (v := (0 : Int32)) dX12_wallAnswersAgree_79 (by decide) ?_
    exact g_iret X hr rfl dX12_wallAnswersAgree_80 (Option.some.inj h)
  · have h := (ite_s h).1 c21
    refine g_aload_n X 0 (i0 := 0) dX12_wallAnswersAgree_25 rfl rfl ?_
    refine g_get X (D := D5) (v := .ref (E.1 68)) (T := TX12) 0 uX12 (wg_0 E _) rfl 7 (by decide) fl_X12_53 rfl rfl dX12_wallAnswersAgree_26 ?_
    refine g_aload_n X 0 (i0 := 0) dX12_wallAnswersAgree_29 rfl rfl ?_
    refine g_get X (D := D5) (v := .ref (E.1 1)) (T := TX12) 0 uX12 (wg_0 E _) rfl 0 (by decide) fl_X12_10 rfl rfl dX12_wallAnswersAgree_30 ?_
    obtain ⟨r9, D8, e7, h⟩ := cI_s h
    refine g_V X (As := [.ref (E.1 1)]) (rest := []) (c_X9_countByMoving l G E  _ _ e7) 68 (wg_68 E _) rfl rfl kv_X12_218 ⟨rfl, rfl⟩ ⟨rfl, hd_X9_countByMoving⟩ (⟨Nat.le_of_ble_eq_true rfl, Nat.le_of_ble_eq_true rfl⟩) rfl rfl (Nat.le_of_ble_eq_true rfl) dX12_wallAnswersAgree_33 ?_
    refine g_aload_n X 0 (i0 := 0) dX12_wallAnswersAgree_36 rfl rfl ?_
    refine g_get X (D := D8) (v := .ref (E.1 68)) (T := TX12) 0 uX12 (wg_0 E _) rfl 7 (by decide) fl_X12_53 rfl rfl dX12_wallAnswersAgree_37 ?_
    refine g_aload_n X 0 (i0 := 0) dX12_wallAnswersAgree_40 rfl rfl ?_
    refine g_get X (D := D8) (v := .ref (E.1 1)) (T := TX12) 0 uX12 (wg_0 E _) rfl 0 (by decide) fl_X12_10 rfl rfl dX12_wallAnswersAgree_41 ?_
    obtain ⟨r12, D11, e10, h⟩ := cI_s h
    refine g_V X (As := [.ref (E.1 1)]) (rest := [.int r9]) (c_X9_countByCells l G E  _ _ e10) 68 (wg_68 E _) rfl rfl kv_X12_221 ⟨rfl, rfl⟩ ⟨rfl, hd_X9_countByCells⟩ (⟨Nat.le_of_ble_eq_true rfl, Nat.le_of_ble_eq_true rfl⟩) rfl rfl (Nat.le_of_ble_eq_true rfl) dX12_wallAnswersAgree_44 ?_
    refine g_icmp_ne X (tgt := 79) dX12_wallAnswersAgree_47 (by decide) (fun c20 => ?_) (fun c20 => ?_)
    · have h := (ite_s h).2 c20
      refine g_iconst X (v := (0 : Int32)) dX12_wallAnswersAgree_79 (by decide) ?_
      exact g_iret X hr rfl dX12_wallAnswersAgree_80 (Option.some.inj h)
    · have h := (ite_s h).1 c20
      refine g_aload_n X 0 (i0 := 0) dX12_wallAnswersAgree_50 rfl rfl ?_
      refine g_get X (D := D11) (v := .ref (E.1 73)) (T := TX12) 0 uX12 (wg_0 E _) rfl 8 (by decide) fl_X12_60 rfl rfl dX12_wallAnswersAgree_51 ?_
      refine g_aload_n X 0 (i0 := 0) dX12_wallAnswersAgree_54 rfl rfl ?_
      refine g_get X (D := D11) (v := .ref (E.1 1)) (T := TX12) 0 uX12 (wg_0 E _) rfl 0 (by decide) fl_X12_10 rfl rfl dX12_wallAnswersAgree_55 ?_
      obtain ⟨r15, D14, e13, h⟩ := cI_s h
      refine g_V X (As := [.ref (E.1 1)]) (rest := []) (c_X2_sizeByRectangles l G E  _ _ e13) 73 (wg_73 E _) rfl rfl kv_X12_224 ⟨rfl, rfl⟩ ⟨rfl, hd_X2_sizeByRectangles⟩ (⟨Nat.le_of_ble_eq_true rfl, Nat.le_of_ble_eq_true rfl⟩) rfl rfl (Nat.le_of_ble_eq_true rfl) dX12_wallAnswersAgree_58 ?_
      refine g_aload_n X 0 (i0 := 0) dX12_wallAnswersAgree_61 rfl rfl ?_
      refine g_get X (D := D14) (v := .ref (E.1 73)) (T := TX12) 0 uX12 (wg_0 E _) rfl 8 (by decide) fl_X12_60 rfl rfl dX12_wallAnswersAgree_62 ?_
      refine g_aload_n X 0 (i0 := 0) dX12_wallAnswersAgree_65 rfl rfl ?_
      refine g_get X (D := D14) (v := .ref (E.1 1)) (T := TX12) 0 uX12 (wg_0 E _) rfl 0 (by decide) fl_X12_10 rfl rfl dX12_wallAnswersAgree_66 ?_
      obtain ⟨r18, D17, e16, h⟩ := cI_s h
      refine g_V X (As := [.ref (E.1 1)]) (rest := [.int r15]) (c_X2_sizeByHeights l G E  _ _ e16) 73 (wg_73 E _) rfl rfl kv_X12_227 ⟨rfl, rfl⟩ ⟨rfl, hd_X2_sizeByHeights⟩ (⟨Nat.le_of_ble_eq_true rfl, Nat.le_of_ble_eq_true rfl⟩) rfl rfl (Nat.le_of_ble_eq_true rfl) dX12_wallAnswersAgree_69 ?_
      refine g_icmp_ne X (tgt := 79) dX12_wallAnswersAgree_72 (by decide) (fun c19 => ?_) (fun c19 => ?_)
      · have h := (ite_s h).2 c19
        refine g_iconst X (v := (0 : Int32)) dX12_wallAnswersAgree_79 (by decide) ?_
        exact g_iret X hr rfl dX12_wallAnswersAgree_80 (Option.some.inj h)
      · have h := (ite_s h).1 c19
        refine g_iconst X (v := (1 : Int32)) dX12_wallAnswersAgree_75 (by decide) ?_
        refine g_goto X (tgt := 80) dX12_wallAnswersAgree_76 (by decide) ?_
        exact g_iret X hr rfl dX12_wallAnswersAgree_80 (Option.some.inj h)
theorem hd_X12_chainsAgree : yX12_chainsAgree.cls ≠ "java/lang/invoke/MethodHandle" ∧ yX12_chainsAgree.cls ≠ "java/lang/invoke/VarHandle" ∧ (parseMethodDescriptor yX12_chainsAgree.desc).map (fun d => d.parameters.length) = some 0 := by decide +kernel
theorem hd_X12_cutsAgree : yX12_cutsAgree.cls ≠ "java/lang/invoke/MethodHandle" ∧ yX12_cutsAgree.cls ≠ "java/lang/invoke/VarHandle" ∧ (parseMethodDescriptor yX12_cutsAgree.desc).map (fun d => d.parameters.length) = some 0 := by decide +kernel
theorem hd_X12_wallAnswersAgree : yX12_wallAnswersAgree.cls ≠ "java/lang/invoke/MethodHandle" ∧ yX12_wallAnswersAgree.cls ≠ "java/lang/invoke/VarHandle" ∧ (parseMethodDescriptor yX12_wallAnswersAgree.desc).map (fun d => d.parameters.length) = some 0 := by decide +kernel
theorem wc_X12_chainsAgree : Cond.code yX12_chainsAgree cX12_chainsAgree 3 (some .boolean) ∈ UT := ut 525 (by decide +kernel) (by decide +kernel)
theorem we_X12_chainsAgree : Cond.selects RX12 yX12_chainsAgree yX12_chainsAgree ∈ UT := ut 7 (by decide +kernel) (by decide +kernel)
theorem wm_X12_chainsAgree : Cond.instanceMethod yX12_chainsAgree ∈ UT := ut 524 (by decide +kernel) (by decide +kernel)
theorem kv_X12_299 : GoodIn UT (wsV RX12 299 RX12 yX12_chainsAgree (Cond.code yX12_chainsAgree cX12_chainsAgree 3 (some .boolean) :: UT)) := gu_V (ut 522 (by decide +kernel) (by decide +kernel)) wm_X12_chainsAgree we_X12_chainsAgree wi_RX12 wc_X12_chainsAgree
theorem wc_X12_wallAnswersAgree : Cond.code yX12_wallAnswersAgree cX12_wallAnswersAgree 1 (some .boolean) ∈ UT := ut 596 (by decide +kernel) (by decide +kernel)
theorem we_X12_wallAnswersAgree : Cond.selects RX12 yX12_wallAnswersAgree yX12_wallAnswersAgree ∈ UT := ut 14 (by decide +kernel) (by decide +kernel)
theorem wm_X12_wallAnswersAgree : Cond.instanceMethod yX12_wallAnswersAgree ∈ UT := ut 595 (by decide +kernel) (by decide +kernel)
theorem kv_X12_303 : GoodIn UT (wsV RX12 303 RX12 yX12_wallAnswersAgree (Cond.code yX12_wallAnswersAgree cX12_wallAnswersAgree 1 (some .boolean) :: UT)) := gu_V (ut 593 (by decide +kernel) (by decide +kernel)) wm_X12_wallAnswersAgree we_X12_wallAnswersAgree wi_RX12 wc_X12_wallAnswersAgree
theorem wc_X12_cutsAgree : Cond.code yX12_cutsAgree cX12_cutsAgree 3 (some .boolean) ∈ UT := ut 600 (by decide +kernel) (by decide +kernel)
theorem we_X12_cutsAgree : Cond.selects RX12 yX12_cutsAgree yX12_cutsAgree ∈ UT := ut 15 (by decide +kernel) (by decide +kernel)
theorem wm_X12_cutsAgree : Cond.instanceMethod yX12_cutsAgree ∈ UT := ut 599 (by decide +kernel) (by decide +kernel)
theorem kv_X12_306 : GoodIn UT (wsV RX12 306 RX12 yX12_cutsAgree (Cond.code yX12_cutsAgree cX12_cutsAgree 3 (some .boolean) :: UT)) := gu_V (ut 597 (by decide +kernel) (by decide +kernel)) wm_X12_cutsAgree we_X12_cutsAgree wi_RX12 wc_X12_cutsAgree
def S_X12_isConsistent  (D : DD) : Option RT := (cI (S_X12_chainsAgree D) (fun r3 D2 => (if r3 = 0 then some (0, some (.int (0 : Int32)), D2) else (cI (S_X12_wallAnswersAgree D2) (fun r6 D5 => (if r6 = 0 then some (0, some (.int (0 : Int32)), D5) else (cI (S_X12_cutsAgree D5) (fun r9 D8 => (if r9 = 0 then some (0, some (.int (0 : Int32)), D8) else (if (D8.1 1) = ((D8.1 2) - (D8.1 3)) then some (0, some (.int (1 : Int32)), D8) else some (0, some (.int (0 : Int32)), D8)))))))))))
set_option maxRecDepth 100000 in
set_option maxHeartbeats 4000000 in
theorem c_X12_isConsistent (l : Launch) (G : va_G) (E : EE)  (D : DD) (r : RT) (h : S_X12_isConsistent  D = some r) : MM l G E yX12_isConsistent cX12_isConsistent 1 (some .boolean) (rmm 45) [.ref (E.1 0)] D r := by
  refine m_of rfl (Nat.le_of_ble_eq_true rfl) ?_
  intro p e s m args below meth c X hr
  unfold S_X12_isConsistent at h
  refine g_aload_n X 0 (i0 := 0) dX12_isConsistent_0 rfl rfl ?_
  obtain ⟨r3, D2, e1, h⟩ := cI_s h
  refine g_V X (As := []) (rest := []) (c_X12_chainsAgree l G E  _ _ e1) 0 (wg_0 E _) rfl rfl kv_X12_299 ⟨rfl, rfl⟩ ⟨rfl, hd_X12_chainsAgree⟩ (⟨Nat.le_of_ble_eq_true rfl, Nat.le_of_ble_eq_true rfl⟩) rfl rfl (Nat.le_of_ble_eq_true rfl) dX12_isConsistent_1 ?_
  refine g_if_eq X (tgt := 50) dX12_isConsistent_4 (by decide) (fun c13 => ?_) (fun c13 => ?_)
  · have h := (ite_s h).1 c13
    refine g_iconst X (v := (0 : Int32)) dX12_isConsistent_50 (by decide) ?_
    exact g_iret X hr rfl dX12_isConsistent_51 (Option.some.inj h)
  · have h := (ite_s h).2 c13
    refine g_aload_n X 0 (i0 := 0) dX12_isConsistent_7 rfl rfl ?_
    obtain ⟨r6, D5, e4, h⟩ := cI_s h
    refine g_V X (As := []) (rest := []) (c_X12_wallAnswersAgree l G E  _ _ e4) 0 (wg_0 E _) rfl rfl kv_X12_303 ⟨rfl, rfl⟩ ⟨rfl, hd_X12_wallAnswersAgree⟩ (⟨Nat.le_of_ble_eq_true rfl, Nat.le_of_ble_eq_true rfl⟩) rfl rfl (Nat.le_of_ble_eq_true rfl) dX12_isConsistent_8 ?_
    refine g_if_eq X (tgt := 50) dX12_isConsistent_11 (by decide) (fun c12 => ?_) (fun c12 => ?_)
    · have h := (ite_s h).1 c12
      refine g_iconst X (v := (0 : Int32)) dX12_isConsistent_50 (by decide) ?_
      exact g_iret X hr rfl dX12_isConsistent_51 (Option.some.inj h)
    · have h := (ite_s h).2 c12
      refine g_aload_n X 0 (i0 := 0) dX12_isConsistent_14 rfl rfl ?_
      obtain ⟨r9, D8, e7, h⟩ := cI_s h
      refine g_V X (As := []) (rest := []) (c_X12_cutsAgree l G E  _ _ e7) 0 (wg_0 E _) rfl rfl kv_X12_306 ⟨rfl, rfl⟩ ⟨rfl, hd_X12_cutsAgree⟩ (⟨Nat.le_of_ble_eq_true rfl, Nat.le_of_ble_eq_true rfl⟩) rfl rfl (Nat.le_of_ble_eq_true rfl) dX12_isConsistent_15 ?_
      refine g_if_eq X (tgt := 50) dX12_isConsistent_18 (by decide) (fun c11 => ?_) (fun c11 => ?_)
      · have h := (ite_s h).1 c11
        refine g_iconst X (v := (0 : Int32)) dX12_isConsistent_50 (by decide) ?_
        exact g_iret X hr rfl dX12_isConsistent_51 (Option.some.inj h)
      · have h := (ite_s h).2 c11
        refine g_aload_n X 0 (i0 := 0) dX12_isConsistent_21 rfl rfl ?_
        refine g_get X (D := D8) (v := .ref (E.1 1)) (T := TX12) 0 uX12 (wg_0 E _) rfl 0 (by decide) fl_X12_10 rfl rfl dX12_isConsistent_22 ?_
        refine g_get X (D := D8) (v := .int (D8.1 1)) (T := TX8) 1 uX8 (wg_1 E _) rfl 5 (by decide) fl_X12_260 rfl rfl dX12_isConsistent_25 ?_
        refine g_aload_n X 0 (i0 := 0) dX12_isConsistent_28 rfl rfl ?_
        refine g_get X (D := D8) (v := .ref (E.1 1)) (T := TX12) 0 uX12 (wg_0 E _) rfl 0 (by decide) fl_X12_10 rfl rfl dX12_isConsistent_29 ?_
        refine g_get X (D := D8) (v := .int (D8.1 2)) (T := TX8) 1 uX8 (wg_1 E _) rfl 6 (by decide) fl_X12_263 rfl rfl dX12_isConsistent_32 ?_
        refine g_aload_n X 0 (i0 := 0) dX12_isConsistent_35 rfl rfl ?_
        refine g_get X (D := D8) (v := .ref (E.1 1)) (T := TX12) 0 uX12 (wg_0 E _) rfl 0 (by decide) fl_X12_10 rfl rfl dX12_isConsistent_36 ?_
        refine g_get X (D := D8) (v := .int (D8.1 3)) (T := TX8) 1 uX8 (wg_1 E _) rfl 7 (by decide) fl_X12_266 rfl rfl dX12_isConsistent_39 ?_
        refine g_isub X dX12_isConsistent_42 ?_
        refine g_icmp_ne X (tgt := 50) dX12_isConsistent_43 (by decide) (fun c10 => ?_) (fun c10 => ?_)
        · have h := (ite_s h).2 c10
          refine g_iconst X (v := (0 : Int32)) dX12_isConsistent_50 (by decide) ?_
          exact g_iret X hr rfl dX12_isConsistent_51 (Option.some.inj h)
        · have h := (ite_s h).1 c10
          refine g_iconst X (v := (1 : Int32)) dX12_isConsistent_46 (by decide) ?_
          refine g_goto X (tgt := 51) dX12_isConsistent_47 (by decide) ?_
          exact g_iret X hr rfl dX12_isConsistent_51 (Option.some.inj h)
theorem fl_X12_81 : Cond.fieldLink RX12 81 "StoneQuarry" "text" "LStoneQuarry$CommandText;" ∈ UT := ut 326 (by decide +kernel) (by decide +kernel)
theorem hd_X4_append : yX4_append.cls ≠ "java/lang/invoke/MethodHandle" ∧ yX4_append.cls ≠ "java/lang/invoke/VarHandle" ∧ (parseMethodDescriptor yX4_append.desc).map (fun d => d.parameters.length) = some 1 := by decide +kernel
theorem hd_X4_isFull : yX4_isFull.cls ≠ "java/lang/invoke/MethodHandle" ∧ yX4_isFull.cls ≠ "java/lang/invoke/VarHandle" ∧ (parseMethodDescriptor yX4_isFull.desc).map (fun d => d.parameters.length) = some 0 := by decide +kernel
theorem wc_X4_isFull : Cond.code yX4_isFull cX4_isFull 1 (some .boolean) ∈ UT := ut 1177 (by decide +kernel) (by decide +kernel)
theorem we_X4_isFull : Cond.selects RX4 yX4_isFull yX4_isFull ∈ UT := ut 1176 (by decide +kernel) (by decide +kernel)
theorem wm_X4_isFull : Cond.instanceMethod yX4_isFull ∈ UT := ut 1175 (by decide +kernel) (by decide +kernel)
theorem kv_X12_309 : GoodIn UT (wsV RX12 309 RX4 yX4_isFull (Cond.code yX4_isFull cX4_isFull 1 (some .boolean) :: UT)) := gu_V (ut 1174 (by decide +kernel) (by decide +kernel)) wm_X4_isFull we_X4_isFull wi_RX4 wc_X4_isFull
theorem wc_X4_append : Cond.code yX4_append cX4_append 2 (some .int) ∈ UT := ut 1182 (by decide +kernel) (by decide +kernel)
theorem we_X4_append : Cond.selects RX4 yX4_append yX4_append ∈ UT := ut 1181 (by decide +kernel) (by decide +kernel)
theorem wm_X4_append : Cond.instanceMethod yX4_append ∈ UT := ut 1180 (by decide +kernel) (by decide +kernel)
theorem kv_X12_314 : GoodIn UT (wsV RX12 314 RX4 yX4_append (Cond.code yX4_append cX4_append 2 (some .int) :: UT)) := gu_V (ut 1179 (by decide +kernel) (by decide +kernel)) wm_X4_append we_X4_append wi_RX4 wc_X4_append
theorem wst_X12_312 : ((RX12, 312, "the text buffer is full") : String × Nat × String) ∈ STRS := by decide +kernel
def S_X12_type (a0 : Int32) (D : DD) : Option RT := (if a0 < (32 : Int32) then some (1, none, D) else (if a0 ≤ (126 : Int32) then (cI (S_X4_isFull D) (fun r3 D2 => (if r3 = 0 then (cI (S_X4_append a0 D2) (fun r6 D5 => some (0, some (.int r6), D5))) else some (2, none, D2)))) else some (1, none, D)))
set_option maxRecDepth 100000 in
set_option maxHeartbeats 4000000 in
theorem c_X12_type (l : Launch) (hfl : l.stackTraces = false) (G : va_G) (E : EE) (a0 : Int32) (D : DD) (r : RT) (h : S_X12_type a0 D = some r) : MX l G E yX12_type cX12_type 2 (some .int) (rmx 6) [.ref (E.1 0), .int a0] D r := by
  refine mx_of rfl (Nat.le_of_ble_eq_true rfl) ?_
  intro p e s m args below meth c X hr ht
  unfold S_X12_type at h
  refine g_iload_n X 1 (i0 := 1) dX12_type_0 rfl rfl ?_
  refine g_bipush X (v := (32 : Int32)) dX12_type_1 (by decide) ?_
  refine g_icmp_lt X (tgt := 12) dX12_type_3 (by decide) (fun c9 => ?_) (fun c9 => ?_)
  · have h := (ite_s h).1 c9
    exact gx_throwW X hfl ht (by decide +kernel) (by decide +kernel) wcl_X12_96 wini_1 wst_X12_293 wat_X12_100 wgo_X12_100 dX12_type_12 dX12_type_15 dX12_type_16 dX12_type_19 dX12_type_22 (Nat.le_of_ble_eq_true rfl) (Nat.le_of_ble_eq_true rfl) (Nat.le_of_ble_eq_true rfl) (Nat.le_of_ble_eq_true rfl) (k := 1) (by decide) rfl (Option.some.inj h)
  · have h := (ite_s h).2 c9
    refine g_iload_n X 1 (i0 := 1) dX12_type_6 rfl rfl ?_
    refine g_bipush X (v := (126 : Int32)) dX12_type_7 (by decide) ?_
    refine g_icmp_le X (tgt := 23) dX12_type_9 (by decide) (fun c8 => ?_) (fun c8 => ?_)
    · have h := (ite_s h).1 c8
      refine g_aload_n X 0 (i0 := 0) dX12_type_23 rfl rfl ?_
      refine g_get X (D := D) (v := .ref (E.1 80)) (T := TX12) 0 uX12 (wg_0 E _) rfl 11 (by decide) fl_X12_81 rfl rfl dX12_type_24 ?_
      obtain ⟨r3, D2, e1, h⟩ := cI_s h
      refine g_V X (As := []) (rest := []) (c_X4_isFull l G E  _ _ e1) 80 (wg_80 E _) rfl rfl kv_X12_309 ⟨rfl, rfl⟩ ⟨rfl, hd_X4_isFull⟩ (⟨Nat.le_of_ble_eq_true rfl, Nat.le_of_ble_eq_true rfl⟩) rfl rfl (Nat.le_of_ble_eq_true rfl) dX12_type_27 ?_
      refine g_if_eq X (tgt := 44) dX12_type_30 (by decide) (fun c7 => ?_) (fun c7 => ?_)
      · have h := (ite_s h).1 c7
        refine g_aload_n X 0 (i0 := 0) dX12_type_44 rfl rfl ?_
        refine g_get X (D := D2) (v := .ref (E.1 80)) (T := TX12) 0 uX12 (wg_0 E _) rfl 11 (by decide) fl_X12_81 rfl rfl dX12_type_45 ?_
        refine g_iload_n X 1 (i0 := 1) dX12_type_48 rfl rfl ?_
        obtain ⟨r6, D5, e4, h⟩ := cI_s h
        refine g_V X (As := [.int a0]) (rest := []) (c_X4_append l G E a0 _ _ e4) 80 (wg_80 E _) rfl rfl kv_X12_314 ⟨rfl, rfl⟩ ⟨rfl, hd_X4_append⟩ (⟨Nat.le_of_ble_eq_true rfl, Nat.le_of_ble_eq_true rfl⟩) rfl rfl (Nat.le_of_ble_eq_true rfl) dX12_type_49 ?_
        exact gx_iret X hr rfl dX12_type_52 (Option.some.inj h)
      · have h := (ite_s h).2 c7
        exact gx_throwW X hfl ht (by decide +kernel) (by decide +kernel) wcl_X12_103 wini_2 wst_X12_312 wat_X12_107 wgo_X12_107 dX12_type_33 dX12_type_36 dX12_type_37 dX12_type_40 dX12_type_43 (Nat.le_of_ble_eq_true rfl) (Nat.le_of_ble_eq_true rfl) (Nat.le_of_ble_eq_true rfl) (Nat.le_of_ble_eq_true rfl) (k := 2) (by decide) rfl (Option.some.inj h)
    · have h := (ite_s h).2 c8
      exact gx_throwW X hfl ht (by decide +kernel) (by decide +kernel) wcl_X12_96 wini_1 wst_X12_293 wat_X12_100 wgo_X12_100 dX12_type_12 dX12_type_15 dX12_type_16 dX12_type_19 dX12_type_22 (Nat.le_of_ble_eq_true rfl) (Nat.le_of_ble_eq_true rfl) (Nat.le_of_ble_eq_true rfl) (Nat.le_of_ble_eq_true rfl) (k := 1) (by decide) rfl (Option.some.inj h)
theorem fl_X12_346 : Cond.fieldLink RX12 346 "StoneQuarry$History" "remembered" "I" ∈ UT := ut 169 (by decide +kernel) (by decide +kernel)
theorem hd_X6_takeBack : yX6_takeBack.cls ≠ "java/lang/invoke/MethodHandle" ∧ yX6_takeBack.cls ≠ "java/lang/invoke/VarHandle" ∧ (parseMethodDescriptor yX6_takeBack.desc).map (fun d => d.parameters.length) = some 1 := by decide +kernel
theorem wc_X6_takeBack : Cond.code yX6_takeBack cX6_takeBack 3 (some .int) ∈ UT := ut 1331 (by decide +kernel) (by decide +kernel)
theorem we_X6_takeBack : Cond.selects RX6 yX6_takeBack yX6_takeBack ∈ UT := ut 1330 (by decide +kernel) (by decide +kernel)
theorem wm_X6_takeBack : Cond.instanceMethod yX6_takeBack ∈ UT := ut 1329 (by decide +kernel) (by decide +kernel)
theorem kv_X12_351 : GoodIn UT (wsV RX12 351 RX6 yX6_takeBack (Cond.code yX6_takeBack cX6_takeBack 3 (some .int) :: UT)) := gu_V (ut 1328 (by decide +kernel) (by decide +kernel)) wm_X6_takeBack we_X6_takeBack wi_RX6 wc_X6_takeBack
theorem wst_X12_349 : ((RX12, 349, "nothing can be undone") : String × Nat × String) ∈ STRS := by decide +kernel
def S_X12_undo  (D : DD) : Option RT := (if (D.1 124) = 0 then some (2, none, D) else (cI (S_X6_takeBack D) (fun r3 D2 => some (0, some (.int r3), D2))))
set_option maxRecDepth 100000 in
set_option maxHeartbeats 4000000 in
theorem c_X12_undo (l : Launch) (hfl : l.stackTraces = false) (G : va_G) (E : EE)  (D : DD) (r : RT) (h : S_X12_undo  D = some r) : MX l G E yX12_undo cX12_undo 1 (some .int) (rmx 6) [.ref (E.1 0)] D r := by
  refine mx_of rfl (Nat.le_of_ble_eq_true rfl) ?_
  intro p e s m args below meth c X hr ht
  unfold S_X12_undo at h
  refine g_aload_n X 0 (i0 := 0) dX12_undo_0 rfl rfl ?_
  refine g_get X (D := D) (v := .ref (E.1 16)) (T := TX12) 0 uX12 (wg_0 E _) rfl 3 (by decide) fl_X12_25 rfl rfl dX12_undo_1 ?_
  refine g_get X (D := D) (v := .int (D.1 124)) (T := TX6) 16 uX6 (wg_16 E _) rfl 2 (by decide) fl_X12_346 rfl rfl dX12_undo_4 ?_
  refine g_if_ne X (tgt := 21) dX12_undo_7 (by decide) (fun c4 => ?_) (fun c4 => ?_)
  · have h := (ite_s h).2 c4
    refine g_aload_n X 0 (i0 := 0) dX12_undo_21 rfl rfl ?_
    refine g_get X (D := D) (v := .ref (E.1 16)) (T := TX12) 0 uX12 (wg_0 E _) rfl 3 (by decide) fl_X12_25 rfl rfl dX12_undo_22 ?_
    refine g_aload_n X 0 (i0 := 0) dX12_undo_25 rfl rfl ?_
    refine g_get X (D := D) (v := .ref (E.1 1)) (T := TX12) 0 uX12 (wg_0 E _) rfl 0 (by decide) fl_X12_10 rfl rfl dX12_undo_26 ?_
    obtain ⟨r3, D2, e1, h⟩ := cI_s h
    refine g_V X (As := [.ref (E.1 1)]) (rest := []) (c_X6_takeBack l G E  _ _ e1) 16 (wg_16 E _) rfl rfl kv_X12_351 ⟨rfl, rfl⟩ ⟨rfl, hd_X6_takeBack⟩ (⟨Nat.le_of_ble_eq_true rfl, Nat.le_of_ble_eq_true rfl⟩) rfl rfl (Nat.le_of_ble_eq_true rfl) dX12_undo_29 ?_
    exact gx_iret X hr rfl dX12_undo_32 (Option.some.inj h)
  · have h := (ite_s h).1 c4
    exact gx_throwW X hfl ht (by decide +kernel) (by decide +kernel) wcl_X12_103 wini_2 wst_X12_349 wat_X12_107 wgo_X12_107 dX12_undo_10 dX12_undo_13 dX12_undo_14 dX12_undo_17 dX12_undo_20 (Nat.le_of_ble_eq_true rfl) (Nat.le_of_ble_eq_true rfl) (Nat.le_of_ble_eq_true rfl) (Nat.le_of_ble_eq_true rfl) (k := 2) (by decide) rfl (Option.some.inj h)
theorem wg_11 (E : EE) (D : DD) : (wd E D)[11]? = some (E.1 11, .inr (8, [.ref (E.1 12), .ref (E.1 13), .ref (E.1 14), .ref (E.1 15), .int (D.1 20), .int (D.1 21), .int (D.1 22), .int (D.1 23), .long (D.2.1 2)])) := rfl
theorem wg_12 (E : EE) (D : DD) : (wd E D)[12]? = some (E.1 12, .inl (E.2 0, 36, .inl (D.2.2.1 8))) := rfl
theorem wg_13 (E : EE) (D : DD) : (wd E D)[13]? = some (E.1 13, .inl (E.2 0, 6, .inl (D.2.2.1 9))) := rfl
theorem wg_14 (E : EE) (D : DD) : (wd E D)[14]? = some (E.1 14, .inl (E.2 0, 6, .inl (D.2.2.1 10))) := rfl
theorem wg_15 (E : EE) (D : DD) : (wd E D)[15]? = some (E.1 15, .inl (E.2 0, 11, .inl (D.2.2.1 11))) := rfl
theorem ws_A_10 (E : EE) (D : DD) (f : Nat → Int32) : (wd E D).set 14 (E.1 14, .inl (E.2 0, 6, .inl f)) = wd E (setA D 10 f) := rfl
theorem ws_A_11 (E : EE) (D : DD) (f : Nat → Int32) : (wd E D).set 15 (E.1 15, .inl (E.2 0, 11, .inl f)) = wd E (setA D 11 f) := rfl
theorem ws_A_8 (E : EE) (D : DD) (f : Nat → Int32) : (wd E D).set 12 (E.1 12, .inl (E.2 0, 36, .inl f)) = wd E (setA D 8 f) := rfl
theorem ws_A_9 (E : EE) (D : DD) (f : Nat → Int32) : (wd E D).set 13 (E.1 13, .inl (E.2 0, 6, .inl f)) = wd E (setA D 9 f) := rfl
theorem ws_I_20 (E : EE) (D : DD) (v : Int32) : (wd E D).set 11 (E.1 11, .inr (8, [.ref (E.1 12), .ref (E.1 13), .ref (E.1 14), .ref (E.1 15), .int v, .int (D.1 21), .int (D.1 22), .int (D.1 23), .long (D.2.1 2)])) = wd E (setI D 20 v) := rfl
theorem ws_I_21 (E : EE) (D : DD) (v : Int32) : (wd E D).set 11 (E.1 11, .inr (8, [.ref (E.1 12), .ref (E.1 13), .ref (E.1 14), .ref (E.1 15), .int (D.1 20), .int v, .int (D.1 22), .int (D.1 23), .long (D.2.1 2)])) = wd E (setI D 21 v) := rfl
theorem ws_I_22 (E : EE) (D : DD) (v : Int32) : (wd E D).set 11 (E.1 11, .inr (8, [.ref (E.1 12), .ref (E.1 13), .ref (E.1 14), .ref (E.1 15), .int (D.1 20), .int (D.1 21), .int v, .int (D.1 23), .long (D.2.1 2)])) = wd E (setI D 22 v) := rfl
theorem ws_I_23 (E : EE) (D : DD) (v : Int32) : (wd E D).set 11 (E.1 11, .inr (8, [.ref (E.1 12), .ref (E.1 13), .ref (E.1 14), .ref (E.1 15), .int (D.1 20), .int (D.1 21), .int (D.1 22), .int v, .long (D.2.1 2)])) = wd E (setI D 23 v) := rfl
theorem ws_J_2 (E : EE) (D : DD) (v : Int64) : (wd E D).set 11 (E.1 11, .inr (8, [.ref (E.1 12), .ref (E.1 13), .ref (E.1 14), .ref (E.1 15), .int (D.1 20), .int (D.1 21), .int (D.1 22), .int (D.1 23), .long v])) = wd E (setJ D 2 v) := rfl
def S_X8_copyFrom_snapshot_state  (D : DD) : Option RT := some (0, none, (setJ (setI (setI (setI (setI (setA (setA (setA (setA D 8 (va_cpy (D.2.2.1 0) (D.2.2.1 8) (0 : Int32).toNatClampNeg (0 : Int32).toNatClampNeg (36 : Int32).toNatClampNeg)) 9 (va_cpy (D.2.2.1 1) (D.2.2.1 9) (0 : Int32).toNatClampNeg (0 : Int32).toNatClampNeg (6 : Int32).toNatClampNeg)) 10 (va_cpy (D.2.2.1 2) (D.2.2.1 10) (0 : Int32).toNatClampNeg (0 : Int32).toNatClampNeg (6 : Int32).toNatClampNeg)) 11 (va_cpy (D.2.2.1 3) (D.2.2.1 11) (0 : Int32).toNatClampNeg (0 : Int32).toNatClampNeg (11 : Int32).toNatClampNeg)) 20 (D.1 0)) 21 (D.1 1)) 22 (D.1 2)) 23 (D.1 3)) 2 (D.2.1 0)))
set_option maxRecDepth 100000 in
set_option maxHeartbeats 4000000 in
theorem c_X8_copyFrom_snapshot_state (l : Launch) (G : va_G) (E : EE)  (D : DD) (r : RT) (h : S_X8_copyFrom_snapshot_state  D = some r) : MM l G E yX8_copyFrom cX8_copyFrom 2 none (rmm 1) [.ref (E.1 11), .ref (E.1 1)] D r := by
  refine m_of rfl (Nat.le_of_ble_eq_true rfl) ?_
  intro p e s m args below meth c X hr
  unfold S_X8_copyFrom_snapshot_state at h
  refine g_aload_n X 1 (i0 := 1) dX8_copyFrom_0 rfl rfl ?_
  refine g_get X (D := D) (v := .ref (E.1 2)) (T := TX8) 1 uX8 (wg_1 E _) rfl 0 (by decide) fl_X8_9 rfl rfl dX8_copyFrom_1 ?_
  refine g_iconst X (v := (0 : Int32)) dX8_copyFrom_4 (by decide) ?_
  refine g_aload_n X 0 (i0 := 0) dX8_copyFrom_5 rfl rfl ?_
  refine g_get X (D := D) (v := .ref (E.1 12)) (T := TX8) 11 uX8 (wg_11 E _) rfl 0 (by decide) fl_X8_9 rfl rfl dX8_copyFrom_6 ?_
  refine g_iconst X (v := (0 : Int32)) dX8_copyFrom_9 (by decide) ?_
  refine g_bipush X (v := (36 : Int32)) dX8_copyFrom_10 (by decide) ?_
  refine g_copyi X (D := D) (f := (D.2.2.1 0)) (g := (D.2.2.1 8)) (sp := (0 : Int32)) (dp := (0 : Int32)) (n := (36 : Int32)) (D' := (setA D 8 (va_cpy (D.2.2.1 0) (D.2.2.1 8) (0 : Int32).toNatClampNeg (0 : Int32).toNatClampNeg (36 : Int32).toNatClampNeg))) wl_X8_30 wn_copy ws_copy wi_sys 2 12 (wg_2 E _) (wg_12 E _) (by decide) (by decide) (by decide) (by decide) (by decide) (ws_A_8 E _ _) (Nat.le_of_ble_eq_true rfl) (Nat.le_of_ble_eq_true rfl) dX8_copyFrom_12 ?_
  refine g_aload_n X 1 (i0 := 1) dX8_copyFrom_15 rfl rfl ?_
  refine g_get X (D := (setA D 8 (va_cpy (D.2.2.1 0) (D.2.2.1 8) (0 : Int32).toNatClampNeg (0 : Int32).toNatClampNeg (36 : Int32).toNatClampNeg))) (v := .ref (E.1 3)) (T := TX8) 1 uX8 (wg_1 E _) rfl 1 (by decide) fl_X8_15 rfl rfl dX8_copyFrom_16 ?_
  refine g_iconst X (v := (0 : Int32)) dX8_copyFrom_19 (by decide) ?_
  refine g_aload_n X 0 (i0 := 0) dX8_copyFrom_20 rfl rfl ?_
  refine g_get X (D := (setA D 8 (va_cpy (D.2.2.1 0) (D.2.2.1 8) (0 : Int32).toNatClampNeg (0 : Int32).toNatClampNeg (36 : Int32).toNatClampNeg))) (v := .ref (E.1 13)) (T := TX8) 11 uX8 (wg_11 E _) rfl 1 (by decide) fl_X8_15 rfl rfl dX8_copyFrom_21 ?_
  refine g_iconst X (v := (0 : Int32)) dX8_copyFrom_24 (by decide) ?_
  refine g_bipush X (v := (6 : Int32)) dX8_copyFrom_25 (by decide) ?_
  refine g_copyi X (D := (setA D 8 (va_cpy (D.2.2.1 0) (D.2.2.1 8) (0 : Int32).toNatClampNeg (0 : Int32).toNatClampNeg (36 : Int32).toNatClampNeg))) (f := (D.2.2.1 1)) (g := (D.2.2.1 9)) (sp := (0 : Int32)) (dp := (0 : Int32)) (n := (6 : Int32)) (D' := (setA (setA D 8 (va_cpy (D.2.2.1 0) (D.2.2.1 8) (0 : Int32).toNatClampNeg (0 : Int32).toNatClampNeg (36 : Int32).toNatClampNeg)) 9 (va_cpy (D.2.2.1 1) (D.2.2.1 9) (0 : Int32).toNatClampNeg (0 : Int32).toNatClampNeg (6 : Int32).toNatClampNeg))) wl_X8_30 wn_copy ws_copy wi_sys 3 13 (wg_3 E _) (wg_13 E _) (by decide) (by decide) (by decide) (by decide) (by decide) (ws_A_9 E _ _) (Nat.le_of_ble_eq_true rfl) (Nat.le_of_ble_eq_true rfl) dX8_copyFrom_27 ?_
  refine g_aload_n X 1 (i0 := 1) dX8_copyFrom_30 rfl rfl ?_
  refine g_get X (D := (setA (setA D 8 (va_cpy (D.2.2.1 0) (D.2.2.1 8) (0 : Int32).toNatClampNeg (0 : Int32).toNatClampNeg (36 : Int32).toNatClampNeg)) 9 (va_cpy (D.2.2.1 1) (D.2.2.1 9) (0 : Int32).toNatClampNeg (0 : Int32).toNatClampNeg (6 : Int32).toNatClampNeg))) (v := .ref (E.1 4)) (T := TX8) 1 uX8 (wg_1 E _) rfl 2 (by decide) fl_X8_18 rfl rfl dX8_copyFrom_31 ?_
  refine g_iconst X (v := (0 : Int32)) dX8_copyFrom_34 (by decide) ?_
  refine g_aload_n X 0 (i0 := 0) dX8_copyFrom_35 rfl rfl ?_
  refine g_get X (D := (setA (setA D 8 (va_cpy (D.2.2.1 0) (D.2.2.1 8) (0 : Int32).toNatClampNeg (0 : Int32).toNatClampNeg (36 : Int32).toNatClampNeg)) 9 (va_cpy (D.2.2.1 1) (D.2.2.1 9) (0 : Int32).toNatClampNeg (0 : Int32).toNatClampNeg (6 : Int32).toNatClampNeg))) (v := .ref (E.1 14)) (T := TX8) 11 uX8 (wg_11 E _) rfl 2 (by decide) fl_X8_18 rfl rfl dX8_copyFrom_36 ?_
  refine g_iconst X (v := (0 : Int32)) dX8_copyFrom_39 (by decide) ?_
  refine g_bipush X (v := (6 : Int32)) dX8_copyFrom_40 (by decide) ?_
  refine g_copyi X (D := (setA (setA D 8 (va_cpy (D.2.2.1 0) (D.2.2.1 8) (0 : Int32).toNatClampNeg (0 : Int32).toNatClampNeg (36 : Int32).toNatClampNeg)) 9 (va_cpy (D.2.2.1 1) (D.2.2.1 9) (0 : Int32).toNatClampNeg (0 : Int32).toNatClampNeg (6 : Int32).toNatClampNeg))) (f := (D.2.2.1 2)) (g := (D.2.2.1 10)) (sp := (0 : Int32)) (dp := (0 : Int32)) (n := (6 : Int32)) (D' := (setA (setA (setA D 8 (va_cpy (D.2.2.1 0) (D.2.2.1 8) (0 : Int32).toNatClampNeg (0 : Int32).toNatClampNeg (36 : Int32).toNatClampNeg)) 9 (va_cpy (D.2.2.1 1) (D.2.2.1 9) (0 : Int32).toNatClampNeg (0 : Int32).toNatClampNeg (6 : Int32).toNatClampNeg)) 10 (va_cpy (D.2.2.1 2) (D.2.2.1 10) (0 : Int32).toNatClampNeg (0 : Int32).toNatClampNeg (6 : Int32).toNatClampNeg))) wl_X8_30 wn_copy ws_copy wi_sys 4 14 (wg_4 E _) (wg_14 E _) (by decide) (by decide) (by decide) (by decide) (by decide) (ws_A_10 E _ _) (Nat.le_of_ble_eq_true rfl) (Nat.le_of_ble_eq_true rfl) dX8_copyFrom_42 ?_
  refine g_aload_n X 1 (i0 := 1) dX8_copyFrom_45 rfl rfl ?_
  refine g_get X (D := (setA (setA (setA D 8 (va_cpy (D.2.2.1 0) (D.2.2.1 8) (0 : Int32).toNatClampNeg (0 : Int32).toNatClampNeg (36 : Int32).toNatClampNeg)) 9 (va_cpy (D.2.2.1 1) (D.2.2.1 9) (0 : Int32).toNatClampNeg (0 : Int32).toNatClampNeg (6 : Int32).toNatClampNeg)) 10 (va_cpy (D.2.2.1 2) (D.2.2.1 10) (0 : Int32).toNatClampNeg (0 : Int32).toNatClampNeg (6 : Int32).toNatClampNeg))) (v := .ref (E.1 5)) (T := TX8) 1 uX8 (wg_1 E _) rfl 3 (by decide) fl_X8_21 rfl rfl dX8_copyFrom_46 ?_
  refine g_iconst X (v := (0 : Int32)) dX8_copyFrom_49 (by decide) ?_
  refine g_aload_n X 0 (i0 := 0) dX8_copyFrom_50 rfl rfl ?_
  refine g_get X (D := (setA (setA (setA D 8 (va_cpy (D.2.2.1 0) (D.2.2.1 8) (0 : Int32).toNatClampNeg (0 : Int32).toNatClampNeg (36 : Int32).toNatClampNeg)) 9 (va_cpy (D.2.2.1 1) (D.2.2.1 9) (0 : Int32).toNatClampNeg (0 : Int32).toNatClampNeg (6 : Int32).toNatClampNeg)) 10 (va_cpy (D.2.2.1 2) (D.2.2.1 10) (0 : Int32).toNatClampNeg (0 : Int32).toNatClampNeg (6 : Int32).toNatClampNeg))) (v := .ref (E.1 15)) (T := TX8) 11 uX8 (wg_11 E _) rfl 3 (by decide) fl_X8_21 rfl rfl dX8_copyFrom_51 ?_
  refine g_iconst X (v := (0 : Int32)) dX8_copyFrom_54 (by decide) ?_
  refine g_bipush X (v := (11 : Int32)) dX8_copyFrom_55 (by decide) ?_
  refine g_copyi X (D := (setA (setA (setA D 8 (va_cpy (D.2.2.1 0) (D.2.2.1 8) (0 : Int32).toNatClampNeg (0 : Int32).toNatClampNeg (36 : Int32).toNatClampNeg)) 9 (va_cpy (D.2.2.1 1) (D.2.2.1 9) (0 : Int32).toNatClampNeg (0 : Int32).toNatClampNeg (6 : Int32).toNatClampNeg)) 10 (va_cpy (D.2.2.1 2) (D.2.2.1 10) (0 : Int32).toNatClampNeg (0 : Int32).toNatClampNeg (6 : Int32).toNatClampNeg))) (f := (D.2.2.1 3)) (g := (D.2.2.1 11)) (sp := (0 : Int32)) (dp := (0 : Int32)) (n := (11 : Int32)) (D' := (setA (setA (setA (setA D 8 (va_cpy (D.2.2.1 0) (D.2.2.1 8) (0 : Int32).toNatClampNeg (0 : Int32).toNatClampNeg (36 : Int32).toNatClampNeg)) 9 (va_cpy (D.2.2.1 1) (D.2.2.1 9) (0 : Int32).toNatClampNeg (0 : Int32).toNatClampNeg (6 : Int32).toNatClampNeg)) 10 (va_cpy (D.2.2.1 2) (D.2.2.1 10) (0 : Int32).toNatClampNeg (0 : Int32).toNatClampNeg (6 : Int32).toNatClampNeg)) 11 (va_cpy (D.2.2.1 3) (D.2.2.1 11) (0 : Int32).toNatClampNeg (0 : Int32).toNatClampNeg (11 : Int32).toNatClampNeg))) wl_X8_30 wn_copy ws_copy wi_sys 5 15 (wg_5 E _) (wg_15 E _) (by decide) (by decide) (by decide) (by decide) (by decide) (ws_A_11 E _ _) (Nat.le_of_ble_eq_true rfl) (Nat.le_of_ble_eq_true rfl) dX8_copyFrom_57 ?_
  refine g_aload_n X 0 (i0 := 0) dX8_copyFrom_60 rfl rfl ?_
  refine g_aload_n X 1 (i0 := 1) dX8_copyFrom_61 rfl rfl ?_
  refine g_get X (D := (setA (setA (setA (setA D 8 (va_cpy (D.2.2.1 0) (D.2.2.1 8) (0 : Int32).toNatClampNeg (0 : Int32).toNatClampNeg (36 : Int32).toNatClampNeg)) 9 (va_cpy (D.2.2.1 1) (D.2.2.1 9) (0 : Int32).toNatClampNeg (0 : Int32).toNatClampNeg (6 : Int32).toNatClampNeg)) 10 (va_cpy (D.2.2.1 2) (D.2.2.1 10) (0 : Int32).toNatClampNeg (0 : Int32).toNatClampNeg (6 : Int32).toNatClampNeg)) 11 (va_cpy (D.2.2.1 3) (D.2.2.1 11) (0 : Int32).toNatClampNeg (0 : Int32).toNatClampNeg (11 : Int32).toNatClampNeg))) (v := .int (D.1 0)) (T := TX8) 1 uX8 (wg_1 E _) rfl 4 (by decide) fl_X8_36 rfl rfl dX8_copyFrom_62 ?_
  refine g_put X (D := (setA (setA (setA (setA D 8 (va_cpy (D.2.2.1 0) (D.2.2.1 8) (0 : Int32).toNatClampNeg (0 : Int32).toNatClampNeg (36 : Int32).toNatClampNeg)) 9 (va_cpy (D.2.2.1 1) (D.2.2.1 9) (0 : Int32).toNatClampNeg (0 : Int32).toNatClampNeg (6 : Int32).toNatClampNeg)) 10 (va_cpy (D.2.2.1 2) (D.2.2.1 10) (0 : Int32).toNatClampNeg (0 : Int32).toNatClampNeg (6 : Int32).toNatClampNeg)) 11 (va_cpy (D.2.2.1 3) (D.2.2.1 11) (0 : Int32).toNatClampNeg (0 : Int32).toNatClampNeg (11 : Int32).toNatClampNeg))) (v := .int (D.1 0)) (T := TX8) (D' := (setI (setA (setA (setA (setA D 8 (va_cpy (D.2.2.1 0) (D.2.2.1 8) (0 : Int32).toNatClampNeg (0 : Int32).toNatClampNeg (36 : Int32).toNatClampNeg)) 9 (va_cpy (D.2.2.1 1) (D.2.2.1 9) (0 : Int32).toNatClampNeg (0 : Int32).toNatClampNeg (6 : Int32).toNatClampNeg)) 10 (va_cpy (D.2.2.1 2) (D.2.2.1 10) (0 : Int32).toNatClampNeg (0 : Int32).toNatClampNeg (6 : Int32).toNatClampNeg)) 11 (va_cpy (D.2.2.1 3) (D.2.2.1 11) (0 : Int32).toNatClampNeg (0 : Int32).toNatClampNeg (11 : Int32).toNatClampNeg)) 20 (D.1 0))) 11 uX8 tyX8 tyX8_ok nmX8 (wg_11 E _) rfl 4 (by decide) fl_X8_36 rfl rfl rfl rfl (Nat.le_of_ble_eq_true rfl) (ws_I_20 E _ _) dX8_copyFrom_65 ?_
  refine g_aload_n X 0 (i0 := 0) dX8_copyFrom_68 rfl rfl ?_
  refine g_aload_n X 1 (i0 := 1) dX8_copyFrom_69 rfl rfl ?_
  refine g_get X (D := (setI (setA (setA (setA (setA D 8 (va_cpy (D.2.2.1 0) (D.2.2.1 8) (0 : Int32).toNatClampNeg (0 : Int32).toNatClampNeg (36 : Int32).toNatClampNeg)) 9 (va_cpy (D.2.2.1 1) (D.2.2.1 9) (0 : Int32).toNatClampNeg (0 : Int32).toNatClampNeg (6 : Int32).toNatClampNeg)) 10 (va_cpy (D.2.2.1 2) (D.2.2.1 10) (0 : Int32).toNatClampNeg (0 : Int32).toNatClampNeg (6 : Int32).toNatClampNeg)) 11 (va_cpy (D.2.2.1 3) (D.2.2.1 11) (0 : Int32).toNatClampNeg (0 : Int32).toNatClampNeg (11 : Int32).toNatClampNeg)) 20 (D.1 0))) (v := .int (D.1 1)) (T := TX8) 1 uX8 (wg_1 E _) rfl 5 (by decide) fl_X8_40 rfl rfl dX8_copyFrom_70 ?_
  refine g_put X (D := (setI (setA (setA (setA (setA D 8 (va_cpy (D.2.2.1 0) (D.2.2.1 8) (0 : Int32).toNatClampNeg (0 : Int32).toNatClampNeg (36 : Int32).toNatClampNeg)) 9 (va_cpy (D.2.2.1 1) (D.2.2.1 9) (0 : Int32).toNatClampNeg (0 : Int32).toNatClampNeg (6 : Int32).toNatClampNeg)) 10 (va_cpy (D.2.2.1 2) (D.2.2.1 10) (0 : Int32).toNatClampNeg (0 : Int32).toNatClampNeg (6 : Int32).toNatClampNeg)) 11 (va_cpy (D.2.2.1 3) (D.2.2.1 11) (0 : Int32).toNatClampNeg (0 : Int32).toNatClampNeg (11 : Int32).toNatClampNeg)) 20 (D.1 0))) (v := .int (D.1 1)) (T := TX8) (D' := (setI (setI (setA (setA (setA (setA D 8 (va_cpy (D.2.2.1 0) (D.2.2.1 8) (0 : Int32).toNatClampNeg (0 : Int32).toNatClampNeg (36 : Int32).toNatClampNeg)) 9 (va_cpy (D.2.2.1 1) (D.2.2.1 9) (0 : Int32).toNatClampNeg (0 : Int32).toNatClampNeg (6 : Int32).toNatClampNeg)) 10 (va_cpy (D.2.2.1 2) (D.2.2.1 10) (0 : Int32).toNatClampNeg (0 : Int32).toNatClampNeg (6 : Int32).toNatClampNeg)) 11 (va_cpy (D.2.2.1 3) (D.2.2.1 11) (0 : Int32).toNatClampNeg (0 : Int32).toNatClampNeg (11 : Int32).toNatClampNeg)) 20 (D.1 0)) 21 (D.1 1))) 11 uX8 tyX8 tyX8_ok nmX8 (wg_11 E _) rfl 5 (by decide) fl_X8_40 rfl rfl rfl rfl (Nat.le_of_ble_eq_true rfl) (ws_I_21 E _ _) dX8_copyFrom_73 ?_
  refine g_aload_n X 0 (i0 := 0) dX8_copyFrom_76 rfl rfl ?_
  refine g_aload_n X 1 (i0 := 1) dX8_copyFrom_77 rfl rfl ?_
  refine g_get X (D := (setI (setI (setA (setA (setA (setA D 8 (va_cpy (D.2.2.1 0) (D.2.2.1 8) (0 : Int32).toNatClampNeg (0 : Int32).toNatClampNeg (36 : Int32).toNatClampNeg)) 9 (va_cpy (D.2.2.1 1) (D.2.2.1 9) (0 : Int32).toNatClampNeg (0 : Int32).toNatClampNeg (6 : Int32).toNatClampNeg)) 10 (va_cpy (D.2.2.1 2) (D.2.2.1 10) (0 : Int32).toNatClampNeg (0 : Int32).toNatClampNeg (6 : Int32).toNatClampNeg)) 11 (va_cpy (D.2.2.1 3) (D.2.2.1 11) (0 : Int32).toNatClampNeg (0 : Int32).toNatClampNeg (11 : Int32).toNatClampNeg)) 20 (D.1 0)) 21 (D.1 1))) (v := .int (D.1 2)) (T := TX8) 1 uX8 (wg_1 E _) rfl 6 (by decide) fl_X8_43 rfl rfl dX8_copyFrom_78 ?_
  refine g_put X (D := (setI (setI (setA (setA (setA (setA D 8 (va_cpy (D.2.2.1 0) (D.2.2.1 8) (0 : Int32).toNatClampNeg (0 : Int32).toNatClampNeg (36 : Int32).toNatClampNeg)) 9 (va_cpy (D.2.2.1 1) (D.2.2.1 9) (0 : Int32).toNatClampNeg (0 : Int32).toNatClampNeg (6 : Int32).toNatClampNeg)) 10 (va_cpy (D.2.2.1 2) (D.2.2.1 10) (0 : Int32).toNatClampNeg (0 : Int32).toNatClampNeg (6 : Int32).toNatClampNeg)) 11 (va_cpy (D.2.2.1 3) (D.2.2.1 11) (0 : Int32).toNatClampNeg (0 : Int32).toNatClampNeg (11 : Int32).toNatClampNeg)) 20 (D.1 0)) 21 (D.1 1))) (v := .int (D.1 2)) (T := TX8) (D' := (setI (setI (setI (setA (setA (setA (setA D 8 (va_cpy (D.2.2.1 0) (D.2.2.1 8) (0 : Int32).toNatClampNeg (0 : Int32).toNatClampNeg (36 : Int32).toNatClampNeg)) 9 (va_cpy (D.2.2.1 1) (D.2.2.1 9) (0 : Int32).toNatClampNeg (0 : Int32).toNatClampNeg (6 : Int32).toNatClampNeg)) 10 (va_cpy (D.2.2.1 2) (D.2.2.1 10) (0 : Int32).toNatClampNeg (0 : Int32).toNatClampNeg (6 : Int32).toNatClampNeg)) 11 (va_cpy (D.2.2.1 3) (D.2.2.1 11) (0 : Int32).toNatClampNeg (0 : Int32).toNatClampNeg (11 : Int32).toNatClampNeg)) 20 (D.1 0)) 21 (D.1 1)) 22 (D.1 2))) 11 uX8 tyX8 tyX8_ok nmX8 (wg_11 E _) rfl 6 (by decide) fl_X8_43 rfl rfl rfl rfl (Nat.le_of_ble_eq_true rfl) (ws_I_22 E _ _) dX8_copyFrom_81 ?_
  refine g_aload_n X 0 (i0 := 0) dX8_copyFrom_84 rfl rfl ?_
  refine g_aload_n X 1 (i0 := 1) dX8_copyFrom_85 rfl rfl ?_
  refine g_get X (D := (setI (setI (setI (setA (setA (setA (setA D 8 (va_cpy (D.2.2.1 0) (D.2.2.1 8) (0 : Int32).toNatClampNeg (0 : Int32).toNatClampNeg (36 : Int32).toNatClampNeg)) 9 (va_cpy (D.2.2.1 1) (D.2.2.1 9) (0 : Int32).toNatClampNeg (0 : Int32).toNatClampNeg (6 : Int32).toNatClampNeg)) 10 (va_cpy (D.2.2.1 2) (D.2.2.1 10) (0 : Int32).toNatClampNeg (0 : Int32).toNatClampNeg (6 : Int32).toNatClampNeg)) 11 (va_cpy (D.2.2.1 3) (D.2.2.1 11) (0 : Int32).toNatClampNeg (0 : Int32).toNatClampNeg (11 : Int32).toNatClampNeg)) 20 (D.1 0)) 21 (D.1 1)) 22 (D.1 2))) (v := .int (D.1 3)) (T := TX8) 1 uX8 (wg_1 E _) rfl 7 (by decide) fl_X8_46 rfl rfl dX8_copyFrom_86 ?_
  refine g_put X (D := (setI (setI (setI (setA (setA (setA (setA D 8 (va_cpy (D.2.2.1 0) (D.2.2.1 8) (0 : Int32).toNatClampNeg (0 : Int32).toNatClampNeg (36 : Int32).toNatClampNeg)) 9 (va_cpy (D.2.2.1 1) (D.2.2.1 9) (0 : Int32).toNatClampNeg (0 : Int32).toNatClampNeg (6 : Int32).toNatClampNeg)) 10 (va_cpy (D.2.2.1 2) (D.2.2.1 10) (0 : Int32).toNatClampNeg (0 : Int32).toNatClampNeg (6 : Int32).toNatClampNeg)) 11 (va_cpy (D.2.2.1 3) (D.2.2.1 11) (0 : Int32).toNatClampNeg (0 : Int32).toNatClampNeg (11 : Int32).toNatClampNeg)) 20 (D.1 0)) 21 (D.1 1)) 22 (D.1 2))) (v := .int (D.1 3)) (T := TX8) (D' := (setI (setI (setI (setI (setA (setA (setA (setA D 8 (va_cpy (D.2.2.1 0) (D.2.2.1 8) (0 : Int32).toNatClampNeg (0 : Int32).toNatClampNeg (36 : Int32).toNatClampNeg)) 9 (va_cpy (D.2.2.1 1) (D.2.2.1 9) (0 : Int32).toNatClampNeg (0 : Int32).toNatClampNeg (6 : Int32).toNatClampNeg)) 10 (va_cpy (D.2.2.1 2) (D.2.2.1 10) (0 : Int32).toNatClampNeg (0 : Int32).toNatClampNeg (6 : Int32).toNatClampNeg)) 11 (va_cpy (D.2.2.1 3) (D.2.2.1 11) (0 : Int32).toNatClampNeg (0 : Int32).toNatClampNeg (11 : Int32).toNatClampNeg)) 20 (D.1 0)) 21 (D.1 1)) 22 (D.1 2)) 23 (D.1 3))) 11 uX8 tyX8 tyX8_ok nmX8 (wg_11 E _) rfl 7 (by decide) fl_X8_46 rfl rfl rfl rfl (Nat.le_of_ble_eq_true rfl) (ws_I_23 E _ _) dX8_copyFrom_89 ?_
  refine g_aload_n X 0 (i0 := 0) dX8_copyFrom_92 rfl rfl ?_
  refine g_aload_n X 1 (i0 := 1) dX8_copyFrom_93 rfl rfl ?_
  refine g_get X (D := (setI (setI (setI (setI (setA (setA (setA (setA D 8 (va_cpy (D.2.2.1 0) (D.2.2.1 8) (0 : Int32).toNatClampNeg (0 : Int32).toNatClampNeg (36 : Int32).toNatClampNeg)) 9 (va_cpy (D.2.2.1 1) (D.2.2.1 9) (0 : Int32).toNatClampNeg (0 : Int32).toNatClampNeg (6 : Int32).toNatClampNeg)) 10 (va_cpy (D.2.2.1 2) (D.2.2.1 10) (0 : Int32).toNatClampNeg (0 : Int32).toNatClampNeg (6 : Int32).toNatClampNeg)) 11 (va_cpy (D.2.2.1 3) (D.2.2.1 11) (0 : Int32).toNatClampNeg (0 : Int32).toNatClampNeg (11 : Int32).toNatClampNeg)) 20 (D.1 0)) 21 (D.1 1)) 22 (D.1 2)) 23 (D.1 3))) (v := .long (D.2.1 0)) (T := TX8) 1 uX8 (wg_1 E _) rfl 8 (by decide) fl_X8_49 rfl rfl dX8_copyFrom_94 ?_
  refine g_put X (D := (setI (setI (setI (setI (setA (setA (setA (setA D 8 (va_cpy (D.2.2.1 0) (D.2.2.1 8) (0 : Int32).toNatClampNeg (0 : Int32).toNatClampNeg (36 : Int32).toNatClampNeg)) 9 (va_cpy (D.2.2.1 1) (D.2.2.1 9) (0 : Int32).toNatClampNeg (0 : Int32).toNatClampNeg (6 : Int32).toNatClampNeg)) 10 (va_cpy (D.2.2.1 2) (D.2.2.1 10) (0 : Int32).toNatClampNeg (0 : Int32).toNatClampNeg (6 : Int32).toNatClampNeg)) 11 (va_cpy (D.2.2.1 3) (D.2.2.1 11) (0 : Int32).toNatClampNeg (0 : Int32).toNatClampNeg (11 : Int32).toNatClampNeg)) 20 (D.1 0)) 21 (D.1 1)) 22 (D.1 2)) 23 (D.1 3))) (v := .long (D.2.1 0)) (T := TX8) (D' := (setJ (setI (setI (setI (setI (setA (setA (setA (setA D 8 (va_cpy (D.2.2.1 0) (D.2.2.1 8) (0 : Int32).toNatClampNeg (0 : Int32).toNatClampNeg (36 : Int32).toNatClampNeg)) 9 (va_cpy (D.2.2.1 1) (D.2.2.1 9) (0 : Int32).toNatClampNeg (0 : Int32).toNatClampNeg (6 : Int32).toNatClampNeg)) 10 (va_cpy (D.2.2.1 2) (D.2.2.1 10) (0 : Int32).toNatClampNeg (0 : Int32).toNatClampNeg (6 : Int32).toNatClampNeg)) 11 (va_cpy (D.2.2.1 3) (D.2.2.1 11) (0 : Int32).toNatClampNeg (0 : Int32).toNatClampNeg (11 : Int32).toNatClampNeg)) 20 (D.1 0)) 21 (D.1 1)) 22 (D.1 2)) 23 (D.1 3)) 2 (D.2.1 0))) 11 uX8 tyX8 tyX8_ok nmX8 (wg_11 E _) rfl 8 (by decide) fl_X8_49 rfl rfl rfl rfl (Nat.le_of_ble_eq_true rfl) (ws_J_2 E _ _) dX8_copyFrom_97 ?_
  exact g_vret X hr dX8_copyFrom_100 (Option.some.inj h)
theorem fl_X12_19 : Cond.fieldLink RX12 19 "StoneQuarry" "snapshot" "LStoneQuarry$QuarryState;" ∈ UT := ut 317 (by decide +kernel) (by decide +kernel)
theorem fl_X12_354 : Cond.fieldLink RX12 354 "StoneQuarry" "snapshotTaken" "Z" ∈ UT := ut 327 (by decide +kernel) (by decide +kernel)
theorem kv_X12_326 : GoodIn UT (wsV RX12 326 RX8 yX8_copyFrom (Cond.code yX8_copyFrom cX8_copyFrom 2 none :: UT)) := gu_V (ut 626 (by decide +kernel) (by decide +kernel)) wm_X8_copyFrom we_X8_copyFrom wi_RX8 wc_X8_copyFrom
theorem ws_I_120 (E : EE) (D : DD) (v : Int32) : (wd E D).set 0 (E.1 0, .inr (12, [.ref (E.1 1), .ref (E.1 6), .ref (E.1 11), .ref (E.1 16), .ref (E.1 58), .ref (E.1 61), .ref (E.1 65), .ref (E.1 68), .ref (E.1 73), .ref (E.1 75), .ref (E.1 78), .ref (E.1 80), .int v, .int (D.1 121), .int (D.1 122)])) = wd E (setI D 120 v) := rfl
def S_X12_save  (D : DD) : Option RT := (cV (S_X8_copyFrom_snapshot_state D) (fun D2 => some (0, some (.int (D2.1 0)), (setI D2 120 (1 : Int32)))))
set_option maxRecDepth 100000 in
set_option maxHeartbeats 4000000 in
theorem c_X12_save (l : Launch) (G : va_G) (E : EE)  (D : DD) (r : RT) (h : S_X12_save  D = some r) : MM l G E yX12_save cX12_save 1 (some .int) (rmm 2) [.ref (E.1 0)] D r := by
  refine m_of rfl (Nat.le_of_ble_eq_true rfl) ?_
  intro p e s m args below meth c X hr
  unfold S_X12_save at h
  refine g_aload_n X 0 (i0 := 0) dX12_save_0 rfl rfl ?_
  refine g_get X (D := D) (v := .ref (E.1 11)) (T := TX12) 0 uX12 (wg_0 E _) rfl 2 (by decide) fl_X12_19 rfl rfl dX12_save_1 ?_
  refine g_aload_n X 0 (i0 := 0) dX12_save_4 rfl rfl ?_
  refine g_get X (D := D) (v := .ref (E.1 1)) (T := TX12) 0 uX12 (wg_0 E _) rfl 0 (by decide) fl_X12_10 rfl rfl dX12_save_5 ?_
  obtain ⟨D2, e1, h⟩ := cV_s h
  refine g_V X (As := [.ref (E.1 1)]) (rest := []) (c_X8_copyFrom_snapshot_state l G E  _ _ e1) 11 (wg_11 E _) rfl rfl kv_X12_326 ⟨rfl, rfl⟩ ⟨rfl, hd_X8_copyFrom⟩ (⟨Nat.le_of_ble_eq_true rfl, Nat.le_of_ble_eq_true rfl⟩) rfl rfl (Nat.le_of_ble_eq_true rfl) dX12_save_8 ?_
  refine g_aload_n X 0 (i0 := 0) dX12_save_11 rfl rfl ?_
  refine g_iconst X (v := (1 : Int32)) dX12_save_12 (by decide) ?_
  refine g_put X (D := D2) (v := .int (1 : Int32)) (T := TX12) (D' := (setI D2 120 (1 : Int32))) 0 uX12 tyX12 tyX12_ok nmX12 (wg_0 E _) rfl 12 (by decide) fl_X12_354 rfl rfl rfl rfl (Nat.le_of_ble_eq_true rfl) (ws_I_120 E _ _) dX12_save_13 ?_
  refine g_aload_n X 0 (i0 := 0) dX12_save_16 rfl rfl ?_
  refine g_get X (D := (setI D2 120 (1 : Int32))) (v := .ref (E.1 1)) (T := TX12) 0 uX12 (wg_0 E _) rfl 0 (by decide) fl_X12_10 rfl rfl dX12_save_17 ?_
  refine g_get X (D := (setI D2 120 (1 : Int32))) (v := .int (D2.1 0)) (T := TX8) 1 uX8 (wg_1 E _) rfl 4 (by decide) fl_X12_184 rfl rfl dX12_save_20 ?_
  exact g_iret X hr rfl dX12_save_23 (Option.some.inj h)
