theorem wc_abs : Cond.code Lib.Math.abs.name Lib.Math.abs.code 1 (some .int) ∈ UT := ut 571 (by decide +kernel) (by decide +kernel)
theorem wi_math : Cond.initialized "java/lang/Math" ∈ UT := ut 94 (by decide +kernel) (by decide +kernel)
theorem wl_X12_389 : Cond.methodLink RX12 389 Lib.Math.abs.name ∈ UT := ut 569 (by decide +kernel) (by decide +kernel)
theorem wm_abs : Cond.static Lib.Math.abs.name ∈ UT := ut 570 (by decide +kernel) (by decide +kernel)
def S_X12_distance (a0 : Int32) (a1 : Int32) (D : DD) : Option RT := some (0, some (.int ((if 0 ≤ ((a0 / (6 : Int32)) - (a1 / (6 : Int32))) then ((a0 / (6 : Int32)) - (a1 / (6 : Int32))) else 0 - ((a0 / (6 : Int32)) - (a1 / (6 : Int32)))) + (if 0 ≤ ((a0 - a0 / (6 : Int32) * (6 : Int32)) - (a1 - a1 / (6 : Int32) * (6 : Int32))) then ((a0 - a0 / (6 : Int32) * (6 : Int32)) - (a1 - a1 / (6 : Int32) * (6 : Int32))) else 0 - ((a0 - a0 / (6 : Int32) * (6 : Int32)) - (a1 - a1 / (6 : Int32) * (6 : Int32)))))), D)
set_option maxRecDepth 100000 in
set_option maxHeartbeats 4000000 in
theorem c_X12_distance (l : Launch) (G : va_G) (E : EE) (a0 : Int32) (a1 : Int32) (D : DD) (r : RT) (h : S_X12_distance a0 a1 D = some r) : MM l G E yX12_distance cX12_distance 2 (some .int) (rmm 1) [.int a0, .int a1] D r := by
  refine m_of rfl (Nat.le_of_ble_eq_true rfl) ?_
  intro p e s m args below meth c X hr
  unfold S_X12_distance at h
  refine g_iload_n X 0 (i0 := 0) dX12_distance_0 rfl rfl ?_
  refine g_bipush X (v := (6 : Int32)) dX12_distance_1 (by decide) ?_
  refine g_idiv X (by decide) dX12_distance_3 ?_
  refine g_iload_n X 1 (i0 := 1) dX12_distance_4 rfl rfl ?_
  refine g_bipush X (v := (6 : Int32)) dX12_distance_5 (by decide) ?_
  refine g_idiv X (by decide) dX12_distance_7 ?_
  refine g_isub X dX12_distance_8 ?_
  refine g_abs X wl_X12_389 wm_abs wi_math wc_abs (Nat.le_of_ble_eq_true rfl) (Nat.le_of_ble_eq_true rfl) dX12_distance_9 ?_
  refine g_iload_n X 0 (i0 := 0) dX12_distance_12 rfl rfl ?_
  refine g_bipush X (v := (6 : Int32)) dX12_distance_13 (by decide) ?_
  refine g_irem X (by decide) dX12_distance_15 ?_
  refine g_iload_n X 1 (i0 := 1) dX12_distance_16 rfl rfl ?_
  refine g_bipush X (v := (6 : Int32)) dX12_distance_17 (by decide) ?_
  refine g_irem X (by decide) dX12_distance_19 ?_
  refine g_isub X dX12_distance_20 ?_
  refine g_abs X wl_X12_389 wm_abs wi_math wc_abs (Nat.le_of_ble_eq_true rfl) (Nat.le_of_ble_eq_true rfl) dX12_distance_21 ?_
  refine g_iadd X dX12_distance_24 ?_
  exact g_iret X hr rfl dX12_distance_25 (Option.some.inj h)
def S_X12_isCell (a0 : Int32) (D : DD) : Option RT := (if a0 < 0 then some (0, some (.int (0 : Int32)), D) else (if (36 : Int32) ≤ a0 then some (0, some (.int (0 : Int32)), D) else some (0, some (.int (1 : Int32)), D)))
set_option maxRecDepth 100000 in
set_option maxHeartbeats 4000000 in
theorem c_X12_isCell (l : Launch) (G : va_G) (E : EE) (a0 : Int32) (D : DD) (r : RT) (h : S_X12_isCell a0 D = some r) : MM l G E yX12_isCell cX12_isCell 1 (some .boolean) (rmm 0) [.int a0] D r := by
  refine m_of rfl (Nat.le_of_ble_eq_true rfl) ?_
  intro p e s m args below meth c X hr
  unfold S_X12_isCell at h
  refine g_iload_n X 0 (i0 := 0) dX12_isCell_0 rfl rfl ?_
  refine g_if_lt X (tgt := 14) dX12_isCell_1 (by decide) (fun c2 => ?_) (fun c2 => ?_)
  · have h := (ite_s h).1 c2
    refine g_iconst X (v := (0 : Int32)) dX12_isCell_14 (by decide) ?_
    exact g_iret X hr rfl dX12_isCell_15 (Option.some.inj h)
  · have h := (ite_s h).2 c2
    refine g_iload_n X 0 (i0 := 0) dX12_isCell_4 rfl rfl ?_
    refine g_bipush X (v := (36 : Int32)) dX12_isCell_5 (by decide) ?_
    refine g_icmp_ge X (tgt := 14) dX12_isCell_7 (by decide) (fun c1 => ?_) (fun c1 => ?_)
    · have h := (ite_s h).1 c1
      refine g_iconst X (v := (0 : Int32)) dX12_isCell_14 (by decide) ?_
      exact g_iret X hr rfl dX12_isCell_15 (Option.some.inj h)
    · have h := (ite_s h).2 c1
      refine g_iconst X (v := (1 : Int32)) dX12_isCell_10 (by decide) ?_
      refine g_goto X (tgt := 15) dX12_isCell_11 (by decide) ?_
      exact g_iret X hr rfl dX12_isCell_15 (Option.some.inj h)
theorem fl_X8_9 : Cond.fieldLink RX8 9 "StoneQuarry$QuarryState" "hardness" "[I" ∈ UT := ut 122 (by decide +kernel) (by decide +kernel)
theorem hd_X12_isCell : yX12_isCell.cls ≠ "java/lang/invoke/MethodHandle" ∧ yX12_isCell.cls ≠ "java/lang/invoke/VarHandle" ∧ (parseMethodDescriptor yX12_isCell.desc).map (fun d => d.parameters.length) = some 1 := by decide +kernel
theorem kn_X8_53 : Cond.methodLinkNest RX8 53 yX12_isCell "StoneQuarry" ∈ NEST := nst 389 (by decide +kernel) rfl
theorem uX8 : ∀ w ∈ wsX80, w ∈ UT := ut_all (by decide +kernel) (by decide +kernel)
theorem wc_X12_isCell : Cond.code yX12_isCell cX12_isCell 1 (some .boolean) ∈ UT := ut 391 (by decide +kernel) (by decide +kernel)
theorem wg_1 (E : EE) (D : DD) : (wd E D)[1]? = some (E.1 1, .inr (8, [.ref (E.1 2), .ref (E.1 3), .ref (E.1 4), .ref (E.1 5), .int (D.1 0), .int (D.1 1), .int (D.1 2), .int (D.1 3), .long (D.2.1 0)])) := rfl
theorem wg_2 (E : EE) (D : DD) : (wd E D)[2]? = some (E.1 2, .inl (E.2 0, 36, .inl (D.2.2.1 0))) := rfl
theorem wi_RX12 : Cond.initialized RX12 ∈ UT := ut 75 (by decide +kernel) (by decide +kernel)
theorem wt_X12_isCell : Cond.static yX12_isCell ∈ UT := ut 390 (by decide +kernel) (by decide +kernel)
def S_X8_breaksAt (a0 : Int32) (a1 : Int32) (D : DD) : Option RT := (cI (S_X12_isCell a0 D) (fun r3 D2 => (if r3 = 0 then some (0, some (.int (0 : Int32)), D2) else (if inB a0 36 = true then (if ((D2.2.2.1 0) a0.toNatClampNeg) = 0 then some (0, some (.int (0 : Int32)), D2) else (if inB a0 36 = true then (if a1 < ((D2.2.2.1 0) a0.toNatClampNeg) then some (0, some (.int (0 : Int32)), D2) else some (0, some (.int (1 : Int32)), D2)) else none)) else none))))
set_option maxRecDepth 100000 in
set_option maxHeartbeats 4000000 in
theorem c_X8_breaksAt (l : Launch) (G : va_G) (E : EE) (a0 : Int32) (a1 : Int32) (D : DD) (r : RT) (h : S_X8_breaksAt a0 a1 D = some r) : MM l G E yX8_breaksAt cX8_breaksAt 3 (some .boolean) (rmm 1) [.ref (E.1 1), .int a0, .int a1] D r := by
  refine m_of rfl (Nat.le_of_ble_eq_true rfl) ?_
  intro p e s m args below meth c X hr
  unfold S_X8_breaksAt at h
  refine g_iload_n X 1 (i0 := 1) dX8_breaksAt_0 rfl rfl ?_
  obtain ⟨r3, D2, e1, h⟩ := cI_s h
  refine g_SN X (As := [.int a0]) (rest := []) (c_X12_isCell l G E a0 _ _ e1) wc_X12_isCell kn_X8_53 wi_RX12 wt_X12_isCell ⟨rfl, rfl⟩ hd_X12_isCell (⟨Nat.le_of_ble_eq_true rfl, Nat.le_of_ble_eq_true rfl⟩) rfl rfl (Nat.le_of_ble_eq_true rfl) dX8_breaksAt_1 ?_
  refine g_if_eq X (tgt := 30) dX8_breaksAt_4 (by decide) (fun c8 => ?_) (fun c8 => ?_)
  · have h := (ite_s h).1 c8
    refine g_iconst X (v := (0 : Int32)) dX8_breaksAt_30 (by decide) ?_
    exact g_iret X hr rfl dX8_breaksAt_31 (Option.some.inj h)
  · have h := (ite_s h).2 c8
    refine g_aload_n X 0 (i0 := 0) dX8_breaksAt_7 rfl rfl ?_
    refine g_get X (D := D2) (v := .ref (E.1 2)) (T := TX8) 1 uX8 (wg_1 E _) rfl 0 (by decide) fl_X8_9 rfl rfl dX8_breaksAt_8 ?_
    refine g_iload_n X 1 (i0 := 1) dX8_breaksAt_11 rfl rfl ?_
    obtain ⟨b4, h⟩ := chk_s h
    refine g_iald X (D := D2) (f := (D2.2.2.1 0)) (i := a0) 2 (wg_2 E _) (inB_vp b4) dX8_breaksAt_12 ?_
    refine g_if_eq X (tgt := 30) dX8_breaksAt_13 (by decide) (fun c7 => ?_) (fun c7 => ?_)
    · have h := (ite_s h).1 c7
      refine g_iconst X (v := (0 : Int32)) dX8_breaksAt_30 (by decide) ?_
      exact g_iret X hr rfl dX8_breaksAt_31 (Option.some.inj h)
    · have h := (ite_s h).2 c7
      refine g_aload_n X 0 (i0 := 0) dX8_breaksAt_16 rfl rfl ?_
      refine g_get X (D := D2) (v := .ref (E.1 2)) (T := TX8) 1 uX8 (wg_1 E _) rfl 0 (by decide) fl_X8_9 rfl rfl dX8_breaksAt_17 ?_
      refine g_iload_n X 1 (i0 := 1) dX8_breaksAt_20 rfl rfl ?_
      obtain ⟨b5, h⟩ := chk_s h
      refine g_iald X (D := D2) (f := (D2.2.2.1 0)) (i := a0) 2 (wg_2 E _) (inB_vp b5) dX8_breaksAt_21 ?_
      refine g_iload_n X 2 (i0 := 2) dX8_breaksAt_22 rfl rfl ?_
      refine g_icmp_gt X (tgt := 30) dX8_breaksAt_23 (by decide) (fun c6 => ?_) (fun c6 => ?_)
      · have h := (ite_s h).1 c6
        refine g_iconst X (v := (0 : Int32)) dX8_breaksAt_30 (by decide) ?_
        exact g_iret X hr rfl dX8_breaksAt_31 (Option.some.inj h)
      · have h := (ite_s h).2 c6
        refine g_iconst X (v := (1 : Int32)) dX8_breaksAt_26 (by decide) ?_
        refine g_goto X (tgt := 31) dX8_breaksAt_27 (by decide) ?_
        exact g_iret X hr rfl dX8_breaksAt_31 (Option.some.inj h)
theorem fl_X8_36 : Cond.fieldLink RX8 36 "StoneQuarry$QuarryState" "charges" "I" ∈ UT := ut 126 (by decide +kernel) (by decide +kernel)
def S_X8_hasCharge (a0 : Int32) (D : DD) : Option RT := (if a0 < 0 then some (0, some (.int (0 : Int32)), D) else (if (D.1 0) ≤ a0 then some (0, some (.int (0 : Int32)), D) else (if (6 : Int32) ≤ a0 then some (0, some (.int (0 : Int32)), D) else some (0, some (.int (1 : Int32)), D))))
set_option maxRecDepth 100000 in
set_option maxHeartbeats 4000000 in
theorem c_X8_hasCharge (l : Launch) (G : va_G) (E : EE) (a0 : Int32) (D : DD) (r : RT) (h : S_X8_hasCharge a0 D = some r) : MM l G E yX8_hasCharge cX8_hasCharge 2 (some .boolean) (rmm 0) [.ref (E.1 1), .int a0] D r := by
  refine m_of rfl (Nat.le_of_ble_eq_true rfl) ?_
  intro p e s m args below meth c X hr
  unfold S_X8_hasCharge at h
  refine g_iload_n X 1 (i0 := 1) dX8_hasCharge_0 rfl rfl ?_
  refine g_if_lt X (tgt := 22) dX8_hasCharge_1 (by decide) (fun c3 => ?_) (fun c3 => ?_)
  · have h := (ite_s h).1 c3
    refine g_iconst X (v := (0 : Int32)) dX8_hasCharge_22 (by decide) ?_
    exact g_iret X hr rfl dX8_hasCharge_23 (Option.some.inj h)
  · have h := (ite_s h).2 c3
    refine g_iload_n X 1 (i0 := 1) dX8_hasCharge_4 rfl rfl ?_
    refine g_aload_n X 0 (i0 := 0) dX8_hasCharge_5 rfl rfl ?_
    refine g_get X (D := D) (v := .int (D.1 0)) (T := TX8) 1 uX8 (wg_1 E _) rfl 4 (by decide) fl_X8_36 rfl rfl dX8_hasCharge_6 ?_
    refine g_icmp_ge X (tgt := 22) dX8_hasCharge_9 (by decide) (fun c2 => ?_) (fun c2 => ?_)
    · have h := (ite_s h).1 c2
      refine g_iconst X (v := (0 : Int32)) dX8_hasCharge_22 (by decide) ?_
      exact g_iret X hr rfl dX8_hasCharge_23 (Option.some.inj h)
    · have h := (ite_s h).2 c2
      refine g_iload_n X 1 (i0 := 1) dX8_hasCharge_12 rfl rfl ?_
      refine g_bipush X (v := (6 : Int32)) dX8_hasCharge_13 (by decide) ?_
      refine g_icmp_ge X (tgt := 22) dX8_hasCharge_15 (by decide) (fun c1 => ?_) (fun c1 => ?_)
      · have h := (ite_s h).1 c1
        refine g_iconst X (v := (0 : Int32)) dX8_hasCharge_22 (by decide) ?_
        exact g_iret X hr rfl dX8_hasCharge_23 (Option.some.inj h)
      · have h := (ite_s h).2 c1
        refine g_iconst X (v := (1 : Int32)) dX8_hasCharge_18 (by decide) ?_
        refine g_goto X (tgt := 23) dX8_hasCharge_19 (by decide) ?_
        exact g_iret X hr rfl dX8_hasCharge_23 (Option.some.inj h)
theorem fl_X8_15 : Cond.fieldLink RX8 15 "StoneQuarry$QuarryState" "chargeCells" "[I" ∈ UT := ut 123 (by decide +kernel) (by decide +kernel)
theorem hd_X8_hasCharge : yX8_hasCharge.cls ≠ "java/lang/invoke/MethodHandle" ∧ yX8_hasCharge.cls ≠ "java/lang/invoke/VarHandle" ∧ (parseMethodDescriptor yX8_hasCharge.desc).map (fun d => d.parameters.length) = some 1 := by decide +kernel
theorem wc_X8_hasCharge : Cond.code yX8_hasCharge cX8_hasCharge 2 (some .boolean) ∈ UT := ut 561 (by decide +kernel) (by decide +kernel)
theorem we_X8_hasCharge : Cond.selects RX8 yX8_hasCharge yX8_hasCharge ∈ UT := ut 560 (by decide +kernel) (by decide +kernel)
theorem wi_RX8 : Cond.initialized RX8 ∈ UT := ut 76 (by decide +kernel) (by decide +kernel)
theorem wm_X8_hasCharge : Cond.instanceMethod yX8_hasCharge ∈ UT := ut 559 (by decide +kernel) (by decide +kernel)
theorem kv_X8_57 : GoodIn UT (wsV RX8 57 RX8 yX8_hasCharge (Cond.code yX8_hasCharge cX8_hasCharge 2 (some .boolean) :: UT)) := gu_V (ut 558 (by decide +kernel) (by decide +kernel)) wm_X8_hasCharge we_X8_hasCharge wi_RX8 wc_X8_hasCharge
theorem wg_3 (E : EE) (D : DD) : (wd E D)[3]? = some (E.1 3, .inl (E.2 0, 6, .inl (D.2.2.1 1))) := rfl
def S_X8_cellOf (a0 : Int32) (D : DD) : Option RT := (cI (S_X8_hasCharge a0 D) (fun r3 D2 => (if r3 = 0 then some (0, some (.int (0 : Int32)), D2) else (if inB a0 6 = true then some (0, some (.int ((D2.2.2.1 1) a0.toNatClampNeg)), D2) else none))))
set_option maxRecDepth 100000 in
set_option maxHeartbeats 4000000 in
theorem c_X8_cellOf (l : Launch) (G : va_G) (E : EE) (a0 : Int32) (D : DD) (r : RT) (h : S_X8_cellOf a0 D = some r) : MM l G E yX8_cellOf cX8_cellOf 2 (some .int) (rmm 1) [.ref (E.1 1), .int a0] D r := by
  refine m_of rfl (Nat.le_of_ble_eq_true rfl) ?_
  intro p e s m args below meth c X hr
  unfold S_X8_cellOf at h
  refine g_aload_n X 0 (i0 := 0) dX8_cellOf_0 rfl rfl ?_
  refine g_iload_n X 1 (i0 := 1) dX8_cellOf_1 rfl rfl ?_
  obtain ⟨r3, D2, e1, h⟩ := cI_s h
  refine g_V X (As := [.int a0]) (rest := []) (c_X8_hasCharge l G E a0 _ _ e1) 1 (wg_1 E _) rfl rfl kv_X8_57 ⟨rfl, rfl⟩ ⟨rfl, hd_X8_hasCharge⟩ (⟨Nat.le_of_ble_eq_true rfl, Nat.le_of_ble_eq_true rfl⟩) rfl rfl (Nat.le_of_ble_eq_true rfl) dX8_cellOf_2 ?_
  refine g_if_eq X (tgt := 17) dX8_cellOf_5 (by decide) (fun c5 => ?_) (fun c5 => ?_)
  · have h := (ite_s h).1 c5
    refine g_iconst X (v := (0 : Int32)) dX8_cellOf_17 (by decide) ?_
    exact g_iret X hr rfl dX8_cellOf_18 (Option.some.inj h)
  · have h := (ite_s h).2 c5
    refine g_aload_n X 0 (i0 := 0) dX8_cellOf_8 rfl rfl ?_
    refine g_get X (D := D2) (v := .ref (E.1 3)) (T := TX8) 1 uX8 (wg_1 E _) rfl 1 (by decide) fl_X8_15 rfl rfl dX8_cellOf_9 ?_
    refine g_iload_n X 1 (i0 := 1) dX8_cellOf_12 rfl rfl ?_
    obtain ⟨b4, h⟩ := chk_s h
    refine g_iald X (D := D2) (f := (D2.2.2.1 1)) (i := a0) 3 (wg_3 E _) (inB_vp b4) dX8_cellOf_13 ?_
    refine g_goto X (tgt := 18) dX8_cellOf_14 (by decide) ?_
    exact g_iret X hr rfl dX8_cellOf_18 (Option.some.inj h)
theorem fl_X8_18 : Cond.fieldLink RX8 18 "StoneQuarry$QuarryState" "strengths" "[I" ∈ UT := ut 124 (by decide +kernel) (by decide +kernel)
theorem wg_4 (E : EE) (D : DD) : (wd E D)[4]? = some (E.1 4, .inl (E.2 0, 6, .inl (D.2.2.1 2))) := rfl
def S_X8_strengthOf (a0 : Int32) (D : DD) : Option RT := (cI (S_X8_hasCharge a0 D) (fun r3 D2 => (if r3 = 0 then some (0, some (.int (0 : Int32)), D2) else (if inB a0 6 = true then some (0, some (.int ((D2.2.2.1 2) a0.toNatClampNeg)), D2) else none))))
set_option maxRecDepth 100000 in
set_option maxHeartbeats 4000000 in
theorem c_X8_strengthOf (l : Launch) (G : va_G) (E : EE) (a0 : Int32) (D : DD) (r : RT) (h : S_X8_strengthOf a0 D = some r) : MM l G E yX8_strengthOf cX8_strengthOf 2 (some .int) (rmm 1) [.ref (E.1 1), .int a0] D r := by
  refine m_of rfl (Nat.le_of_ble_eq_true rfl) ?_
  intro p e s m args below meth c X hr
  unfold S_X8_strengthOf at h
  refine g_aload_n X 0 (i0 := 0) dX8_strengthOf_0 rfl rfl ?_
  refine g_iload_n X 1 (i0 := 1) dX8_strengthOf_1 rfl rfl ?_
  obtain ⟨r3, D2, e1, h⟩ := cI_s h
  refine g_V X (As := [.int a0]) (rest := []) (c_X8_hasCharge l G E a0 _ _ e1) 1 (wg_1 E _) rfl rfl kv_X8_57 ⟨rfl, rfl⟩ ⟨rfl, hd_X8_hasCharge⟩ (⟨Nat.le_of_ble_eq_true rfl, Nat.le_of_ble_eq_true rfl⟩) rfl rfl (Nat.le_of_ble_eq_true rfl) dX8_strengthOf_2 ?_
  refine g_if_eq X (tgt := 17) dX8_strengthOf_5 (by decide) (fun c5 => ?_) (fun c5 => ?_)
  · have h := (ite_s h).1 c5
    refine g_iconst X (v := (0 : Int32)) dX8_strengthOf_17 (by decide) ?_
    exact g_iret X hr rfl dX8_strengthOf_18 (Option.some.inj h)
  · have h := (ite_s h).2 c5
    refine g_aload_n X 0 (i0 := 0) dX8_strengthOf_8 rfl rfl ?_
    refine g_get X (D := D2) (v := .ref (E.1 4)) (T := TX8) 1 uX8 (wg_1 E _) rfl 2 (by decide) fl_X8_18 rfl rfl dX8_strengthOf_9 ?_
    refine g_iload_n X 1 (i0 := 1) dX8_strengthOf_12 rfl rfl ?_
    obtain ⟨b4, h⟩ := chk_s h
    refine g_iald X (D := D2) (f := (D2.2.2.1 2)) (i := a0) 4 (wg_4 E _) (inB_vp b4) dX8_strengthOf_13 ?_
    refine g_goto X (tgt := 18) dX8_strengthOf_14 (by decide) ?_
    exact g_iret X hr rfl dX8_strengthOf_18 (Option.some.inj h)
theorem fl_X1_15 : Cond.fieldLink RX1 15 "StoneQuarry$Blast" "opened" "[Z" ∈ UT := ut 201 (by decide +kernel) (by decide +kernel)
theorem fl_X1_57 : Cond.fieldLink RX1 57 "StoneQuarry$Blast" "openedCount" "I" ∈ UT := ut 205 (by decide +kernel) (by decide +kernel)
theorem hd_X12_distance : yX12_distance.cls ≠ "java/lang/invoke/MethodHandle" ∧ yX12_distance.cls ≠ "java/lang/invoke/VarHandle" ∧ (parseMethodDescriptor yX12_distance.desc).map (fun d => d.parameters.length) = some 2 := by decide +kernel
theorem hd_X8_breaksAt : yX8_breaksAt.cls ≠ "java/lang/invoke/MethodHandle" ∧ yX8_breaksAt.cls ≠ "java/lang/invoke/VarHandle" ∧ (parseMethodDescriptor yX8_breaksAt.desc).map (fun d => d.parameters.length) = some 2 := by decide +kernel
theorem hd_X8_cellOf : yX8_cellOf.cls ≠ "java/lang/invoke/MethodHandle" ∧ yX8_cellOf.cls ≠ "java/lang/invoke/VarHandle" ∧ (parseMethodDescriptor yX8_cellOf.desc).map (fun d => d.parameters.length) = some 1 := by decide +kernel
theorem hd_X8_strengthOf : yX8_strengthOf.cls ≠ "java/lang/invoke/MethodHandle" ∧ yX8_strengthOf.cls ≠ "java/lang/invoke/VarHandle" ∧ (parseMethodDescriptor yX8_strengthOf.desc).map (fun d => d.parameters.length) = some 1 := by decide +kernel
theorem kn_X1_69 : Cond.methodLinkNest RX1 69 yX12_distance "StoneQuarry" ∈ NEST := nst 566 (by decide +kernel) rfl
theorem wc_X8_cellOf : Cond.code yX8_cellOf cX8_cellOf 2 (some .int) ∈ UT := ut 557 (by decide +kernel) (by decide +kernel)
theorem we_X8_cellOf : Cond.selects RX8 yX8_cellOf yX8_cellOf ∈ UT := ut 556 (by decide +kernel) (by decide +kernel)
theorem wm_X8_cellOf : Cond.instanceMethod yX8_cellOf ∈ UT := ut 555 (by decide +kernel) (by decide +kernel)
theorem kv_X1_60 : GoodIn UT (wsV RX1 60 RX8 yX8_cellOf (Cond.code yX8_cellOf cX8_cellOf 2 (some .int) :: UT)) := gu_V (ut 554 (by decide +kernel) (by decide +kernel)) wm_X8_cellOf we_X8_cellOf wi_RX8 wc_X8_cellOf
theorem wc_X8_strengthOf : Cond.code yX8_strengthOf cX8_strengthOf 2 (some .int) ∈ UT := ut 565 (by decide +kernel) (by decide +kernel)
theorem we_X8_strengthOf : Cond.selects RX8 yX8_strengthOf yX8_strengthOf ∈ UT := ut 564 (by decide +kernel) (by decide +kernel)
theorem wm_X8_strengthOf : Cond.instanceMethod yX8_strengthOf ∈ UT := ut 563 (by decide +kernel) (by decide +kernel)
theorem kv_X1_66 : GoodIn UT (wsV RX1 66 RX8 yX8_strengthOf (Cond.code yX8_strengthOf cX8_strengthOf 2 (some .int) :: UT)) := gu_V (ut 562 (by decide +kernel) (by decide +kernel)) wm_X8_strengthOf we_X8_strengthOf wi_RX8 wc_X8_strengthOf
theorem wc_X8_breaksAt : Cond.code yX8_breaksAt cX8_breaksAt 3 (some .boolean) ∈ UT := ut 575 (by decide +kernel) (by decide +kernel)
theorem we_X8_breaksAt : Cond.selects RX8 yX8_breaksAt yX8_breaksAt ∈ UT := ut 574 (by decide +kernel) (by decide +kernel)
theorem wm_X8_breaksAt : Cond.instanceMethod yX8_breaksAt ∈ UT := ut 573 (by decide +kernel) (by decide +kernel)
theorem kv_X1_73 : GoodIn UT (wsV RX1 73 RX8 yX8_breaksAt (Cond.code yX8_breaksAt cX8_breaksAt 3 (some .boolean) :: UT)) := gu_V (ut 572 (by decide +kernel) (by decide +kernel)) wm_X8_breaksAt we_X8_breaksAt wi_RX8 wc_X8_breaksAt
theorem uX1 : ∀ w ∈ wsX10, w ∈ UT := ut_all (by decide +kernel) (by decide +kernel)
theorem wc_X12_distance : Cond.code yX12_distance cX12_distance 2 (some .int) ∈ UT := ut 568 (by decide +kernel) (by decide +kernel)
theorem wg_61 (E : EE) (D : DD) : (wd E D)[61]? = some (E.1 61, .inr (2, [.ref (E.1 62), .ref (E.1 63), .ref (E.1 64), .int (D.1 126), .int (D.1 127)])) := rfl
theorem wg_63 (E : EE) (D : DD) : (wd E D)[63]? = some (E.1 63, .inl (E.2 1, 36, .inl (D.2.2.1 53))) := rfl
theorem ws_A_53 (E : EE) (D : DD) (f : Nat → Int32) : (wd E D).set 63 (E.1 63, .inl (E.2 1, 36, .inl f)) = wd E (setA D 53 f) := rfl
theorem ws_I_127 (E : EE) (D : DD) (v : Int32) : (wd E D).set 61 (E.1 61, .inr (2, [.ref (E.1 62), .ref (E.1 63), .ref (E.1 64), .int (D.1 126), .int v])) = wd E (setI D 127 v) := rfl
theorem wt_X12_distance : Cond.static yX12_distance ∈ UT := ut 567 (by decide +kernel) (by decide +kernel)
def b_X1_openAround_0 (a1 : Int32) (D : DD) : Option ((Nat × List Int32 × DD) ⊕ RT) := (cI (S_X8_cellOf a1 D) (fun r3 D2 => (cI (S_X8_strengthOf a1 D2) (fun r6 D5 => some (.inl (1, [r3, r6, (0 : Int32)], D5))))))
def b_X1_openAround_1 (x3 : Int32) (x4 : Int32) (x5 : Int32) (D : DD) : Option ((Nat × List Int32 × DD) ⊕ RT) := (if (36 : Int32) ≤ x5 then some (.inr (0, none, D)) else (if inB x5 36 = true then (if ((D.2.2.1 53) x5.toNatClampNeg) = 0 then (cI (S_X12_distance x5 x3 D) (fun r10 D9 => (cI (S_X8_breaksAt x5 (x4 - r10) D9) (fun r13 D12 => (if r13 = 0 then some (.inl (1, [x3, x4, (x5 + (1 : Int32))], D12)) else (if inB x5 36 = true then some (.inl (1, [x3, x4, (x5 + (1 : Int32))], (setI (setA D12 53 (upd (D12.2.2.1 53) x5.toNatClampNeg (vp_nar .boolean (1 : Int32)))) 127 ((D12.1 127) + (1 : Int32))))) else none)))))) else some (.inl (1, [x3, x4, (x5 + (1 : Int32))], D))) else none))
def T_X1_openAround (k : Nat) (ls : List Int32) (D : DD) : Option ((Nat × List Int32 × DD) ⊕ RT) := match k, ls with
  | 0, [a1] => b_X1_openAround_0 a1 D
  | 1, [x3, x4, x5] => b_X1_openAround_1 x3 x4 x5 D
  | _, _ => none
def S_X1_openAround (a1 : Int32) (D : DD) : Option RT := run T_X1_openAround FUEL 0 [a1] D
def hg_X1_openAround (p : Program) (l : Launch) (e : Env) (s : State) (m : MethodId) (args : Array Value) (below : List Frame) (meth : Method) (c : Code) (G : va_G) (E : EE) (r : RT) (k : Nat) (ls : List Int32) (D : DD) : Prop := match k, ls with
  | 0, [a1] => GW p l e (rmm 2) s m args below meth c G E 6 (MQ below (QR G E s.heap.size r) args s 0 0 (fr E s.heap.size)) 0 0 D 0 [(0, .ref (E.1 61)), (1, .ref (E.1 1)), (2, .int a1)] []
  | 1, [x3, x4, x5] => GW p l e (rmm 2) s m args below meth c G E 6 (MQ below (QR G E s.heap.size r) args s 0 0 (fr E s.heap.size)) 0 0 D 16 [(0, .ref (E.1 61)), (1, .ref (E.1 1)), (3, .int x3), (4, .int x4), (5, .int x5)] []
  | _, _ => True
set_option maxRecDepth 100000 in
set_option maxHeartbeats 4000000 in
theorem bl_X1_openAround_0 {p : Program} {l : Launch} {e : Env} {s : State} {m : MethodId} {args : Array Value} {below : List Frame} {meth : Method} {c : Code} {G : va_G} {E : EE} {r : RT} (X : CX p s m args meth c cX1_openAround RX1 6 G E) (hr : meth.sig.returnType = none) (a1 : Int32) (D : DD) (o : (Nat × List Int32 × DD) ⊕ RT) (h : b_X1_openAround_0 a1 D = some o) (h1 : ∀ x, o = .inl x → hg_X1_openAround p l e s m args below meth c G E r x.1 x.2.1 x.2.2) (h2 : ∀ x, o = .inr x → x = r) : GW p l e (rmm 2) s m args below meth c G E 6 (MQ below (QR G E s.heap.size r) args s 0 0 (fr E s.heap.size)) 0 0 D 0 [(0, .ref (E.1 61)), (1, .ref (E.1 1)), (2, .int a1)] [] := by
  unfold b_X1_openAround_0 at h
  refine g_aload_n X 1 (i0 := 1) dX1_openAround_0 rfl rfl ?_
  refine g_iload_n X 2 (i0 := 2) dX1_openAround_1 rfl rfl ?_
  obtain ⟨r3, D2, e1, h⟩ := cI_s h
  refine g_V X (As := [.int a1]) (rest := []) (c_X8_cellOf l G E a1 _ _ e1) 1 (wg_1 E _) rfl rfl kv_X1_60 ⟨rfl, rfl⟩ ⟨rfl, hd_X8_cellOf⟩ (⟨Nat.le_of_ble_eq_true rfl, Nat.le_of_ble_eq_true rfl⟩) rfl rfl (Nat.le_of_ble_eq_true rfl) dX1_openAround_2 ?_
  refine g_istore_n X (i0 := 3) (lv' := [(3, .int r3), (0, .ref (E.1 61)), (1, .ref (E.1 1)), (2, .int a1)]) dX1_openAround_5 rfl (by decide) rfl ?_
  refine g_aload_n X 2 (i0 := 1) dX1_openAround_6 rfl rfl ?_
  refine g_iload_n X 3 (i0 := 2) dX1_openAround_7 rfl rfl ?_
  obtain ⟨r6, D5, e4, h⟩ := cI_s h
  refine g_V X (As := [.int a1]) (rest := []) (c_X8_strengthOf l G E a1 _ _ e4) 1 (wg_1 E _) rfl rfl kv_X1_66 ⟨rfl, rfl⟩ ⟨rfl, hd_X8_strengthOf⟩ (⟨Nat.le_of_ble_eq_true rfl, Nat.le_of_ble_eq_true rfl⟩) rfl rfl (Nat.le_of_ble_eq_true rfl) dX1_openAround_8 ?_
  refine g_istore X (lv' := [(4, .int r6), (3, .int r3), (0, .ref (E.1 61)), (1, .ref (E.1 1)), (2, .int a1)]) dX1_openAround_11 (by decide) rfl ?_
  refine g_iconst X (v := (0 : Int32)) dX1_openAround_13 (by decide) ?_
  refine g_istore X (lv' := [(5, .int (0 : Int32)), (4, .int r6), (3, .int r3), (0, .ref (E.1 61)), (1, .ref (E.1 1)), (2, .int a1)]) dX1_openAround_14 (by decide) rfl ?_
  refine g_sub (lv' := [(0, .ref (E.1 61)), (1, .ref (E.1 1)), (3, .int r3), (4, .int r6), (5, .int (0 : Int32))]) [3, 4, 2, 1, 0] rfl ?_
  exact h1 _ (Option.some.inj h).symm
set_option maxRecDepth 100000 in
set_option maxHeartbeats 4000000 in
theorem bl_X1_openAround_1 {p : Program} {l : Launch} {e : Env} {s : State} {m : MethodId} {args : Array Value} {below : List Frame} {meth : Method} {c : Code} {G : va_G} {E : EE} {r : RT} (X : CX p s m args meth c cX1_openAround RX1 6 G E) (hr : meth.sig.returnType = none) (x3 : Int32) (x4 : Int32) (x5 : Int32) (D : DD) (o : (Nat × List Int32 × DD) ⊕ RT) (h : b_X1_openAround_1 x3 x4 x5 D = some o) (h1 : ∀ x, o = .inl x → hg_X1_openAround p l e s m args below meth c G E r x.1 x.2.1 x.2.2) (h2 : ∀ x, o = .inr x → x = r) : GW p l e (rmm 2) s m args below meth c G E 6 (MQ below (QR G E s.heap.size r) args s 0 0 (fr E s.heap.size)) 0 0 D 16 [(0, .ref (E.1 61)), (1, .ref (E.1 1)), (3, .int x3), (4, .int x4), (5, .int x5)] [] := by
  unfold b_X1_openAround_1 at h
  refine g_iload X 4 dX1_openAround_16 rfl ?_
  refine g_bipush X (v := (36 : Int32)) dX1_openAround_18 (by decide) ?_
  refine g_icmp_ge X (tgt := 75) dX1_openAround_20 (by decide) (fun c17 => ?_) (fun c17 => ?_)
  · have h := (ite_s h).1 c17
    exact g_vret X hr dX1_openAround_75 (h2 _ (Option.some.inj h).symm)
  · have h := (ite_s h).2 c17
    refine g_aload_n X 0 (i0 := 0) dX1_openAround_23 rfl rfl ?_
    refine g_get X (D := D) (v := .ref (E.1 63)) (T := TX1) 61 uX1 (wg_61 E _) rfl 1 (by decide) fl_X1_15 rfl rfl dX1_openAround_24 ?_
    refine g_iload X 4 dX1_openAround_27 rfl ?_
    obtain ⟨b7, h⟩ := chk_s h
    refine g_zald X (D := D) (f := (D.2.2.1 53)) (i := x5) 63 (wg_63 E _) (inB_vp b7) dX1_openAround_29 ?_
    refine g_if_ne X (tgt := 69) dX1_openAround_30 (by decide) (fun c16 => ?_) (fun c16 => ?_)
    · have h := (ite_s h).2 c16
      refine g_iinc X 4 (v := (x5 + (1 : Int32))) (lv' := [(5, .int (x5 + (1 : Int32))), (0, .ref (E.1 61)), (1, .ref (E.1 1)), (3, .int x3), (4, .int x4)]) dX1_openAround_69 rfl rfl (by decide) rfl ?_
      refine g_goto X (tgt := 16) dX1_openAround_72 (by decide) ?_
      refine g_sub (lv' := [(0, .ref (E.1 61)), (1, .ref (E.1 1)), (3, .int x3), (4, .int x4), (5, .int (x5 + (1 : Int32)))]) [1, 2, 3, 4, 0] rfl ?_
      exact h1 _ (Option.some.inj h).symm
    · have h := (ite_s h).1 c16
      refine g_aload_n X 1 (i0 := 1) dX1_openAround_33 rfl rfl ?_
      refine g_iload X 4 dX1_openAround_34 rfl ?_
      refine g_iload X 3 dX1_openAround_36 rfl ?_
      refine g_iload X 4 dX1_openAround_38 rfl ?_
      refine g_iload_n X 2 (i0 := 3) dX1_openAround_40 rfl rfl ?_
      obtain ⟨r10, D9, e8, h⟩ := cI_s h
      refine g_SN X (As := [.int x5, .int x3]) (rest := [.int x4, .int x5, .ref (E.1 1)]) (c_X12_distance l G E x5 x3 _ _ e8) wc_X12_distance kn_X1_69 wi_RX12 wt_X12_distance ⟨rfl, rfl⟩ hd_X12_distance (⟨Nat.le_of_ble_eq_true rfl, Nat.le_of_ble_eq_true rfl⟩) rfl rfl (Nat.le_of_ble_eq_true rfl) dX1_openAround_41 ?_
      refine g_isub X dX1_openAround_44 ?_
      obtain ⟨r13, D12, e11, h⟩ := cI_s h
      refine g_V X (As := [.int x5, .int (x4 - r10)]) (rest := []) (c_X8_breaksAt l G E x5 (x4 - r10) _ _ e11) 1 (wg_1 E _) rfl rfl kv_X1_73 ⟨rfl, rfl⟩ ⟨rfl, hd_X8_breaksAt⟩ (⟨Nat.le_of_ble_eq_true rfl, Nat.le_of_ble_eq_true rfl⟩) rfl rfl (Nat.le_of_ble_eq_true rfl) dX1_openAround_45 ?_
      refine g_if_eq X (tgt := 69) dX1_openAround_48 (by decide) (fun c15 => ?_) (fun c15 => ?_)
      · have h := (ite_s h).1 c15
        refine g_iinc X 4 (v := (x5 + (1 : Int32))) (lv' := [(5, .int (x5 + (1 : Int32))), (0, .ref (E.1 61)), (1, .ref (E.1 1)), (3, .int x3), (4, .int x4)]) dX1_openAround_69 rfl rfl (by decide) rfl ?_
        refine g_goto X (tgt := 16) dX1_openAround_72 (by decide) ?_
        refine g_sub (lv' := [(0, .ref (E.1 61)), (1, .ref (E.1 1)), (3, .int x3), (4, .int x4), (5, .int (x5 + (1 : Int32)))]) [1, 2, 3, 4, 0] rfl ?_
        exact h1 _ (Option.some.inj h).symm
      · have h := (ite_s h).2 c15
        refine g_aload_n X 0 (i0 := 0) dX1_openAround_51 rfl rfl ?_
        refine g_get X (D := D12) (v := .ref (E.1 63)) (T := TX1) 61 uX1 (wg_61 E _) rfl 1 (by decide) fl_X1_15 rfl rfl dX1_openAround_52 ?_
        refine g_iload X 4 dX1_openAround_55 rfl ?_
        refine g_iconst X (v := (1 : Int32)) dX1_openAround_57 (by decide) ?_
        obtain ⟨b14, h⟩ := chk_s h
        refine g_zast X (D := D12) (f := (D12.2.2.1 53)) (i := x5) (x := (1 : Int32)) (D' := (setA D12 53 (upd (D12.2.2.1 53) x5.toNatClampNeg (vp_nar .boolean (1 : Int32))))) 63 (wg_63 E _) (inB_vp b14) (ws_A_53 E _ _) dX1_openAround_58 ?_
        refine g_aload_n X 0 (i0 := 0) dX1_openAround_59 rfl rfl ?_
        refine g_dup X dX1_openAround_60 rfl ?_
        refine g_get X (D := (setA D12 53 (upd (D12.2.2.1 53) x5.toNatClampNeg (vp_nar .boolean (1 : Int32))))) (v := .int (D12.1 127)) (T := TX1) 61 uX1 (wg_61 E _) rfl 4 (by decide) fl_X1_57 rfl rfl dX1_openAround_61 ?_
        refine g_iconst X (v := (1 : Int32)) dX1_openAround_64 (by decide) ?_
        refine g_iadd X dX1_openAround_65 ?_
        refine g_put X (D := (setA D12 53 (upd (D12.2.2.1 53) x5.toNatClampNeg (vp_nar .boolean (1 : Int32))))) (v := .int ((D12.1 127) + (1 : Int32))) (T := TX1) (D' := (setI (setA D12 53 (upd (D12.2.2.1 53) x5.toNatClampNeg (vp_nar .boolean (1 : Int32)))) 127 ((D12.1 127) + (1 : Int32)))) 61 uX1 tyX1 tyX1_ok nmX1 (wg_61 E _) rfl 4 (by decide) fl_X1_57 rfl rfl rfl rfl (Nat.le_of_ble_eq_true rfl) (ws_I_127 E _ _) dX1_openAround_66 ?_
        refine g_iinc X 4 (v := (x5 + (1 : Int32))) (lv' := [(5, .int (x5 + (1 : Int32))), (0, .ref (E.1 61)), (1, .ref (E.1 1)), (3, .int x3), (4, .int x4)]) dX1_openAround_69 rfl rfl (by decide) rfl ?_
        refine g_goto X (tgt := 16) dX1_openAround_72 (by decide) ?_
        refine g_sub (lv' := [(0, .ref (E.1 61)), (1, .ref (E.1 1)), (3, .int x3), (4, .int x4), (5, .int (x5 + (1 : Int32)))]) [1, 2, 3, 4, 0] rfl ?_
        exact h1 _ (Option.some.inj h).symm
set_option maxRecDepth 100000 in
set_option maxHeartbeats 4000000 in
theorem c_X1_openAround (l : Launch) (G : va_G) (E : EE) (a1 : Int32) (D : DD) (r : RT) (h : S_X1_openAround a1 D = some r) : MM l G E yX1_openAround cX1_openAround 6 none (rmm 2) [.ref (E.1 61), .ref (E.1 1), .int a1] D r := by
  unfold S_X1_openAround at h
  refine m_of rfl (Nat.le_of_ble_eq_true rfl) ?_
  intro p e s m args below meth c X hr
  exact run_G (T := T_X1_openAround) (HG := hg_X1_openAround p l e s m args below meth c G E r) (by
    intro k ls D o hT h1 h2
    unfold T_X1_openAround at hT
    split at hT
    · exact bl_X1_openAround_0 X hr _ D o hT h1 h2
    · exact bl_X1_openAround_1 X hr _ _ _ D o hT h1 h2
    · cases hT) FUEL 0 [a1] D h
theorem wg_62 (E : EE) (D : DD) : (wd E D)[62]? = some (E.1 62, .inl (E.2 1, 6, .inl (D.2.2.1 52))) := rfl
theorem ws_A_52 (E : EE) (D : DD) (f : Nat → Int32) : (wd E D).set 62 (E.1 62, .inl (E.2 1, 6, .inl f)) = wd E (setA D 52 f) := rfl
def b_X12_clear_blast_exploded_0  (D : DD) : Option ((Nat × List Int32 × DD) ⊕ RT) := some (.inl (1, [(0 : Int32)], D))
def b_X12_clear_blast_exploded_1 (x1 : Int32) (D : DD) : Option ((Nat × List Int32 × DD) ⊕ RT) := (if (6 : Int32) ≤ x1 then some (.inr (0, none, D)) else (if inB x1 6 = true then some (.inl (1, [(x1 + (1 : Int32))], (setA D 52 (upd (D.2.2.1 52) x1.toNatClampNeg (vp_nar .boolean (0 : Int32)))))) else none))
def T_X12_clear_blast_exploded (k : Nat) (ls : List Int32) (D : DD) : Option ((Nat × List Int32 × DD) ⊕ RT) := match k, ls with
  | 0, [] => b_X12_clear_blast_exploded_0  D
  | 1, [x1] => b_X12_clear_blast_exploded_1 x1 D
  | _, _ => none
def S_X12_clear_blast_exploded  (D : DD) : Option RT := run T_X12_clear_blast_exploded FUEL 0 [] D
def hg_X12_clear_blast_exploded (p : Program) (l : Launch) (e : Env) (s : State) (m : MethodId) (args : Array Value) (below : List Frame) (meth : Method) (c : Code) (G : va_G) (E : EE) (r : RT) (k : Nat) (ls : List Int32) (D : DD) : Prop := match k, ls with
  | 0, [] => GW p l e (rmm 0) s m args below meth c G E 2 (MQ below (QR G E s.heap.size r) args s 0 0 (fr E s.heap.size)) 0 0 D 0 [(0, .ref (E.1 62))] []
  | 1, [x1] => GW p l e (rmm 0) s m args below meth c G E 2 (MQ below (QR G E s.heap.size r) args s 0 0 (fr E s.heap.size)) 0 0 D 2 [(0, .ref (E.1 62)), (1, .int x1)] []
  | _, _ => True
set_option maxRecDepth 100000 in
set_option maxHeartbeats 4000000 in
theorem bl_X12_clear_blast_exploded_0 {p : Program} {l : Launch} {e : Env} {s : State} {m : MethodId} {args : Array Value} {below : List Frame} {meth : Method} {c : Code} {G : va_G} {E : EE} {r : RT} (X : CX p s m args meth c cX12_clear RX12 2 G E) (hr : meth.sig.returnType = none)  (D : DD) (o : (Nat × List Int32 × DD) ⊕ RT) (h : b_X12_clear_blast_exploded_0  D = some o) (h1 : ∀ x, o = .inl x → hg_X12_clear_blast_exploded p l e s m args below meth c G E r x.1 x.2.1 x.2.2) (h2 : ∀ x, o = .inr x → x = r) : GW p l e (rmm 0) s m args below meth c G E 2 (MQ below (QR G E s.heap.size r) args s 0 0 (fr E s.heap.size)) 0 0 D 0 [(0, .ref (E.1 62))] [] := by
  unfold b_X12_clear_blast_exploded_0 at h
  refine g_iconst X (v := (0 : Int32)) dX12_clear_0 (by decide) ?_
  refine g_istore_n X (i0 := 1) (lv' := [(1, .int (0 : Int32)), (0, .ref (E.1 62))]) dX12_clear_1 rfl (by decide) rfl ?_
  refine g_sub (lv' := [(0, .ref (E.1 62)), (1, .int (0 : Int32))]) [1, 0] rfl ?_
  exact h1 _ (Option.some.inj h).symm
set_option maxRecDepth 100000 in
set_option maxHeartbeats 4000000 in
theorem bl_X12_clear_blast_exploded_1 {p : Program} {l : Launch} {e : Env} {s : State} {m : MethodId} {args : Array Value} {below : List Frame} {meth : Method} {c : Code} {G : va_G} {E : EE} {r : RT} (X : CX p s m args meth c cX12_clear RX12 2 G E) (hr : meth.sig.returnType = none) (x1 : Int32) (D : DD) (o : (Nat × List Int32 × DD) ⊕ RT) (h : b_X12_clear_blast_exploded_1 x1 D = some o) (h1 : ∀ x, o = .inl x → hg_X12_clear_blast_exploded p l e s m args below meth c G E r x.1 x.2.1 x.2.2) (h2 : ∀ x, o = .inr x → x = r) : GW p l e (rmm 0) s m args below meth c G E 2 (MQ below (QR G E s.heap.size r) args s 0 0 (fr E s.heap.size)) 0 0 D 2 [(0, .ref (E.1 62)), (1, .int x1)] [] := by
  unfold b_X12_clear_blast_exploded_1 at h
  refine g_iload_n X 1 (i0 := 1) dX12_clear_2 rfl rfl ?_
  refine g_aload_n X 0 (i0 := 0) dX12_clear_3 rfl rfl ?_
  refine g_alen X (D := D) (v := (6 : Int32)) (t0 := 1) 62 (wg_62 E _) rfl rfl dX12_clear_4 ?_
  refine g_icmp_ge X (tgt := 18) dX12_clear_5 (by decide) (fun c2 => ?_) (fun c2 => ?_)
  · have h := (ite_s h).1 c2
    exact g_vret X hr dX12_clear_18 (h2 _ (Option.some.inj h).symm)
  · have h := (ite_s h).2 c2
    refine g_aload_n X 0 (i0 := 0) dX12_clear_8 rfl rfl ?_
    refine g_iload_n X 1 (i0 := 1) dX12_clear_9 rfl rfl ?_
    refine g_iconst X (v := (0 : Int32)) dX12_clear_10 (by decide) ?_
    obtain ⟨b1, h⟩ := chk_s h
    refine g_zast X (D := D) (f := (D.2.2.1 52)) (i := x1) (x := (0 : Int32)) (D' := (setA D 52 (upd (D.2.2.1 52) x1.toNatClampNeg (vp_nar .boolean (0 : Int32))))) 62 (wg_62 E _) (inB_vp b1) (ws_A_52 E _ _) dX12_clear_11 ?_
    refine g_iinc X 1 (v := (x1 + (1 : Int32))) (lv' := [(1, .int (x1 + (1 : Int32))), (0, .ref (E.1 62))]) dX12_clear_12 rfl rfl (by decide) rfl ?_
    refine g_goto X (tgt := 2) dX12_clear_15 (by decide) ?_
    refine g_sub (lv' := [(0, .ref (E.1 62)), (1, .int (x1 + (1 : Int32)))]) [1, 0] rfl ?_
    exact h1 _ (Option.some.inj h).symm
set_option maxRecDepth 100000 in
set_option maxHeartbeats 4000000 in
theorem c_X12_clear_blast_exploded (l : Launch) (G : va_G) (E : EE)  (D : DD) (r : RT) (h : S_X12_clear_blast_exploded  D = some r) : MM l G E yX12_clear cX12_clear 2 none (rmm 0) [.ref (E.1 62)] D r := by
  unfold S_X12_clear_blast_exploded at h
  refine m_of rfl (Nat.le_of_ble_eq_true rfl) ?_
  intro p e s m args below meth c X hr
  exact run_G (T := T_X12_clear_blast_exploded) (HG := hg_X12_clear_blast_exploded p l e s m args below meth c G E r) (by
    intro k ls D o hT h1 h2
    unfold T_X12_clear_blast_exploded at hT
    split at hT
    · exact bl_X12_clear_blast_exploded_0 X hr  D o hT h1 h2
    · exact bl_X12_clear_blast_exploded_1 X hr _ D o hT h1 h2
    · cases hT) FUEL 0 [] D h
def b_X12_clear_blast_opened_0  (D : DD) : Option ((Nat × List Int32 × DD) ⊕ RT) := some (.inl (1, [(0 : Int32)], D))
def b_X12_clear_blast_opened_1 (x1 : Int32) (D : DD) : Option ((Nat × List Int32 × DD) ⊕ RT) := (if (36 : Int32) ≤ x1 then some (.inr (0, none, D)) else (if inB x1 36 = true then some (.inl (1, [(x1 + (1 : Int32))], (setA D 53 (upd (D.2.2.1 53) x1.toNatClampNeg (vp_nar .boolean (0 : Int32)))))) else none))
def T_X12_clear_blast_opened (k : Nat) (ls : List Int32) (D : DD) : Option ((Nat × List Int32 × DD) ⊕ RT) := match k, ls with
  | 0, [] => b_X12_clear_blast_opened_0  D
  | 1, [x1] => b_X12_clear_blast_opened_1 x1 D
  | _, _ => none
def S_X12_clear_blast_opened  (D : DD) : Option RT := run T_X12_clear_blast_opened FUEL 0 [] D
def hg_X12_clear_blast_opened (p : Program) (l : Launch) (e : Env) (s : State) (m : MethodId) (args : Array Value) (below : List Frame) (meth : Method) (c : Code) (G : va_G) (E : EE) (r : RT) (k : Nat) (ls : List Int32) (D : DD) : Prop := match k, ls with
  | 0, [] => GW p l e (rmm 0) s m args below meth c G E 2 (MQ below (QR G E s.heap.size r) args s 0 0 (fr E s.heap.size)) 0 0 D 0 [(0, .ref (E.1 63))] []
  | 1, [x1] => GW p l e (rmm 0) s m args below meth c G E 2 (MQ below (QR G E s.heap.size r) args s 0 0 (fr E s.heap.size)) 0 0 D 2 [(0, .ref (E.1 63)), (1, .int x1)] []
  | _, _ => True
set_option maxRecDepth 100000 in
set_option maxHeartbeats 4000000 in
theorem bl_X12_clear_blast_opened_0 {p : Program} {l : Launch} {e : Env} {s : State} {m : MethodId} {args : Array Value} {below : List Frame} {meth : Method} {c : Code} {G : va_G} {E : EE} {r : RT} (X : CX p s m args meth c cX12_clear RX12 2 G E) (hr : meth.sig.returnType = none)  (D : DD) (o : (Nat × List Int32 × DD) ⊕ RT) (h : b_X12_clear_blast_opened_0  D = some o) (h1 : ∀ x, o = .inl x → hg_X12_clear_blast_opened p l e s m args below meth c G E r x.1 x.2.1 x.2.2) (h2 : ∀ x, o = .inr x → x = r) : GW p l e (rmm 0) s m args below meth c G E 2 (MQ below (QR G E s.heap.size r) args s 0 0 (fr E s.heap.size)) 0 0 D 0 [(0, .ref (E.1 63))] [] := by
  unfold b_X12_clear_blast_opened_0 at h
  refine g_iconst X (v := (0 : Int32)) dX12_clear_0 (by decide) ?_
  refine g_istore_n X (i0 := 1) (lv' := [(1, .int (0 : Int32)), (0, .ref (E.1 63))]) dX12_clear_1 rfl (by decide) rfl ?_
  refine g_sub (lv' := [(0, .ref (E.1 63)), (1, .int (0 : Int32))]) [1, 0] rfl ?_
  exact h1 _ (Option.some.inj h).symm
set_option maxRecDepth 100000 in
set_option maxHeartbeats 4000000 in
theorem bl_X12_clear_blast_opened_1 {p : Program} {l : Launch} {e : Env} {s : State} {m : MethodId} {args : Array Value} {below : List Frame} {meth : Method} {c : Code} {G : va_G} {E : EE} {r : RT} (X : CX p s m args meth c cX12_clear RX12 2 G E) (hr : meth.sig.returnType = none) (x1 : Int32) (D : DD) (o : (Nat × List Int32 × DD) ⊕ RT) (h : b_X12_clear_blast_opened_1 x1 D = some o) (h1 : ∀ x, o = .inl x → hg_X12_clear_blast_opened p l e s m args below meth c G E r x.1 x.2.1 x.2.2) (h2 : ∀ x, o = .inr x → x = r) : GW p l e (rmm 0) s m args below meth c G E 2 (MQ below (QR G E s.heap.size r) args s 0 0 (fr E s.heap.size)) 0 0 D 2 [(0, .ref (E.1 63)), (1, .int x1)] [] := by
  unfold b_X12_clear_blast_opened_1 at h
  refine g_iload_n X 1 (i0 := 1) dX12_clear_2 rfl rfl ?_
  refine g_aload_n X 0 (i0 := 0) dX12_clear_3 rfl rfl ?_
  refine g_alen X (D := D) (v := (36 : Int32)) (t0 := 1) 63 (wg_63 E _) rfl rfl dX12_clear_4 ?_
  refine g_icmp_ge X (tgt := 18) dX12_clear_5 (by decide) (fun c2 => ?_) (fun c2 => ?_)
  · have h := (ite_s h).1 c2
    exact g_vret X hr dX12_clear_18 (h2 _ (Option.some.inj h).symm)
  · have h := (ite_s h).2 c2
    refine g_aload_n X 0 (i0 := 0) dX12_clear_8 rfl rfl ?_
    refine g_iload_n X 1 (i0 := 1) dX12_clear_9 rfl rfl ?_
    refine g_iconst X (v := (0 : Int32)) dX12_clear_10 (by decide) ?_
    obtain ⟨b1, h⟩ := chk_s h
    refine g_zast X (D := D) (f := (D.2.2.1 53)) (i := x1) (x := (0 : Int32)) (D' := (setA D 53 (upd (D.2.2.1 53) x1.toNatClampNeg (vp_nar .boolean (0 : Int32))))) 63 (wg_63 E _) (inB_vp b1) (ws_A_53 E _ _) dX12_clear_11 ?_
    refine g_iinc X 1 (v := (x1 + (1 : Int32))) (lv' := [(1, .int (x1 + (1 : Int32))), (0, .ref (E.1 63))]) dX12_clear_12 rfl rfl (by decide) rfl ?_
    refine g_goto X (tgt := 2) dX12_clear_15 (by decide) ?_
    refine g_sub (lv' := [(0, .ref (E.1 63)), (1, .int (x1 + (1 : Int32)))]) [1, 0] rfl ?_
    exact h1 _ (Option.some.inj h).symm
set_option maxRecDepth 100000 in
set_option maxHeartbeats 4000000 in
theorem c_X12_clear_blast_opened (l : Launch) (G : va_G) (E : EE)  (D : DD) (r : RT) (h : S_X12_clear_blast_opened  D = some r) : MM l G E yX12_clear cX12_clear 2 none (rmm 0) [.ref (E.1 63)] D r := by
  unfold S_X12_clear_blast_opened at h
  refine m_of rfl (Nat.le_of_ble_eq_true rfl) ?_
  intro p e s m args below meth c X hr
  exact run_G (T := T_X12_clear_blast_opened) (HG := hg_X12_clear_blast_opened p l e s m args below meth c G E r) (by
    intro k ls D o hT h1 h2
    unfold T_X12_clear_blast_opened at hT
    split at hT
    · exact bl_X12_clear_blast_opened_0 X hr  D o hT h1 h2
    · exact bl_X12_clear_blast_opened_1 X hr _ D o hT h1 h2
    · cases hT) FUEL 0 [] D h
theorem fl_X1_29 : Cond.fieldLink RX1 29 "StoneQuarry$Blast" "explodedCount" "I" ∈ UT := ut 203 (by decide +kernel) (by decide +kernel)
theorem fl_X1_9 : Cond.fieldLink RX1 9 "StoneQuarry$Blast" "exploded" "[Z" ∈ UT := ut 200 (by decide +kernel) (by decide +kernel)
theorem hd_X12_clear : yX12_clear.cls ≠ "java/lang/invoke/MethodHandle" ∧ yX12_clear.cls ≠ "java/lang/invoke/VarHandle" ∧ (parseMethodDescriptor yX12_clear.desc).map (fun d => d.parameters.length) = some 1 := by decide +kernel
theorem kn_X1_53 : Cond.methodLinkNest RX1 53 yX12_clear "StoneQuarry" ∈ NEST := nst 534 (by decide +kernel) rfl
theorem wc_X12_clear : Cond.code yX12_clear cX12_clear 2 none ∈ UT := ut 395 (by decide +kernel) (by decide +kernel)
theorem ws_I_126 (E : EE) (D : DD) (v : Int32) : (wd E D).set 61 (E.1 61, .inr (2, [.ref (E.1 62), .ref (E.1 63), .ref (E.1 64), .int v, .int (D.1 127)])) = wd E (setI D 126 v) := rfl
theorem wt_X12_clear : Cond.static yX12_clear ∈ UT := ut 394 (by decide +kernel) (by decide +kernel)
def S_X1_reset  (D : DD) : Option RT := (cV (S_X12_clear_blast_exploded D) (fun D2 => (cV (S_X12_clear_blast_opened D2) (fun D4 => some (0, none, (setI (setI D4 126 (0 : Int32)) 127 (0 : Int32)))))))
set_option maxRecDepth 100000 in
set_option maxHeartbeats 4000000 in
theorem c_X1_reset (l : Launch) (G : va_G) (E : EE)  (D : DD) (r : RT) (h : S_X1_reset  D = some r) : MM l G E yX1_reset cX1_reset 1 none (rmm 1) [.ref (E.1 61)] D r := by
  refine m_of rfl (Nat.le_of_ble_eq_true rfl) ?_
  intro p e s m args below meth c X hr
  unfold S_X1_reset at h
  refine g_aload_n X 0 (i0 := 0) dX1_reset_0 rfl rfl ?_
  refine g_get X (D := D) (v := .ref (E.1 62)) (T := TX1) 61 uX1 (wg_61 E _) rfl 0 (by decide) fl_X1_9 rfl rfl dX1_reset_1 ?_
  obtain ⟨D2, e1, h⟩ := cV_s h
  refine g_SN X (As := [.ref (E.1 62)]) (rest := []) (c_X12_clear_blast_exploded l G E  _ _ e1) wc_X12_clear kn_X1_53 wi_RX12 wt_X12_clear ⟨rfl, rfl⟩ hd_X12_clear (⟨Nat.le_of_ble_eq_true rfl, Nat.le_of_ble_eq_true rfl⟩) rfl rfl (Nat.le_of_ble_eq_true rfl) dX1_reset_4 ?_
  refine g_aload_n X 0 (i0 := 0) dX1_reset_7 rfl rfl ?_
  refine g_get X (D := D2) (v := .ref (E.1 63)) (T := TX1) 61 uX1 (wg_61 E _) rfl 1 (by decide) fl_X1_15 rfl rfl dX1_reset_8 ?_
  obtain ⟨D4, e3, h⟩ := cV_s h
  refine g_SN X (As := [.ref (E.1 63)]) (rest := []) (c_X12_clear_blast_opened l G E  _ _ e3) wc_X12_clear kn_X1_53 wi_RX12 wt_X12_clear ⟨rfl, rfl⟩ hd_X12_clear (⟨Nat.le_of_ble_eq_true rfl, Nat.le_of_ble_eq_true rfl⟩) rfl rfl (Nat.le_of_ble_eq_true rfl) dX1_reset_11 ?_
  refine g_aload_n X 0 (i0 := 0) dX1_reset_14 rfl rfl ?_
  refine g_iconst X (v := (0 : Int32)) dX1_reset_15 (by decide) ?_
  refine g_put X (D := D4) (v := .int (0 : Int32)) (T := TX1) (D' := (setI D4 126 (0 : Int32))) 61 uX1 tyX1 tyX1_ok nmX1 (wg_61 E _) rfl 3 (by decide) fl_X1_29 rfl rfl rfl rfl (Nat.le_of_ble_eq_true rfl) (ws_I_126 E _ _) dX1_reset_16 ?_
  refine g_aload_n X 0 (i0 := 0) dX1_reset_19 rfl rfl ?_
  refine g_iconst X (v := (0 : Int32)) dX1_reset_20 (by decide) ?_
  refine g_put X (D := (setI D4 126 (0 : Int32))) (v := .int (0 : Int32)) (T := TX1) (D' := (setI (setI D4 126 (0 : Int32)) 127 (0 : Int32))) 61 uX1 tyX1 tyX1_ok nmX1 (wg_61 E _) rfl 4 (by decide) fl_X1_57 rfl rfl rfl rfl (Nat.le_of_ble_eq_true rfl) (ws_I_127 E _ _) dX1_reset_21 ?_
  exact g_vret X hr dX1_reset_24 (Option.some.inj h)
def S_X12_inRange (a0 : Int32) (a1 : Int32) (a2 : Int32) (D : DD) : Option RT := (if a0 < a1 then some (0, some (.int (0 : Int32)), D) else (if a2 < a0 then some (0, some (.int (0 : Int32)), D) else some (0, some (.int (1 : Int32)), D)))
set_option maxRecDepth 100000 in
set_option maxHeartbeats 4000000 in
theorem c_X12_inRange (l : Launch) (G : va_G) (E : EE) (a0 : Int32) (a1 : Int32) (a2 : Int32) (D : DD) (r : RT) (h : S_X12_inRange a0 a1 a2 D = some r) : MM l G E yX12_inRange cX12_inRange 3 (some .boolean) (rmm 0) [.int a0, .int a1, .int a2] D r := by
  refine m_of rfl (Nat.le_of_ble_eq_true rfl) ?_
  intro p e s m args below meth c X hr
  unfold S_X12_inRange at h
  refine g_iload_n X 0 (i0 := 0) dX12_inRange_0 rfl rfl ?_
  refine g_iload_n X 1 (i0 := 1) dX12_inRange_1 rfl rfl ?_
  refine g_icmp_lt X (tgt := 14) dX12_inRange_2 (by decide) (fun c2 => ?_) (fun c2 => ?_)
  · have h := (ite_s h).1 c2
    refine g_iconst X (v := (0 : Int32)) dX12_inRange_14 (by decide) ?_
    exact g_iret X hr rfl dX12_inRange_15 (Option.some.inj h)
  · have h := (ite_s h).2 c2
    refine g_iload_n X 0 (i0 := 0) dX12_inRange_5 rfl rfl ?_
    refine g_iload_n X 2 (i0 := 2) dX12_inRange_6 rfl rfl ?_
    refine g_icmp_gt X (tgt := 14) dX12_inRange_7 (by decide) (fun c1 => ?_) (fun c1 => ?_)
    · have h := (ite_s h).1 c1
      refine g_iconst X (v := (0 : Int32)) dX12_inRange_14 (by decide) ?_
      exact g_iret X hr rfl dX12_inRange_15 (Option.some.inj h)
    · have h := (ite_s h).2 c1
      refine g_iconst X (v := (1 : Int32)) dX12_inRange_10 (by decide) ?_
      refine g_goto X (tgt := 15) dX12_inRange_11 (by decide) ?_
      exact g_iret X hr rfl dX12_inRange_15 (Option.some.inj h)
theorem fl_X1_18 : Cond.fieldLink RX1 18 "StoneQuarry$Blast" "order" "[I" ∈ UT := ut 202 (by decide +kernel) (by decide +kernel)
theorem hd_X12_inRange : yX12_inRange.cls ≠ "java/lang/invoke/MethodHandle" ∧ yX12_inRange.cls ≠ "java/lang/invoke/VarHandle" ∧ (parseMethodDescriptor yX12_inRange.desc).map (fun d => d.parameters.length) = some 3 := by decide +kernel
theorem kn_X1_45 : Cond.methodLinkNest RX1 45 yX12_inRange "StoneQuarry" ∈ NEST := nst 539 (by decide +kernel) rfl
theorem wc_X12_inRange : Cond.code yX12_inRange cX12_inRange 3 (some .boolean) ∈ UT := ut 541 (by decide +kernel) (by decide +kernel)
theorem wg_64 (E : EE) (D : DD) : (wd E D)[64]? = some (E.1 64, .inl (E.2 0, 6, .inl (D.2.2.1 54))) := rfl
theorem ws_A_54 (E : EE) (D : DD) (f : Nat → Int32) : (wd E D).set 64 (E.1 64, .inl (E.2 0, 6, .inl f)) = wd E (setA D 54 f) := rfl
theorem wt_X12_inRange : Cond.static yX12_inRange ∈ UT := ut 540 (by decide +kernel) (by decide +kernel)
def S_X1_setOff (a0 : Int32) (D : DD) : Option RT := (cI (S_X12_inRange a0 (0 : Int32) (5 : Int32) D) (fun r3 D2 => (if r3 = 0 then some (0, none, D2) else (if inB a0 6 = true then (if ((D2.2.2.1 52) a0.toNatClampNeg) = 0 then (cI (S_X12_inRange (D2.1 126) (0 : Int32) (5 : Int32) D2) (fun r7 D6 => (if r7 = 0 then some (0, none, D6) else (if inB a0 6 = true then (if inB (D6.1 126) 6 = true then some (0, none, (setI (setA (setA D6 52 (upd (D6.2.2.1 52) a0.toNatClampNeg (vp_nar .boolean (1 : Int32)))) 54 (upd (D6.2.2.1 54) (D6.1 126).toNatClampNeg a0)) 126 ((D6.1 126) + (1 : Int32)))) else none) else none)))) else some (0, none, D2)) else none))))
set_option maxRecDepth 100000 in
set_option maxHeartbeats 4000000 in
theorem c_X1_setOff (l : Launch) (G : va_G) (E : EE) (a0 : Int32) (D : DD) (r : RT) (h : S_X1_setOff a0 D = some r) : MM l G E yX1_setOff cX1_setOff 2 none (rmm 1) [.ref (E.1 61), .int a0] D r := by
  refine m_of rfl (Nat.le_of_ble_eq_true rfl) ?_
  intro p e s m args below meth c X hr
  unfold S_X1_setOff at h
  refine g_iload_n X 1 (i0 := 1) dX1_setOff_0 rfl rfl ?_
  refine g_iconst X (v := (0 : Int32)) dX1_setOff_1 (by decide) ?_
  refine g_iconst X (v := (5 : Int32)) dX1_setOff_2 (by decide) ?_
  obtain ⟨r3, D2, e1, h⟩ := cI_s h
  refine g_SN X (As := [.int a0, .int (0 : Int32), .int (5 : Int32)]) (rest := []) (c_X12_inRange l G E a0 (0 : Int32) (5 : Int32) _ _ e1) wc_X12_inRange kn_X1_45 wi_RX12 wt_X12_inRange ⟨rfl, rfl⟩ hd_X12_inRange (⟨Nat.le_of_ble_eq_true rfl, Nat.le_of_ble_eq_true rfl⟩) rfl rfl (Nat.le_of_ble_eq_true rfl) dX1_setOff_3 ?_
  refine g_if_eq X (tgt := 57) dX1_setOff_6 (by decide) (fun c12 => ?_) (fun c12 => ?_)
  · have h := (ite_s h).1 c12
    exact g_vret X hr dX1_setOff_57 (Option.some.inj h)
  · have h := (ite_s h).2 c12
    refine g_aload_n X 0 (i0 := 0) dX1_setOff_9 rfl rfl ?_
    refine g_get X (D := D2) (v := .ref (E.1 62)) (T := TX1) 61 uX1 (wg_61 E _) rfl 0 (by decide) fl_X1_9 rfl rfl dX1_setOff_10 ?_
    refine g_iload_n X 1 (i0 := 1) dX1_setOff_13 rfl rfl ?_
    obtain ⟨b4, h⟩ := chk_s h
    refine g_zald X (D := D2) (f := (D2.2.2.1 52)) (i := a0) 62 (wg_62 E _) (inB_vp b4) dX1_setOff_14 ?_
    refine g_if_ne X (tgt := 57) dX1_setOff_15 (by decide) (fun c11 => ?_) (fun c11 => ?_)
    · have h := (ite_s h).2 c11
      exact g_vret X hr dX1_setOff_57 (Option.some.inj h)
    · have h := (ite_s h).1 c11
      refine g_aload_n X 0 (i0 := 0) dX1_setOff_18 rfl rfl ?_
      refine g_get X (D := D2) (v := .int (D2.1 126)) (T := TX1) 61 uX1 (wg_61 E _) rfl 3 (by decide) fl_X1_29 rfl rfl dX1_setOff_19 ?_
      refine g_iconst X (v := (0 : Int32)) dX1_setOff_22 (by decide) ?_
      refine g_iconst X (v := (5 : Int32)) dX1_setOff_23 (by decide) ?_
      obtain ⟨r7, D6, e5, h⟩ := cI_s h
      refine g_SN X (As := [.int (D2.1 126), .int (0 : Int32), .int (5 : Int32)]) (rest := []) (c_X12_inRange l G E (D2.1 126) (0 : Int32) (5 : Int32) _ _ e5) wc_X12_inRange kn_X1_45 wi_RX12 wt_X12_inRange ⟨rfl, rfl⟩ hd_X12_inRange (⟨Nat.le_of_ble_eq_true rfl, Nat.le_of_ble_eq_true rfl⟩) rfl rfl (Nat.le_of_ble_eq_true rfl) dX1_setOff_24 ?_
      refine g_if_eq X (tgt := 57) dX1_setOff_27 (by decide) (fun c10 => ?_) (fun c10 => ?_)
      · have h := (ite_s h).1 c10
        exact g_vret X hr dX1_setOff_57 (Option.some.inj h)
      · have h := (ite_s h).2 c10
        refine g_aload_n X 0 (i0 := 0) dX1_setOff_30 rfl rfl ?_
        refine g_get X (D := D6) (v := .ref (E.1 62)) (T := TX1) 61 uX1 (wg_61 E _) rfl 0 (by decide) fl_X1_9 rfl rfl dX1_setOff_31 ?_
        refine g_iload_n X 1 (i0 := 1) dX1_setOff_34 rfl rfl ?_
        refine g_iconst X (v := (1 : Int32)) dX1_setOff_35 (by decide) ?_
        obtain ⟨b8, h⟩ := chk_s h
        refine g_zast X (D := D6) (f := (D6.2.2.1 52)) (i := a0) (x := (1 : Int32)) (D' := (setA D6 52 (upd (D6.2.2.1 52) a0.toNatClampNeg (vp_nar .boolean (1 : Int32))))) 62 (wg_62 E _) (inB_vp b8) (ws_A_52 E _ _) dX1_setOff_36 ?_
        refine g_aload_n X 0 (i0 := 0) dX1_setOff_37 rfl rfl ?_
        refine g_get X (D := (setA D6 52 (upd (D6.2.2.1 52) a0.toNatClampNeg (vp_nar .boolean (1 : Int32))))) (v := .ref (E.1 64)) (T := TX1) 61 uX1 (wg_61 E _) rfl 2 (by decide) fl_X1_18 rfl rfl dX1_setOff_38 ?_
        refine g_aload_n X 0 (i0 := 0) dX1_setOff_41 rfl rfl ?_
        refine g_get X (D := (setA D6 52 (upd (D6.2.2.1 52) a0.toNatClampNeg (vp_nar .boolean (1 : Int32))))) (v := .int (D6.1 126)) (T := TX1) 61 uX1 (wg_61 E _) rfl 3 (by decide) fl_X1_29 rfl rfl dX1_setOff_42 ?_
        refine g_iload_n X 1 (i0 := 1) dX1_setOff_45 rfl rfl ?_
        obtain ⟨b9, h⟩ := chk_s h
        refine g_iast X (D := (setA D6 52 (upd (D6.2.2.1 52) a0.toNatClampNeg (vp_nar .boolean (1 : Int32))))) (f := (D6.2.2.1 54)) (i := (D6.1 126)) (x := a0) (D' := (setA (setA D6 52 (upd (D6.2.2.1 52) a0.toNatClampNeg (vp_nar .boolean (1 : Int32)))) 54 (upd (D6.2.2.1 54) (D6.1 126).toNatClampNeg a0))) 64 (wg_64 E _) (inB_vp b9) (ws_A_54 E _ _) dX1_setOff_46 ?_
        refine g_aload_n X 0 (i0 := 0) dX1_setOff_47 rfl rfl ?_
        refine g_dup X dX1_setOff_48 rfl ?_
        refine g_get X (D := (setA (setA D6 52 (upd (D6.2.2.1 52) a0.toNatClampNeg (vp_nar .boolean (1 : Int32)))) 54 (upd (D6.2.2.1 54) (D6.1 126).toNatClampNeg a0))) (v := .int (D6.1 126)) (T := TX1) 61 uX1 (wg_61 E _) rfl 3 (by decide) fl_X1_29 rfl rfl dX1_setOff_49 ?_
        refine g_iconst X (v := (1 : Int32)) dX1_setOff_52 (by decide) ?_
        refine g_iadd X dX1_setOff_53 ?_
        refine g_put X (D := (setA (setA D6 52 (upd (D6.2.2.1 52) a0.toNatClampNeg (vp_nar .boolean (1 : Int32)))) 54 (upd (D6.2.2.1 54) (D6.1 126).toNatClampNeg a0))) (v := .int ((D6.1 126) + (1 : Int32))) (T := TX1) (D' := (setI (setA (setA D6 52 (upd (D6.2.2.1 52) a0.toNatClampNeg (vp_nar .boolean (1 : Int32)))) 54 (upd (D6.2.2.1 54) (D6.1 126).toNatClampNeg a0)) 126 ((D6.1 126) + (1 : Int32)))) 61 uX1 tyX1 tyX1_ok nmX1 (wg_61 E _) rfl 3 (by decide) fl_X1_29 rfl rfl rfl rfl (Nat.le_of_ble_eq_true rfl) (ws_I_126 E _ _) dX1_setOff_54 ?_
        exact g_vret X hr dX1_setOff_57 (Option.some.inj h)
theorem kn_X1_49 : Cond.methodLinkNest RX1 49 yX12_isCell "StoneQuarry" ∈ NEST := nst 592 (by decide +kernel) rfl
def S_X1_opens (a0 : Int32) (D : DD) : Option RT := (cI (S_X12_isCell a0 D) (fun r3 D2 => (if r3 = 0 then some (0, some (.int (0 : Int32)), D2) else (if inB a0 36 = true then (if ((D2.2.2.1 53) a0.toNatClampNeg) = 0 then some (0, some (.int (0 : Int32)), D2) else some (0, some (.int (1 : Int32)), D2)) else none))))
set_option maxRecDepth 100000 in
set_option maxHeartbeats 4000000 in
theorem c_X1_opens (l : Launch) (G : va_G) (E : EE) (a0 : Int32) (D : DD) (r : RT) (h : S_X1_opens a0 D = some r) : MM l G E yX1_opens cX1_opens 2 (some .boolean) (rmm 1) [.ref (E.1 61), .int a0] D r := by
  refine m_of rfl (Nat.le_of_ble_eq_true rfl) ?_
  intro p e s m args below meth c X hr
  unfold S_X1_opens at h
  refine g_iload_n X 1 (i0 := 1) dX1_opens_0 rfl rfl ?_
  obtain ⟨r3, D2, e1, h⟩ := cI_s h
  refine g_SN X (As := [.int a0]) (rest := []) (c_X12_isCell l G E a0 _ _ e1) wc_X12_isCell kn_X1_49 wi_RX12 wt_X12_isCell ⟨rfl, rfl⟩ hd_X12_isCell (⟨Nat.le_of_ble_eq_true rfl, Nat.le_of_ble_eq_true rfl⟩) rfl rfl (Nat.le_of_ble_eq_true rfl) dX1_opens_1 ?_
  refine g_if_eq X (tgt := 20) dX1_opens_4 (by decide) (fun c6 => ?_) (fun c6 => ?_)
  · have h := (ite_s h).1 c6
    refine g_iconst X (v := (0 : Int32)) dX1_opens_20 (by decide) ?_
    exact g_iret X hr rfl dX1_opens_21 (Option.some.inj h)
  · have h := (ite_s h).2 c6
    refine g_aload_n X 0 (i0 := 0) dX1_opens_7 rfl rfl ?_
    refine g_get X (D := D2) (v := .ref (E.1 63)) (T := TX1) 61 uX1 (wg_61 E _) rfl 1 (by decide) fl_X1_15 rfl rfl dX1_opens_8 ?_
    refine g_iload_n X 1 (i0 := 1) dX1_opens_11 rfl rfl ?_
    obtain ⟨b4, h⟩ := chk_s h
    refine g_zald X (D := D2) (f := (D2.2.2.1 53)) (i := a0) 63 (wg_63 E _) (inB_vp b4) dX1_opens_12 ?_
    refine g_if_eq X (tgt := 20) dX1_opens_13 (by decide) (fun c5 => ?_) (fun c5 => ?_)
    · have h := (ite_s h).1 c5
      refine g_iconst X (v := (0 : Int32)) dX1_opens_20 (by decide) ?_
      exact g_iret X hr rfl dX1_opens_21 (Option.some.inj h)
    · have h := (ite_s h).2 c5
      refine g_iconst X (v := (1 : Int32)) dX1_opens_16 (by decide) ?_
      refine g_goto X (tgt := 21) dX1_opens_17 (by decide) ?_
      exact g_iret X hr rfl dX1_opens_21 (Option.some.inj h)
theorem fl_X1_77 : Cond.fieldLink RX1 77 "StoneQuarry$QuarryState" "charges" "I" ∈ UT := ut 127 (by decide +kernel) (by decide +kernel)
theorem hd_X1_opens : yX1_opens.cls ≠ "java/lang/invoke/MethodHandle" ∧ yX1_opens.cls ≠ "java/lang/invoke/VarHandle" ∧ (parseMethodDescriptor yX1_opens.desc).map (fun d => d.parameters.length) = some 1 := by decide +kernel
theorem hd_X1_setOff : yX1_setOff.cls ≠ "java/lang/invoke/MethodHandle" ∧ yX1_setOff.cls ≠ "java/lang/invoke/VarHandle" ∧ (parseMethodDescriptor yX1_setOff.desc).map (fun d => d.parameters.length) = some 1 := by decide +kernel
theorem wc_X1_setOff : Cond.code yX1_setOff cX1_setOff 2 none ∈ UT := ut 538 (by decide +kernel) (by decide +kernel)
theorem we_X1_setOff : Cond.selects RX1 yX1_setOff yX1_setOff ∈ UT := ut 9 (by decide +kernel) (by decide +kernel)
theorem wi_RX1 : Cond.initialized RX1 ∈ UT := ut 80 (by decide +kernel) (by decide +kernel)
theorem wm_X1_setOff : Cond.instanceMethod yX1_setOff ∈ UT := ut 537 (by decide +kernel) (by decide +kernel)
theorem kv_X1_25 : GoodIn UT (wsV RX1 25 RX1 yX1_setOff (Cond.code yX1_setOff cX1_setOff 2 none :: UT)) := gu_V (ut 535 (by decide +kernel) (by decide +kernel)) wm_X1_setOff we_X1_setOff wi_RX1 wc_X1_setOff
theorem wc_X1_opens : Cond.code yX1_opens cX1_opens 2 (some .boolean) ∈ UT := ut 591 (by decide +kernel) (by decide +kernel)
theorem we_X1_opens : Cond.selects RX1 yX1_opens yX1_opens ∈ UT := ut 590 (by decide +kernel) (by decide +kernel)
theorem wm_X1_opens : Cond.instanceMethod yX1_opens ∈ UT := ut 589 (by decide +kernel) (by decide +kernel)
theorem kv_X1_80 : GoodIn UT (wsV RX1 80 RX1 yX1_opens (Cond.code yX1_opens cX1_opens 2 (some .boolean) :: UT)) := gu_V (ut 588 (by decide +kernel) (by decide +kernel)) wm_X1_opens we_X1_opens wi_RX1 wc_X1_opens
def b_X1_setOffOpened_0  (D : DD) : Option ((Nat × List Int32 × DD) ⊕ RT) := some (.inl (1, [(0 : Int32)], D))
def b_X1_setOffOpened_1 (x2 : Int32) (D : DD) : Option ((Nat × List Int32 × DD) ⊕ RT) := (if (D.1 0) ≤ x2 then some (.inr (0, none, D)) else (cI (S_X8_cellOf x2 D) (fun r3 D2 => (cI (S_X1_opens r3 D2) (fun r6 D5 => (if r6 = 0 then some (.inl (1, [(x2 + (1 : Int32))], D5)) else (cV (S_X1_setOff x2 D5) (fun D8 => some (.inl (1, [(x2 + (1 : Int32))], D8))))))))))
def T_X1_setOffOpened (k : Nat) (ls : List Int32) (D : DD) : Option ((Nat × List Int32 × DD) ⊕ RT) := match k, ls with
  | 0, [] => b_X1_setOffOpened_0  D
  | 1, [x2] => b_X1_setOffOpened_1 x2 D
  | _, _ => none
def S_X1_setOffOpened  (D : DD) : Option RT := run T_X1_setOffOpened FUEL 0 [] D
def hg_X1_setOffOpened (p : Program) (l : Launch) (e : Env) (s : State) (m : MethodId) (args : Array Value) (below : List Frame) (meth : Method) (c : Code) (G : va_G) (E : EE) (r : RT) (k : Nat) (ls : List Int32) (D : DD) : Prop := match k, ls with
  | 0, [] => GW p l e (rmm 2) s m args below meth c G E 3 (MQ below (QR G E s.heap.size r) args s 0 0 (fr E s.heap.size)) 0 0 D 0 [(0, .ref (E.1 61)), (1, .ref (E.1 1))] []
  | 1, [x2] => GW p l e (rmm 2) s m args below meth c G E 3 (MQ below (QR G E s.heap.size r) args s 0 0 (fr E s.heap.size)) 0 0 D 2 [(0, .ref (E.1 61)), (1, .ref (E.1 1)), (2, .int x2)] []
  | _, _ => True
set_option maxRecDepth 100000 in
set_option maxHeartbeats 4000000 in
theorem bl_X1_setOffOpened_0 {p : Program} {l : Launch} {e : Env} {s : State} {m : MethodId} {args : Array Value} {below : List Frame} {meth : Method} {c : Code} {G : va_G} {E : EE} {r : RT} (X : CX p s m args meth c cX1_setOffOpened RX1 3 G E) (hr : meth.sig.returnType = none)  (D : DD) (o : (Nat × List Int32 × DD) ⊕ RT) (h : b_X1_setOffOpened_0  D = some o) (h1 : ∀ x, o = .inl x → hg_X1_setOffOpened p l e s m args below meth c G E r x.1 x.2.1 x.2.2) (h2 : ∀ x, o = .inr x → x = r) : GW p l e (rmm 2) s m args below meth c G E 3 (MQ below (QR G E s.heap.size r) args s 0 0 (fr E s.heap.size)) 0 0 D 0 [(0, .ref (E.1 61)), (1, .ref (E.1 1))] [] := by
  unfold b_X1_setOffOpened_0 at h
  refine g_iconst X (v := (0 : Int32)) dX1_setOffOpened_0 (by decide) ?_
  refine g_istore_n X (i0 := 2) (lv' := [(2, .int (0 : Int32)), (0, .ref (E.1 61)), (1, .ref (E.1 1))]) dX1_setOffOpened_1 rfl (by decide) rfl ?_
  refine g_sub (lv' := [(0, .ref (E.1 61)), (1, .ref (E.1 1)), (2, .int (0 : Int32))]) [1, 2, 0] rfl ?_
  exact h1 _ (Option.some.inj h).symm
set_option maxRecDepth 100000 in
set_option maxHeartbeats 4000000 in
theorem bl_X1_setOffOpened_1 {p : Program} {l : Launch} {e : Env} {s : State} {m : MethodId} {args : Array Value} {below : List Frame} {meth : Method} {c : Code} {G : va_G} {E : EE} {r : RT} (X : CX p s m args meth c cX1_setOffOpened RX1 3 G E) (hr : meth.sig.returnType = none) (x2 : Int32) (D : DD) (o : (Nat × List Int32 × DD) ⊕ RT) (h : b_X1_setOffOpened_1 x2 D = some o) (h1 : ∀ x, o = .inl x → hg_X1_setOffOpened p l e s m args below meth c G E r x.1 x.2.1 x.2.2) (h2 : ∀ x, o = .inr x → x = r) : GW p l e (rmm 2) s m args below meth c G E 3 (MQ below (QR G E s.heap.size r) args s 0 0 (fr E s.heap.size)) 0 0 D 2 [(0, .ref (E.1 61)), (1, .ref (E.1 1)), (2, .int x2)] [] := by
  unfold b_X1_setOffOpened_1 at h
  refine g_iload_n X 2 (i0 := 2) dX1_setOffOpened_2 rfl rfl ?_
  refine g_aload_n X 1 (i0 := 1) dX1_setOffOpened_3 rfl rfl ?_
  refine g_get X (D := D) (v := .int (D.1 0)) (T := TX8) 1 uX8 (wg_1 E _) rfl 4 (by decide) fl_X1_77 rfl rfl dX1_setOffOpened_4 ?_
  refine g_icmp_ge X (tgt := 33) dX1_setOffOpened_7 (by decide) (fun c10 => ?_) (fun c10 => ?_)
  · have h := (ite_s h).1 c10
    exact g_vret X hr dX1_setOffOpened_33 (h2 _ (Option.some.inj h).symm)
  · have h := (ite_s h).2 c10
    refine g_aload_n X 0 (i0 := 0) dX1_setOffOpened_10 rfl rfl ?_
    refine g_aload_n X 1 (i0 := 1) dX1_setOffOpened_11 rfl rfl ?_
    refine g_iload_n X 2 (i0 := 2) dX1_setOffOpened_12 rfl rfl ?_
    obtain ⟨r3, D2, e1, h⟩ := cI_s h
    refine g_V X (As := [.int x2]) (rest := [.ref (E.1 61)]) (c_X8_cellOf l G E x2 _ _ e1) 1 (wg_1 E _) rfl rfl kv_X1_60 ⟨rfl, rfl⟩ ⟨rfl, hd_X8_cellOf⟩ (⟨Nat.le_of_ble_eq_true rfl, Nat.le_of_ble_eq_true rfl⟩) rfl rfl (Nat.le_of_ble_eq_true rfl) dX1_setOffOpened_13 ?_
    obtain ⟨r6, D5, e4, h⟩ := cI_s h
    refine g_V X (As := [.int r3]) (rest := []) (c_X1_opens l G E r3 _ _ e4) 61 (wg_61 E _) rfl rfl kv_X1_80 ⟨rfl, rfl⟩ ⟨rfl, hd_X1_opens⟩ (⟨Nat.le_of_ble_eq_true rfl, Nat.le_of_ble_eq_true rfl⟩) rfl rfl (Nat.le_of_ble_eq_true rfl) dX1_setOffOpened_16 ?_
    refine g_if_eq X (tgt := 27) dX1_setOffOpened_19 (by decide) (fun c9 => ?_) (fun c9 => ?_)
    · have h := (ite_s h).1 c9
      refine g_iinc X 2 (v := (x2 + (1 : Int32))) (lv' := [(2, .int (x2 + (1 : Int32))), (0, .ref (E.1 61)), (1, .ref (E.1 1))]) dX1_setOffOpened_27 rfl rfl (by decide) rfl ?_
      refine g_goto X (tgt := 2) dX1_setOffOpened_30 (by decide) ?_
      refine g_sub (lv' := [(0, .ref (E.1 61)), (1, .ref (E.1 1)), (2, .int (x2 + (1 : Int32)))]) [1, 2, 0] rfl ?_
      exact h1 _ (Option.some.inj h).symm
    · have h := (ite_s h).2 c9
      refine g_aload_n X 0 (i0 := 0) dX1_setOffOpened_22 rfl rfl ?_
      refine g_iload_n X 2 (i0 := 2) dX1_setOffOpened_23 rfl rfl ?_
      obtain ⟨D8, e7, h⟩ := cV_s h
      refine g_V X (As := [.int x2]) (rest := []) (c_X1_setOff l G E x2 _ _ e7) 61 (wg_61 E _) rfl rfl kv_X1_25 ⟨rfl, rfl⟩ ⟨rfl, hd_X1_setOff⟩ (⟨Nat.le_of_ble_eq_true rfl, Nat.le_of_ble_eq_true rfl⟩) rfl rfl (Nat.le_of_ble_eq_true rfl) dX1_setOffOpened_24 ?_
      refine g_iinc X 2 (v := (x2 + (1 : Int32))) (lv' := [(2, .int (x2 + (1 : Int32))), (0, .ref (E.1 61)), (1, .ref (E.1 1))]) dX1_setOffOpened_27 rfl rfl (by decide) rfl ?_
      refine g_goto X (tgt := 2) dX1_setOffOpened_30 (by decide) ?_
      refine g_sub (lv' := [(0, .ref (E.1 61)), (1, .ref (E.1 1)), (2, .int (x2 + (1 : Int32)))]) [1, 2, 0] rfl ?_
      exact h1 _ (Option.some.inj h).symm
set_option maxRecDepth 100000 in
set_option maxHeartbeats 4000000 in
theorem c_X1_setOffOpened (l : Launch) (G : va_G) (E : EE)  (D : DD) (r : RT) (h : S_X1_setOffOpened  D = some r) : MM l G E yX1_setOffOpened cX1_setOffOpened 3 none (rmm 2) [.ref (E.1 61), .ref (E.1 1)] D r := by
  unfold S_X1_setOffOpened at h
  refine m_of rfl (Nat.le_of_ble_eq_true rfl) ?_
  intro p e s m args below meth c X hr
  exact run_G (T := T_X1_setOffOpened) (HG := hg_X1_setOffOpened p l e s m args below meth c G E r) (by
    intro k ls D o hT h1 h2
    unfold T_X1_setOffOpened at hT
    split at hT
    · exact bl_X1_setOffOpened_0 X hr  D o hT h1 h2
    · exact bl_X1_setOffOpened_1 X hr _ D o hT h1 h2
    · cases hT) FUEL 0 [] D h
theorem hd_X1_openAround : yX1_openAround.cls ≠ "java/lang/invoke/MethodHandle" ∧ yX1_openAround.cls ≠ "java/lang/invoke/VarHandle" ∧ (parseMethodDescriptor yX1_openAround.desc).map (fun d => d.parameters.length) = some 2 := by decide +kernel
theorem hd_X1_reset : yX1_reset.cls ≠ "java/lang/invoke/MethodHandle" ∧ yX1_reset.cls ≠ "java/lang/invoke/VarHandle" ∧ (parseMethodDescriptor yX1_reset.desc).map (fun d => d.parameters.length) = some 0 := by decide +kernel
theorem hd_X1_setOffOpened : yX1_setOffOpened.cls ≠ "java/lang/invoke/MethodHandle" ∧ yX1_setOffOpened.cls ≠ "java/lang/invoke/VarHandle" ∧ (parseMethodDescriptor yX1_setOffOpened.desc).map (fun d => d.parameters.length) = some 1 := by decide +kernel
theorem wc_X1_reset : Cond.code yX1_reset cX1_reset 1 none ∈ UT := ut 533 (by decide +kernel) (by decide +kernel)
theorem we_X1_reset : Cond.selects RX1 yX1_reset yX1_reset ∈ UT := ut 8 (by decide +kernel) (by decide +kernel)
theorem wm_X1_reset : Cond.instanceMethod yX1_reset ∈ UT := ut 532 (by decide +kernel) (by decide +kernel)
theorem kv_X1_22 : GoodIn UT (wsV RX1 22 RX1 yX1_reset (Cond.code yX1_reset cX1_reset 1 none :: UT)) := gu_V (ut 530 (by decide +kernel) (by decide +kernel)) wm_X1_reset we_X1_reset wi_RX1 wc_X1_reset
theorem wc_X1_openAround : Cond.code yX1_openAround cX1_openAround 6 none ∈ UT := ut 583 (by decide +kernel) (by decide +kernel)
theorem we_X1_openAround : Cond.selects RX1 yX1_openAround yX1_openAround ∈ UT := ut 12 (by decide +kernel) (by decide +kernel)
theorem wm_X1_openAround : Cond.instanceMethod yX1_openAround ∈ UT := ut 582 (by decide +kernel) (by decide +kernel)
theorem kv_X1_33 : GoodIn UT (wsV RX1 33 RX1 yX1_openAround (Cond.code yX1_openAround cX1_openAround 6 none :: UT)) := gu_V (ut 580 (by decide +kernel) (by decide +kernel)) wm_X1_openAround we_X1_openAround wi_RX1 wc_X1_openAround
theorem wc_X1_setOffOpened : Cond.code yX1_setOffOpened cX1_setOffOpened 3 none ∈ UT := ut 587 (by decide +kernel) (by decide +kernel)
theorem we_X1_setOffOpened : Cond.selects RX1 yX1_setOffOpened yX1_setOffOpened ∈ UT := ut 13 (by decide +kernel) (by decide +kernel)
theorem wm_X1_setOffOpened : Cond.instanceMethod yX1_setOffOpened ∈ UT := ut 586 (by decide +kernel) (by decide +kernel)
theorem kv_X1_37 : GoodIn UT (wsV RX1 37 RX1 yX1_setOffOpened (Cond.code yX1_setOffOpened cX1_setOffOpened 3 none :: UT)) := gu_V (ut 584 (by decide +kernel) (by decide +kernel)) wm_X1_setOffOpened we_X1_setOffOpened wi_RX1 wc_X1_setOffOpened
def b_X1_run_0 (a1 : Int32) (D : DD) : Option ((Nat × List Int32 × DD) ⊕ RT) := (cV (S_X1_reset D) (fun D2 => (cV (S_X1_setOff a1 D2) (fun D4 => some (.inl (1, [(0 : Int32)], D4))))))
def b_X1_run_1 (x3 : Int32) (D : DD) : Option ((Nat × List Int32 × DD) ⊕ RT) := (if (6 : Int32) ≤ x3 then some (.inr (0, none, D)) else (if x3 < (D.1 126) then (if inB x3 6 = true then (cV (S_X1_openAround ((D.2.2.1 54) x3.toNatClampNeg) D) (fun D7 => (cV (S_X1_setOffOpened D7) (fun D9 => some (.inl (1, [(x3 + (1 : Int32))], D9)))))) else none) else some (.inr (0, none, D))))
def T_X1_run (k : Nat) (ls : List Int32) (D : DD) : Option ((Nat × List Int32 × DD) ⊕ RT) := match k, ls with
  | 0, [a1] => b_X1_run_0 a1 D
  | 1, [x3] => b_X1_run_1 x3 D
  | _, _ => none
def S_X1_run (a1 : Int32) (D : DD) : Option RT := run T_X1_run FUEL 0 [a1] D
def hg_X1_run (p : Program) (l : Launch) (e : Env) (s : State) (m : MethodId) (args : Array Value) (below : List Frame) (meth : Method) (c : Code) (G : va_G) (E : EE) (r : RT) (k : Nat) (ls : List Int32) (D : DD) : Prop := match k, ls with
  | 0, [a1] => GW p l e (rmm 3) s m args below meth c G E 4 (MQ below (QR G E s.heap.size r) args s 0 0 (fr E s.heap.size)) 0 0 D 0 [(0, .ref (E.1 61)), (1, .ref (E.1 1)), (2, .int a1)] []
  | 1, [x3] => GW p l e (rmm 3) s m args below meth c G E 4 (MQ below (QR G E s.heap.size r) args s 0 0 (fr E s.heap.size)) 0 0 D 11 [(0, .ref (E.1 61)), (1, .ref (E.1 1)), (3, .int x3)] []
  | _, _ => True
set_option maxRecDepth 100000 in
set_option maxHeartbeats 4000000 in
theorem bl_X1_run_0 {p : Program} {l : Launch} {e : Env} {s : State} {m : MethodId} {args : Array Value} {below : List Frame} {meth : Method} {c : Code} {G : va_G} {E : EE} {r : RT} (X : CX p s m args meth c cX1_run RX1 4 G E) (hr : meth.sig.returnType = none) (a1 : Int32) (D : DD) (o : (Nat × List Int32 × DD) ⊕ RT) (h : b_X1_run_0 a1 D = some o) (h1 : ∀ x, o = .inl x → hg_X1_run p l e s m args below meth c G E r x.1 x.2.1 x.2.2) (h2 : ∀ x, o = .inr x → x = r) : GW p l e (rmm 3) s m args below meth c G E 4 (MQ below (QR G E s.heap.size r) args s 0 0 (fr E s.heap.size)) 0 0 D 0 [(0, .ref (E.1 61)), (1, .ref (E.1 1)), (2, .int a1)] [] := by
  unfold b_X1_run_0 at h
  refine g_aload_n X 0 (i0 := 0) dX1_run_0 rfl rfl ?_
  obtain ⟨D2, e1, h⟩ := cV_s h
  refine g_V X (As := []) (rest := []) (c_X1_reset l G E  _ _ e1) 61 (wg_61 E _) rfl rfl kv_X1_22 ⟨rfl, rfl⟩ ⟨rfl, hd_X1_reset⟩ (⟨Nat.le_of_ble_eq_true rfl, Nat.le_of_ble_eq_true rfl⟩) rfl rfl (Nat.le_of_ble_eq_true rfl) dX1_run_1 ?_
  refine g_aload_n X 0 (i0 := 0) dX1_run_4 rfl rfl ?_
  refine g_iload_n X 2 (i0 := 2) dX1_run_5 rfl rfl ?_
  obtain ⟨D4, e3, h⟩ := cV_s h
  refine g_V X (As := [.int a1]) (rest := []) (c_X1_setOff l G E a1 _ _ e3) 61 (wg_61 E _) rfl rfl kv_X1_25 ⟨rfl, rfl⟩ ⟨rfl, hd_X1_setOff⟩ (⟨Nat.le_of_ble_eq_true rfl, Nat.le_of_ble_eq_true rfl⟩) rfl rfl (Nat.le_of_ble_eq_true rfl) dX1_run_6 ?_
  refine g_iconst X (v := (0 : Int32)) dX1_run_9 (by decide) ?_
  refine g_istore_n X (i0 := 3) (lv' := [(3, .int (0 : Int32)), (0, .ref (E.1 61)), (1, .ref (E.1 1)), (2, .int a1)]) dX1_run_10 rfl (by decide) rfl ?_
  refine g_sub (lv' := [(0, .ref (E.1 61)), (1, .ref (E.1 1)), (3, .int (0 : Int32))]) [1, 2, 0] rfl ?_
  exact h1 _ (Option.some.inj h).symm
set_option maxRecDepth 100000 in
set_option maxHeartbeats 4000000 in
theorem bl_X1_run_1 {p : Program} {l : Launch} {e : Env} {s : State} {m : MethodId} {args : Array Value} {below : List Frame} {meth : Method} {c : Code} {G : va_G} {E : EE} {r : RT} (X : CX p s m args meth c cX1_run RX1 4 G E) (hr : meth.sig.returnType = none) (x3 : Int32) (D : DD) (o : (Nat × List Int32 × DD) ⊕ RT) (h : b_X1_run_1 x3 D = some o) (h1 : ∀ x, o = .inl x → hg_X1_run p l e s m args below meth c G E r x.1 x.2.1 x.2.2) (h2 : ∀ x, o = .inr x → x = r) : GW p l e (rmm 3) s m args below meth c G E 4 (MQ below (QR G E s.heap.size r) args s 0 0 (fr E s.heap.size)) 0 0 D 11 [(0, .ref (E.1 61)), (1, .ref (E.1 1)), (3, .int x3)] [] := by
  unfold b_X1_run_1 at h
  refine g_iload_n X 2 (i0 := 3) dX1_run_11 rfl rfl ?_
  refine g_bipush X (v := (6 : Int32)) dX1_run_12 (by decide) ?_
  refine g_icmp_ge X (tgt := 50) dX1_run_14 (by decide) (fun c11 => ?_) (fun c11 => ?_)
  · have h := (ite_s h).1 c11
    exact g_vret X hr dX1_run_50 (h2 _ (Option.some.inj h).symm)
  · have h := (ite_s h).2 c11
    refine g_iload_n X 2 (i0 := 3) dX1_run_17 rfl rfl ?_
    refine g_aload_n X 0 (i0 := 0) dX1_run_18 rfl rfl ?_
    refine g_get X (D := D) (v := .int (D.1 126)) (T := TX1) 61 uX1 (wg_61 E _) rfl 3 (by decide) fl_X1_29 rfl rfl dX1_run_19 ?_
    refine g_icmp_lt X (tgt := 28) dX1_run_22 (by decide) (fun c10 => ?_) (fun c10 => ?_)
    · have h := (ite_s h).1 c10
      refine g_aload_n X 0 (i0 := 0) dX1_run_28 rfl rfl ?_
      refine g_aload_n X 1 (i0 := 1) dX1_run_29 rfl rfl ?_
      refine g_aload_n X 0 (i0 := 0) dX1_run_30 rfl rfl ?_
      refine g_get X (D := D) (v := .ref (E.1 64)) (T := TX1) 61 uX1 (wg_61 E _) rfl 2 (by decide) fl_X1_18 rfl rfl dX1_run_31 ?_
      refine g_iload_n X 2 (i0 := 3) dX1_run_34 rfl rfl ?_
      obtain ⟨b5, h⟩ := chk_s h
      refine g_iald X (D := D) (f := (D.2.2.1 54)) (i := x3) 64 (wg_64 E _) (inB_vp b5) dX1_run_35 ?_
      obtain ⟨D7, e6, h⟩ := cV_s h
      refine g_V X (As := [.ref (E.1 1), .int ((D.2.2.1 54) x3.toNatClampNeg)]) (rest := []) (c_X1_openAround l G E ((D.2.2.1 54) x3.toNatClampNeg) _ _ e6) 61 (wg_61 E _) rfl rfl kv_X1_33 ⟨rfl, rfl⟩ ⟨rfl, hd_X1_openAround⟩ (⟨Nat.le_of_ble_eq_true rfl, Nat.le_of_ble_eq_true rfl⟩) rfl rfl (Nat.le_of_ble_eq_true rfl) dX1_run_36 ?_
      refine g_aload_n X 0 (i0 := 0) dX1_run_39 rfl rfl ?_
      refine g_aload_n X 1 (i0 := 1) dX1_run_40 rfl rfl ?_
      obtain ⟨D9, e8, h⟩ := cV_s h
      refine g_V X (As := [.ref (E.1 1)]) (rest := []) (c_X1_setOffOpened l G E  _ _ e8) 61 (wg_61 E _) rfl rfl kv_X1_37 ⟨rfl, rfl⟩ ⟨rfl, hd_X1_setOffOpened⟩ (⟨Nat.le_of_ble_eq_true rfl, Nat.le_of_ble_eq_true rfl⟩) rfl rfl (Nat.le_of_ble_eq_true rfl) dX1_run_41 ?_
      refine g_iinc X 2 (v := (x3 + (1 : Int32))) (lv' := [(3, .int (x3 + (1 : Int32))), (0, .ref (E.1 61)), (1, .ref (E.1 1))]) dX1_run_44 rfl rfl (by decide) rfl ?_
      refine g_goto X (tgt := 11) dX1_run_47 (by decide) ?_
      refine g_sub (lv' := [(0, .ref (E.1 61)), (1, .ref (E.1 1)), (3, .int (x3 + (1 : Int32)))]) [1, 2, 0] rfl ?_
      exact h1 _ (Option.some.inj h).symm
    · have h := (ite_s h).2 c10
      refine g_goto X (tgt := 50) dX1_run_25 (by decide) ?_
      exact g_vret X hr dX1_run_50 (h2 _ (Option.some.inj h).symm)
set_option maxRecDepth 100000 in
set_option maxHeartbeats 4000000 in
theorem c_X1_run (l : Launch) (G : va_G) (E : EE) (a1 : Int32) (D : DD) (r : RT) (h : S_X1_run a1 D = some r) : MM l G E yX1_run cX1_run 4 none (rmm 3) [.ref (E.1 61), .ref (E.1 1), .int a1] D r := by
  unfold S_X1_run at h
  refine m_of rfl (Nat.le_of_ble_eq_true rfl) ?_
  intro p e s m args below meth c X hr
  exact run_G (T := T_X1_run) (HG := hg_X1_run p l e s m args below meth c G E r) (by
    intro k ls D o hT h1 h2
    unfold T_X1_run at hT
    split at hT
    · exact bl_X1_run_0 X hr _ D o hT h1 h2
    · exact bl_X1_run_1 X hr _ D o hT h1 h2
    · cases hT) FUEL 0 [a1] D h
def S_X1_explodes (a0 : Int32) (D : DD) : Option RT := (cI (S_X12_inRange a0 (0 : Int32) (5 : Int32) D) (fun r3 D2 => (if r3 = 0 then some (0, some (.int (0 : Int32)), D2) else (if inB a0 6 = true then (if ((D2.2.2.1 52) a0.toNatClampNeg) = 0 then some (0, some (.int (0 : Int32)), D2) else some (0, some (.int (1 : Int32)), D2)) else none))))
set_option maxRecDepth 100000 in
set_option maxHeartbeats 4000000 in
theorem c_X1_explodes (l : Launch) (G : va_G) (E : EE) (a0 : Int32) (D : DD) (r : RT) (h : S_X1_explodes a0 D = some r) : MM l G E yX1_explodes cX1_explodes 2 (some .boolean) (rmm 1) [.ref (E.1 61), .int a0] D r := by
  refine m_of rfl (Nat.le_of_ble_eq_true rfl) ?_
  intro p e s m args below meth c X hr
  unfold S_X1_explodes at h
  refine g_iload_n X 1 (i0 := 1) dX1_explodes_0 rfl rfl ?_
  refine g_iconst X (v := (0 : Int32)) dX1_explodes_1 (by decide) ?_
  refine g_iconst X (v := (5 : Int32)) dX1_explodes_2 (by decide) ?_
  obtain ⟨r3, D2, e1, h⟩ := cI_s h
  refine g_SN X (As := [.int a0, .int (0 : Int32), .int (5 : Int32)]) (rest := []) (c_X12_inRange l G E a0 (0 : Int32) (5 : Int32) _ _ e1) wc_X12_inRange kn_X1_45 wi_RX12 wt_X12_inRange ⟨rfl, rfl⟩ hd_X12_inRange (⟨Nat.le_of_ble_eq_true rfl, Nat.le_of_ble_eq_true rfl⟩) rfl rfl (Nat.le_of_ble_eq_true rfl) dX1_explodes_3 ?_
  refine g_if_eq X (tgt := 22) dX1_explodes_6 (by decide) (fun c6 => ?_) (fun c6 => ?_)
  · have h := (ite_s h).1 c6
    refine g_iconst X (v := (0 : Int32)) dX1_explodes_22 (by decide) ?_
    exact g_iret X hr rfl dX1_explodes_23 (Option.some.inj h)
  · have h := (ite_s h).2 c6
    refine g_aload_n X 0 (i0 := 0) dX1_explodes_9 rfl rfl ?_
    refine g_get X (D := D2) (v := .ref (E.1 62)) (T := TX1) 61 uX1 (wg_61 E _) rfl 0 (by decide) fl_X1_9 rfl rfl dX1_explodes_10 ?_
    refine g_iload_n X 1 (i0 := 1) dX1_explodes_13 rfl rfl ?_
    obtain ⟨b4, h⟩ := chk_s h
    refine g_zald X (D := D2) (f := (D2.2.2.1 52)) (i := a0) 62 (wg_62 E _) (inB_vp b4) dX1_explodes_14 ?_
    refine g_if_eq X (tgt := 22) dX1_explodes_15 (by decide) (fun c5 => ?_) (fun c5 => ?_)
    · have h := (ite_s h).1 c5
      refine g_iconst X (v := (0 : Int32)) dX1_explodes_22 (by decide) ?_
      exact g_iret X hr rfl dX1_explodes_23 (Option.some.inj h)
    · have h := (ite_s h).2 c5
      refine g_iconst X (v := (1 : Int32)) dX1_explodes_18 (by decide) ?_
      refine g_goto X (tgt := 23) dX1_explodes_19 (by decide) ?_
      exact g_iret X hr rfl dX1_explodes_23 (Option.some.inj h)
def b_X1_setOffReached_0 (a1 : Int32) (D : DD) : Option ((Nat × List Int32 × DD) ⊕ RT) := (cI (S_X8_cellOf a1 D) (fun r3 D2 => (cI (S_X8_strengthOf a1 D2) (fun r6 D5 => some (.inl (1, [a1, r3, r6, (0 : Int32)], D5))))))
def b_X1_setOffReached_1 (x2 : Int32) (x3 : Int32) (x4 : Int32) (x5 : Int32) (D : DD) : Option ((Nat × List Int32 × DD) ⊕ RT) := (if (D.1 0) ≤ x5 then some (.inr (0, none, D)) else (cI (S_X8_cellOf x5 D) (fun r9 D8 => (if x5 = x2 then some (.inl (1, [x2, x3, x4, (x5 + (1 : Int32))], D8)) else (cI (S_X12_distance r9 x3 D8) (fun r12 D11 => (cI (S_X8_breaksAt r9 (x4 - r12) D11) (fun r15 D14 => (if r15 = 0 then some (.inl (1, [x2, x3, x4, (x5 + (1 : Int32))], D14)) else (cV (S_X1_setOff x5 D14) (fun D17 => some (.inl (1, [x2, x3, x4, (x5 + (1 : Int32))], D17)))))))))))))
def T_X1_setOffReached (k : Nat) (ls : List Int32) (D : DD) : Option ((Nat × List Int32 × DD) ⊕ RT) := match k, ls with
  | 0, [a1] => b_X1_setOffReached_0 a1 D
  | 1, [x2, x3, x4, x5] => b_X1_setOffReached_1 x2 x3 x4 x5 D
  | _, _ => none
def S_X1_setOffReached (a1 : Int32) (D : DD) : Option RT := run T_X1_setOffReached FUEL 0 [a1] D
def hg_X1_setOffReached (p : Program) (l : Launch) (e : Env) (s : State) (m : MethodId) (args : Array Value) (below : List Frame) (meth : Method) (c : Code) (G : va_G) (E : EE) (r : RT) (k : Nat) (ls : List Int32) (D : DD) : Prop := match k, ls with
  | 0, [a1] => GW p l e (rmm 2) s m args below meth c G E 7 (MQ below (QR G E s.heap.size r) args s 0 0 (fr E s.heap.size)) 0 0 D 0 [(0, .ref (E.1 61)), (1, .ref (E.1 1)), (2, .int a1)] []
  | 1, [x2, x3, x4, x5] => GW p l e (rmm 2) s m args below meth c G E 7 (MQ below (QR G E s.heap.size r) args s 0 0 (fr E s.heap.size)) 0 0 D 16 [(0, .ref (E.1 61)), (1, .ref (E.1 1)), (2, .int x2), (3, .int x3), (4, .int x4), (5, .int x5)] []
  | _, _ => True
set_option maxRecDepth 100000 in
set_option maxHeartbeats 4000000 in
theorem bl_X1_setOffReached_0 {p : Program} {l : Launch} {e : Env} {s : State} {m : MethodId} {args : Array Value} {below : List Frame} {meth : Method} {c : Code} {G : va_G} {E : EE} {r : RT} (X : CX p s m args meth c cX1_setOffReached RX1 7 G E) (hr : meth.sig.returnType = none) (a1 : Int32) (D : DD) (o : (Nat × List Int32 × DD) ⊕ RT) (h : b_X1_setOffReached_0 a1 D = some o) (h1 : ∀ x, o = .inl x → hg_X1_setOffReached p l e s m args below meth c G E r x.1 x.2.1 x.2.2) (h2 : ∀ x, o = .inr x → x = r) : GW p l e (rmm 2) s m args below meth c G E 7 (MQ below (QR G E s.heap.size r) args s 0 0 (fr E s.heap.size)) 0 0 D 0 [(0, .ref (E.1 61)), (1, .ref (E.1 1)), (2, .int a1)] [] := by
  unfold b_X1_setOffReached_0 at h
  refine g_aload_n X 1 (i0 := 1) dX1_setOffReached_0 rfl rfl ?_
  refine g_iload_n X 2 (i0 := 2) dX1_setOffReached_1 rfl rfl ?_
  obtain ⟨r3, D2, e1, h⟩ := cI_s h
  refine g_V X (As := [.int a1]) (rest := []) (c_X8_cellOf l G E a1 _ _ e1) 1 (wg_1 E _) rfl rfl kv_X1_60 ⟨rfl, rfl⟩ ⟨rfl, hd_X8_cellOf⟩ (⟨Nat.le_of_ble_eq_true rfl, Nat.le_of_ble_eq_true rfl⟩) rfl rfl (Nat.le_of_ble_eq_true rfl) dX1_setOffReached_2 ?_
  refine g_istore_n X (i0 := 3) (lv' := [(3, .int r3), (0, .ref (E.1 61)), (1, .ref (E.1 1)), (2, .int a1)]) dX1_setOffReached_5 rfl (by decide) rfl ?_
  refine g_aload_n X 2 (i0 := 1) dX1_setOffReached_6 rfl rfl ?_
  refine g_iload_n X 3 (i0 := 2) dX1_setOffReached_7 rfl rfl ?_
  obtain ⟨r6, D5, e4, h⟩ := cI_s h
  refine g_V X (As := [.int a1]) (rest := []) (c_X8_strengthOf l G E a1 _ _ e4) 1 (wg_1 E _) rfl rfl kv_X1_66 ⟨rfl, rfl⟩ ⟨rfl, hd_X8_strengthOf⟩ (⟨Nat.le_of_ble_eq_true rfl, Nat.le_of_ble_eq_true rfl⟩) rfl rfl (Nat.le_of_ble_eq_true rfl) dX1_setOffReached_8 ?_
  refine g_istore X (lv' := [(4, .int r6), (3, .int r3), (0, .ref (E.1 61)), (1, .ref (E.1 1)), (2, .int a1)]) dX1_setOffReached_11 (by decide) rfl ?_
  refine g_iconst X (v := (0 : Int32)) dX1_setOffReached_13 (by decide) ?_
  refine g_istore X (lv' := [(5, .int (0 : Int32)), (4, .int r6), (3, .int r3), (0, .ref (E.1 61)), (1, .ref (E.1 1)), (2, .int a1)]) dX1_setOffReached_14 (by decide) rfl ?_
  refine g_sub (lv' := [(0, .ref (E.1 61)), (1, .ref (E.1 1)), (2, .int a1), (3, .int r3), (4, .int r6), (5, .int (0 : Int32))]) [3, 4, 5, 2, 1, 0] rfl ?_
  exact h1 _ (Option.some.inj h).symm
set_option maxRecDepth 100000 in
set_option maxHeartbeats 4000000 in
theorem bl_X1_setOffReached_1 {p : Program} {l : Launch} {e : Env} {s : State} {m : MethodId} {args : Array Value} {below : List Frame} {meth : Method} {c : Code} {G : va_G} {E : EE} {r : RT} (X : CX p s m args meth c cX1_setOffReached RX1 7 G E) (hr : meth.sig.returnType = none) (x2 : Int32) (x3 : Int32) (x4 : Int32) (x5 : Int32) (D : DD) (o : (Nat × List Int32 × DD) ⊕ RT) (h : b_X1_setOffReached_1 x2 x3 x4 x5 D = some o) (h1 : ∀ x, o = .inl x → hg_X1_setOffReached p l e s m args below meth c G E r x.1 x.2.1 x.2.2) (h2 : ∀ x, o = .inr x → x = r) : GW p l e (rmm 2) s m args below meth c G E 7 (MQ below (QR G E s.heap.size r) args s 0 0 (fr E s.heap.size)) 0 0 D 16 [(0, .ref (E.1 61)), (1, .ref (E.1 1)), (2, .int x2), (3, .int x3), (4, .int x4), (5, .int x5)] [] := by
  unfold b_X1_setOffReached_1 at h
  refine g_iload X 5 dX1_setOffReached_16 rfl ?_
  refine g_aload_n X 1 (i0 := 1) dX1_setOffReached_18 rfl rfl ?_
  refine g_get X (D := D) (v := .int (D.1 0)) (T := TX8) 1 uX8 (wg_1 E _) rfl 4 (by decide) fl_X1_77 rfl rfl dX1_setOffReached_19 ?_
  refine g_icmp_ge X (tgt := 69) dX1_setOffReached_22 (by decide) (fun c20 => ?_) (fun c20 => ?_)
  · have h := (ite_s h).1 c20
    exact g_vret X hr dX1_setOffReached_69 (h2 _ (Option.some.inj h).symm)
  · have h := (ite_s h).2 c20
    refine g_aload_n X 1 (i0 := 1) dX1_setOffReached_25 rfl rfl ?_
    refine g_iload X 5 dX1_setOffReached_26 rfl ?_
    obtain ⟨r9, D8, e7, h⟩ := cI_s h
    refine g_V X (As := [.int x5]) (rest := []) (c_X8_cellOf l G E x5 _ _ e7) 1 (wg_1 E _) rfl rfl kv_X1_60 ⟨rfl, rfl⟩ ⟨rfl, hd_X8_cellOf⟩ (⟨Nat.le_of_ble_eq_true rfl, Nat.le_of_ble_eq_true rfl⟩) rfl rfl (Nat.le_of_ble_eq_true rfl) dX1_setOffReached_28 ?_
    refine g_istore X (lv' := [(6, .int r9), (0, .ref (E.1 61)), (1, .ref (E.1 1)), (2, .int x2), (3, .int x3), (4, .int x4), (5, .int x5)]) dX1_setOffReached_31 (by decide) rfl ?_
    refine g_iload X 6 dX1_setOffReached_33 rfl ?_
    refine g_iload_n X 3 (i0 := 2) dX1_setOffReached_35 rfl rfl ?_
    refine g_icmp_eq X (tgt := 63) dX1_setOffReached_36 (by decide) (fun c19 => ?_) (fun c19 => ?_)
    · have h := (ite_s h).1 c19
      refine g_iinc X 6 (v := (x5 + (1 : Int32))) (lv' := [(5, .int (x5 + (1 : Int32))), (6, .int r9), (0, .ref (E.1 61)), (1, .ref (E.1 1)), (2, .int x2), (3, .int x3), (4, .int x4)]) dX1_setOffReached_63 rfl rfl (by decide) rfl ?_
      refine g_goto X (tgt := 16) dX1_setOffReached_66 (by decide) ?_
      refine g_sub (lv' := [(0, .ref (E.1 61)), (1, .ref (E.1 1)), (2, .int x2), (3, .int x3), (4, .int x4), (5, .int (x5 + (1 : Int32)))]) [2, 3, 4, 5, 6, 0] rfl ?_
      exact h1 _ (Option.some.inj h).symm
    · have h := (ite_s h).2 c19
      refine g_aload_n X 2 (i0 := 1) dX1_setOffReached_39 rfl rfl ?_
      refine g_iload X 0 dX1_setOffReached_40 rfl ?_
      refine g_iload X 5 dX1_setOffReached_42 rfl ?_
      refine g_iload X 0 dX1_setOffReached_44 rfl ?_
      refine g_iload_n X 4 (i0 := 3) dX1_setOffReached_46 rfl rfl ?_
      obtain ⟨r12, D11, e10, h⟩ := cI_s h
      refine g_SN X (As := [.int r9, .int x3]) (rest := [.int x4, .int r9, .ref (E.1 1)]) (c_X12_distance l G E r9 x3 _ _ e10) wc_X12_distance kn_X1_69 wi_RX12 wt_X12_distance ⟨rfl, rfl⟩ hd_X12_distance (⟨Nat.le_of_ble_eq_true rfl, Nat.le_of_ble_eq_true rfl⟩) rfl rfl (Nat.le_of_ble_eq_true rfl) dX1_setOffReached_47 ?_
      refine g_isub X dX1_setOffReached_50 ?_
      obtain ⟨r15, D14, e13, h⟩ := cI_s h
      refine g_V X (As := [.int r9, .int (x4 - r12)]) (rest := []) (c_X8_breaksAt l G E r9 (x4 - r12) _ _ e13) 1 (wg_1 E _) rfl rfl kv_X1_73 ⟨rfl, rfl⟩ ⟨rfl, hd_X8_breaksAt⟩ (⟨Nat.le_of_ble_eq_true rfl, Nat.le_of_ble_eq_true rfl⟩) rfl rfl (Nat.le_of_ble_eq_true rfl) dX1_setOffReached_51 ?_
      refine g_if_eq X (tgt := 63) dX1_setOffReached_54 (by decide) (fun c18 => ?_) (fun c18 => ?_)
      · have h := (ite_s h).1 c18
        refine g_iinc X 6 (v := (x5 + (1 : Int32))) (lv' := [(5, .int (x5 + (1 : Int32))), (6, .int r9), (0, .ref (E.1 61)), (1, .ref (E.1 1)), (2, .int x2), (3, .int x3), (4, .int x4)]) dX1_setOffReached_63 rfl rfl (by decide) rfl ?_
        refine g_goto X (tgt := 16) dX1_setOffReached_66 (by decide) ?_
        refine g_sub (lv' := [(0, .ref (E.1 61)), (1, .ref (E.1 1)), (2, .int x2), (3, .int x3), (4, .int x4), (5, .int (x5 + (1 : Int32)))]) [2, 3, 4, 5, 6, 0] rfl ?_
        exact h1 _ (Option.some.inj h).symm
      · have h := (ite_s h).2 c18
        refine g_aload_n X 1 (i0 := 0) dX1_setOffReached_57 rfl rfl ?_
        refine g_iload X 6 dX1_setOffReached_58 rfl ?_
        obtain ⟨D17, e16, h⟩ := cV_s h
        refine g_V X (As := [.int x5]) (rest := []) (c_X1_setOff l G E x5 _ _ e16) 61 (wg_61 E _) rfl rfl kv_X1_25 ⟨rfl, rfl⟩ ⟨rfl, hd_X1_setOff⟩ (⟨Nat.le_of_ble_eq_true rfl, Nat.le_of_ble_eq_true rfl⟩) rfl rfl (Nat.le_of_ble_eq_true rfl) dX1_setOffReached_60 ?_
        refine g_iinc X 6 (v := (x5 + (1 : Int32))) (lv' := [(5, .int (x5 + (1 : Int32))), (6, .int r9), (0, .ref (E.1 61)), (1, .ref (E.1 1)), (2, .int x2), (3, .int x3), (4, .int x4)]) dX1_setOffReached_63 rfl rfl (by decide) rfl ?_
        refine g_goto X (tgt := 16) dX1_setOffReached_66 (by decide) ?_
        refine g_sub (lv' := [(0, .ref (E.1 61)), (1, .ref (E.1 1)), (2, .int x2), (3, .int x3), (4, .int x4), (5, .int (x5 + (1 : Int32)))]) [2, 3, 4, 5, 6, 0] rfl ?_
        exact h1 _ (Option.some.inj h).symm
set_option maxRecDepth 100000 in
set_option maxHeartbeats 4000000 in
theorem c_X1_setOffReached (l : Launch) (G : va_G) (E : EE) (a1 : Int32) (D : DD) (r : RT) (h : S_X1_setOffReached a1 D = some r) : MM l G E yX1_setOffReached cX1_setOffReached 7 none (rmm 2) [.ref (E.1 61), .ref (E.1 1), .int a1] D r := by
  unfold S_X1_setOffReached at h
  refine m_of rfl (Nat.le_of_ble_eq_true rfl) ?_
  intro p e s m args below meth c X hr
  exact run_G (T := T_X1_setOffReached) (HG := hg_X1_setOffReached p l e s m args below meth c G E r) (by
    intro k ls D o hT h1 h2
    unfold T_X1_setOffReached at hT
    split at hT
    · exact bl_X1_setOffReached_0 X hr _ D o hT h1 h2
    · exact bl_X1_setOffReached_1 X hr _ _ _ _ D o hT h1 h2
    · cases hT) FUEL 0 [a1] D h
theorem hd_X1_explodes : yX1_explodes.cls ≠ "java/lang/invoke/MethodHandle" ∧ yX1_explodes.cls ≠ "java/lang/invoke/VarHandle" ∧ (parseMethodDescriptor yX1_explodes.desc).map (fun d => d.parameters.length) = some 1 := by decide +kernel
theorem hd_X1_setOffReached : yX1_setOffReached.cls ≠ "java/lang/invoke/MethodHandle" ∧ yX1_setOffReached.cls ≠ "java/lang/invoke/VarHandle" ∧ (parseMethodDescriptor yX1_setOffReached.desc).map (fun d => d.parameters.length) = some 2 := by decide +kernel
theorem wc_X1_explodes : Cond.code yX1_explodes cX1_explodes 2 (some .boolean) ∈ UT := ut 549 (by decide +kernel) (by decide +kernel)
theorem we_X1_explodes : Cond.selects RX1 yX1_explodes yX1_explodes ∈ UT := ut 548 (by decide +kernel) (by decide +kernel)
theorem wm_X1_explodes : Cond.instanceMethod yX1_explodes ∈ UT := ut 547 (by decide +kernel) (by decide +kernel)
theorem kv_X1_83 : GoodIn UT (wsV RX1 83 RX1 yX1_explodes (Cond.code yX1_explodes cX1_explodes 2 (some .boolean) :: UT)) := gu_V (ut 546 (by decide +kernel) (by decide +kernel)) wm_X1_explodes we_X1_explodes wi_RX1 wc_X1_explodes
theorem wc_X1_setOffReached : Cond.code yX1_setOffReached cX1_setOffReached 7 none ∈ UT := ut 553 (by decide +kernel) (by decide +kernel)
theorem we_X1_setOffReached : Cond.selects RX1 yX1_setOffReached yX1_setOffReached ∈ UT := ut 11 (by decide +kernel) (by decide +kernel)
theorem wm_X1_setOffReached : Cond.instanceMethod yX1_setOffReached ∈ UT := ut 552 (by decide +kernel) (by decide +kernel)
theorem kv_X1_86 : GoodIn UT (wsV RX1 86 RX1 yX1_setOffReached (Cond.code yX1_setOffReached cX1_setOffReached 7 none :: UT)) := gu_V (ut 550 (by decide +kernel) (by decide +kernel)) wm_X1_setOffReached we_X1_setOffReached wi_RX1 wc_X1_setOffReached
def b_X1_askAll_0  (D : DD) : Option ((Nat × List Int32 × DD) ⊕ RT) := some (.inl (1, [(D.1 126), (0 : Int32)], D))
def b_X1_askAll_1 (x2 : Int32) (x3 : Int32) (D : DD) : Option ((Nat × List Int32 × DD) ⊕ RT) := (if (D.1 0) ≤ x3 then (if (D.1 126) = x2 then some (.inr (0, some (.int (0 : Int32)), D)) else some (.inr (0, some (.int (1 : Int32)), D))) else (cI (S_X1_explodes x3 D) (fun r4 D3 => (if r4 = 0 then some (.inl (1, [x2, (x3 + (1 : Int32))], D3)) else (cV (S_X1_setOffReached x3 D3) (fun D6 => some (.inl (1, [x2, (x3 + (1 : Int32))], D6))))))))
def T_X1_askAll (k : Nat) (ls : List Int32) (D : DD) : Option ((Nat × List Int32 × DD) ⊕ RT) := match k, ls with
  | 0, [] => b_X1_askAll_0  D
  | 1, [x2, x3] => b_X1_askAll_1 x2 x3 D
  | _, _ => none
def S_X1_askAll  (D : DD) : Option RT := run T_X1_askAll FUEL 0 [] D
def hg_X1_askAll (p : Program) (l : Launch) (e : Env) (s : State) (m : MethodId) (args : Array Value) (below : List Frame) (meth : Method) (c : Code) (G : va_G) (E : EE) (r : RT) (k : Nat) (ls : List Int32) (D : DD) : Prop := match k, ls with
  | 0, [] => GW p l e (rmm 3) s m args below meth c G E 4 (MQ below (QR G E s.heap.size r) args s 0 0 (fr E s.heap.size)) 0 0 D 0 [(0, .ref (E.1 61)), (1, .ref (E.1 1))] []
  | 1, [x2, x3] => GW p l e (rmm 3) s m args below meth c G E 4 (MQ below (QR G E s.heap.size r) args s 0 0 (fr E s.heap.size)) 0 0 D 7 [(0, .ref (E.1 61)), (1, .ref (E.1 1)), (2, .int x2), (3, .int x3)] []
  | _, _ => True
set_option maxRecDepth 100000 in
set_option maxHeartbeats 4000000 in
theorem bl_X1_askAll_0 {p : Program} {l : Launch} {e : Env} {s : State} {m : MethodId} {args : Array Value} {below : List Frame} {meth : Method} {c : Code} {G : va_G} {E : EE} {r : RT} (X : CX p s m args meth c cX1_askAll RX1 4 G E) (hr : meth.sig.returnType = (some .boolean))  (D : DD) (o : (Nat × List Int32 × DD) ⊕ RT) (h : b_X1_askAll_0  D = some o) (h1 : ∀ x, o = .inl x → hg_X1_askAll p l e s m args below meth c G E r x.1 x.2.1 x.2.2) (h2 : ∀ x, o = .inr x → x = r) : GW p l e (rmm 3) s m args below meth c G E 4 (MQ below (QR G E s.heap.size r) args s 0 0 (fr E s.heap.size)) 0 0 D 0 [(0, .ref (E.1 61)), (1, .ref (E.1 1))] [] := by
  unfold b_X1_askAll_0 at h
  refine g_aload_n X 0 (i0 := 0) dX1_askAll_0 rfl rfl ?_
  refine g_get X (D := D) (v := .int (D.1 126)) (T := TX1) 61 uX1 (wg_61 E _) rfl 3 (by decide) fl_X1_29 rfl rfl dX1_askAll_1 ?_
  refine g_istore_n X (i0 := 2) (lv' := [(2, .int (D.1 126)), (0, .ref (E.1 61)), (1, .ref (E.1 1))]) dX1_askAll_4 rfl (by decide) rfl ?_
  refine g_iconst X (v := (0 : Int32)) dX1_askAll_5 (by decide) ?_
  refine g_istore_n X (i0 := 3) (lv' := [(3, .int (0 : Int32)), (2, .int (D.1 126)), (0, .ref (E.1 61)), (1, .ref (E.1 1))]) dX1_askAll_6 rfl (by decide) rfl ?_
  refine g_sub (lv' := [(0, .ref (E.1 61)), (1, .ref (E.1 1)), (2, .int (D.1 126)), (3, .int (0 : Int32))]) [2, 3, 1, 0] rfl ?_
  exact h1 _ (Option.some.inj h).symm
set_option maxRecDepth 100000 in
set_option maxHeartbeats 4000000 in
theorem bl_X1_askAll_1 {p : Program} {l : Launch} {e : Env} {s : State} {m : MethodId} {args : Array Value} {below : List Frame} {meth : Method} {c : Code} {G : va_G} {E : EE} {r : RT} (X : CX p s m args meth c cX1_askAll RX1 4 G E) (hr : meth.sig.returnType = (some .boolean)) (x2 : Int32) (x3 : Int32) (D : DD) (o : (Nat × List Int32 × DD) ⊕ RT) (h : b_X1_askAll_1 x2 x3 D = some o) (h1 : ∀ x, o = .inl x → hg_X1_askAll p l e s m args below meth c G E r x.1 x.2.1 x.2.2) (h2 : ∀ x, o = .inr x → x = r) : GW p l e (rmm 3) s m args below meth c G E 4 (MQ below (QR G E s.heap.size r) args s 0 0 (fr E s.heap.size)) 0 0 D 7 [(0, .ref (E.1 61)), (1, .ref (E.1 1)), (2, .int x2), (3, .int x3)] [] := by
  unfold b_X1_askAll_1 at h
  refine g_iload_n X 3 (i0 := 3) dX1_askAll_7 rfl rfl ?_
  refine g_aload_n X 1 (i0 := 1) dX1_askAll_8 rfl rfl ?_
  refine g_get X (D := D) (v := .int (D.1 0)) (T := TX8) 1 uX8 (wg_1 E _) rfl 4 (by decide) fl_X1_77 rfl rfl dX1_askAll_9 ?_
  refine g_icmp_ge X (tgt := 35) dX1_askAll_12 (by decide) (fun c8 => ?_) (fun c8 => ?_)
  · have h := (ite_s h).1 c8
    refine g_aload_n X 0 (i0 := 0) dX1_askAll_35 rfl rfl ?_
    refine g_get X (D := D) (v := .int (D.1 126)) (T := TX1) 61 uX1 (wg_61 E _) rfl 3 (by decide) fl_X1_29 rfl rfl dX1_askAll_36 ?_
    refine g_iload_n X 2 (i0 := 2) dX1_askAll_39 rfl rfl ?_
    refine g_icmp_eq X (tgt := 47) dX1_askAll_40 (by decide) (fun c1 => ?_) (fun c1 => ?_)
    · have h := (ite_s h).1 c1
      refine g_iconst X (v := (0 : Int32)) dX1_askAll_47 (by decide) ?_
      exact g_iret X hr rfl dX1_askAll_48 (h2 _ (Option.some.inj h).symm)
    · have h := (ite_s h).2 c1
      refine g_iconst X (v := (1 : Int32)) dX1_askAll_43 (by decide) ?_
      refine g_goto X (tgt := 48) dX1_askAll_44 (by decide) ?_
      exact g_iret X hr rfl dX1_askAll_48 (h2 _ (Option.some.inj h).symm)
  · have h := (ite_s h).2 c8
    refine g_aload_n X 0 (i0 := 0) dX1_askAll_15 rfl rfl ?_
    refine g_iload_n X 3 (i0 := 3) dX1_askAll_16 rfl rfl ?_
    obtain ⟨r4, D3, e2, h⟩ := cI_s h
    refine g_V X (As := [.int x3]) (rest := []) (c_X1_explodes l G E x3 _ _ e2) 61 (wg_61 E _) rfl rfl kv_X1_83 ⟨rfl, rfl⟩ ⟨rfl, hd_X1_explodes⟩ (⟨Nat.le_of_ble_eq_true rfl, Nat.le_of_ble_eq_true rfl⟩) rfl rfl (Nat.le_of_ble_eq_true rfl) dX1_askAll_17 ?_
    refine g_if_eq X (tgt := 29) dX1_askAll_20 (by decide) (fun c7 => ?_) (fun c7 => ?_)
    · have h := (ite_s h).1 c7
      refine g_iinc X 3 (v := (x3 + (1 : Int32))) (lv' := [(3, .int (x3 + (1 : Int32))), (0, .ref (E.1 61)), (1, .ref (E.1 1)), (2, .int x2)]) dX1_askAll_29 rfl rfl (by decide) rfl ?_
      refine g_goto X (tgt := 7) dX1_askAll_32 (by decide) ?_
      refine g_sub (lv' := [(0, .ref (E.1 61)), (1, .ref (E.1 1)), (2, .int x2), (3, .int (x3 + (1 : Int32)))]) [1, 2, 3, 0] rfl ?_
      exact h1 _ (Option.some.inj h).symm
    · have h := (ite_s h).2 c7
      refine g_aload_n X 0 (i0 := 0) dX1_askAll_23 rfl rfl ?_
      refine g_aload_n X 1 (i0 := 1) dX1_askAll_24 rfl rfl ?_
      refine g_iload_n X 3 (i0 := 3) dX1_askAll_25 rfl rfl ?_
      obtain ⟨D6, e5, h⟩ := cV_s h
      refine g_V X (As := [.ref (E.1 1), .int x3]) (rest := []) (c_X1_setOffReached l G E x3 _ _ e5) 61 (wg_61 E _) rfl rfl kv_X1_86 ⟨rfl, rfl⟩ ⟨rfl, hd_X1_setOffReached⟩ (⟨Nat.le_of_ble_eq_true rfl, Nat.le_of_ble_eq_true rfl⟩) rfl rfl (Nat.le_of_ble_eq_true rfl) dX1_askAll_26 ?_
      refine g_iinc X 3 (v := (x3 + (1 : Int32))) (lv' := [(3, .int (x3 + (1 : Int32))), (0, .ref (E.1 61)), (1, .ref (E.1 1)), (2, .int x2)]) dX1_askAll_29 rfl rfl (by decide) rfl ?_
      refine g_goto X (tgt := 7) dX1_askAll_32 (by decide) ?_
      refine g_sub (lv' := [(0, .ref (E.1 61)), (1, .ref (E.1 1)), (2, .int x2), (3, .int (x3 + (1 : Int32)))]) [1, 2, 3, 0] rfl ?_
      exact h1 _ (Option.some.inj h).symm
set_option maxRecDepth 100000 in
set_option maxHeartbeats 4000000 in
theorem c_X1_askAll (l : Launch) (G : va_G) (E : EE)  (D : DD) (r : RT) (h : S_X1_askAll  D = some r) : MM l G E yX1_askAll cX1_askAll 4 (some .boolean) (rmm 3) [.ref (E.1 61), .ref (E.1 1)] D r := by
  unfold S_X1_askAll at h
  refine m_of rfl (Nat.le_of_ble_eq_true rfl) ?_
  intro p e s m args below meth c X hr
  exact run_G (T := T_X1_askAll) (HG := hg_X1_askAll p l e s m args below meth c G E r) (by
    intro k ls D o hT h1 h2
    unfold T_X1_askAll at hT
    split at hT
    · exact bl_X1_askAll_0 X hr  D o hT h1 h2
    · exact bl_X1_askAll_1 X hr _ _ D o hT h1 h2
    · cases hT) FUEL 0 [] D h
theorem hd_X1_askAll : yX1_askAll.cls ≠ "java/lang/invoke/MethodHandle" ∧ yX1_askAll.cls ≠ "java/lang/invoke/VarHandle" ∧ (parseMethodDescriptor yX1_askAll.desc).map (fun d => d.parameters.length) = some 1 := by decide +kernel
theorem wc_X1_askAll : Cond.code yX1_askAll cX1_askAll 4 (some .boolean) ∈ UT := ut 545 (by decide +kernel) (by decide +kernel)
theorem we_X1_askAll : Cond.selects RX1 yX1_askAll yX1_askAll ∈ UT := ut 10 (by decide +kernel) (by decide +kernel)
theorem wm_X1_askAll : Cond.instanceMethod yX1_askAll ∈ UT := ut 544 (by decide +kernel) (by decide +kernel)
theorem kv_X1_41 : GoodIn UT (wsV RX1 41 RX1 yX1_askAll (Cond.code yX1_askAll cX1_askAll 4 (some .boolean) :: UT)) := gu_V (ut 542 (by decide +kernel) (by decide +kernel)) wm_X1_askAll we_X1_askAll wi_RX1 wc_X1_askAll
def b_X1_countByRounds_0 (a1 : Int32) (D : DD) : Option ((Nat × List Int32 × DD) ⊕ RT) := (cV (S_X1_reset D) (fun D2 => (cV (S_X1_setOff a1 D2) (fun D4 => some (.inl (1, [(1 : Int32), (0 : Int32)], D4))))))
def b_X1_countByRounds_1 (x3 : Int32) (x4 : Int32) (D : DD) : Option ((Nat × List Int32 × DD) ⊕ RT) := (if (6 : Int32) ≤ x4 then some (.inr (0, some (.int (D.1 126)), D)) else (if x3 = 0 then some (.inr (0, some (.int (D.1 126)), D)) else (cI (S_X1_askAll D) (fun r7 D6 => some (.inl (1, [r7, (x4 + (1 : Int32))], D6))))))
def T_X1_countByRounds (k : Nat) (ls : List Int32) (D : DD) : Option ((Nat × List Int32 × DD) ⊕ RT) := match k, ls with
  | 0, [a1] => b_X1_countByRounds_0 a1 D
  | 1, [x3, x4] => b_X1_countByRounds_1 x3 x4 D
  | _, _ => none
def S_X1_countByRounds (a1 : Int32) (D : DD) : Option RT := run T_X1_countByRounds FUEL 0 [a1] D
def hg_X1_countByRounds (p : Program) (l : Launch) (e : Env) (s : State) (m : MethodId) (args : Array Value) (below : List Frame) (meth : Method) (c : Code) (G : va_G) (E : EE) (r : RT) (k : Nat) (ls : List Int32) (D : DD) : Prop := match k, ls with
  | 0, [a1] => GW p l e (rmm 4) s m args below meth c G E 5 (MQ below (QR G E s.heap.size r) args s 0 0 (fr E s.heap.size)) 0 0 D 0 [(0, .ref (E.1 61)), (1, .ref (E.1 1)), (2, .int a1)] []
  | 1, [x3, x4] => GW p l e (rmm 4) s m args below meth c G E 5 (MQ below (QR G E s.heap.size r) args s 0 0 (fr E s.heap.size)) 0 0 D 14 [(0, .ref (E.1 61)), (1, .ref (E.1 1)), (3, .int x3), (4, .int x4)] []
  | _, _ => True
set_option maxRecDepth 100000 in
set_option maxHeartbeats 4000000 in
theorem bl_X1_countByRounds_0 {p : Program} {l : Launch} {e : Env} {s : State} {m : MethodId} {args : Array Value} {below : List Frame} {meth : Method} {c : Code} {G : va_G} {E : EE} {r : RT} (X : CX p s m args meth c cX1_countByRounds RX1 5 G E) (hr : meth.sig.returnType = (some .int)) (a1 : Int32) (D : DD) (o : (Nat × List Int32 × DD) ⊕ RT) (h : b_X1_countByRounds_0 a1 D = some o) (h1 : ∀ x, o = .inl x → hg_X1_countByRounds p l e s m args below meth c G E r x.1 x.2.1 x.2.2) (h2 : ∀ x, o = .inr x → x = r) : GW p l e (rmm 4) s m args below meth c G E 5 (MQ below (QR G E s.heap.size r) args s 0 0 (fr E s.heap.size)) 0 0 D 0 [(0, .ref (E.1 61)), (1, .ref (E.1 1)), (2, .int a1)] [] := by
  unfold b_X1_countByRounds_0 at h
  refine g_aload_n X 0 (i0 := 0) dX1_countByRounds_0 rfl rfl ?_
  obtain ⟨D2, e1, h⟩ := cV_s h
  refine g_V X (As := []) (rest := []) (c_X1_reset l G E  _ _ e1) 61 (wg_61 E _) rfl rfl kv_X1_22 ⟨rfl, rfl⟩ ⟨rfl, hd_X1_reset⟩ (⟨Nat.le_of_ble_eq_true rfl, Nat.le_of_ble_eq_true rfl⟩) rfl rfl (Nat.le_of_ble_eq_true rfl) dX1_countByRounds_1 ?_
  refine g_aload_n X 0 (i0 := 0) dX1_countByRounds_4 rfl rfl ?_
  refine g_iload_n X 2 (i0 := 2) dX1_countByRounds_5 rfl rfl ?_
  obtain ⟨D4, e3, h⟩ := cV_s h
  refine g_V X (As := [.int a1]) (rest := []) (c_X1_setOff l G E a1 _ _ e3) 61 (wg_61 E _) rfl rfl kv_X1_25 ⟨rfl, rfl⟩ ⟨rfl, hd_X1_setOff⟩ (⟨Nat.le_of_ble_eq_true rfl, Nat.le_of_ble_eq_true rfl⟩) rfl rfl (Nat.le_of_ble_eq_true rfl) dX1_countByRounds_6 ?_
  refine g_iconst X (v := (1 : Int32)) dX1_countByRounds_9 (by decide) ?_
  refine g_istore_n X (i0 := 3) (lv' := [(3, .int (1 : Int32)), (0, .ref (E.1 61)), (1, .ref (E.1 1)), (2, .int a1)]) dX1_countByRounds_10 rfl (by decide) rfl ?_
  refine g_iconst X (v := (0 : Int32)) dX1_countByRounds_11 (by decide) ?_
  refine g_istore X (lv' := [(4, .int (0 : Int32)), (3, .int (1 : Int32)), (0, .ref (E.1 61)), (1, .ref (E.1 1)), (2, .int a1)]) dX1_countByRounds_12 (by decide) rfl ?_
  refine g_sub (lv' := [(0, .ref (E.1 61)), (1, .ref (E.1 1)), (3, .int (1 : Int32)), (4, .int (0 : Int32))]) [2, 3, 1, 0] rfl ?_
  exact h1 _ (Option.some.inj h).symm
set_option maxRecDepth 100000 in
set_option maxHeartbeats 4000000 in
theorem bl_X1_countByRounds_1 {p : Program} {l : Launch} {e : Env} {s : State} {m : MethodId} {args : Array Value} {below : List Frame} {meth : Method} {c : Code} {G : va_G} {E : EE} {r : RT} (X : CX p s m args meth c cX1_countByRounds RX1 5 G E) (hr : meth.sig.returnType = (some .int)) (x3 : Int32) (x4 : Int32) (D : DD) (o : (Nat × List Int32 × DD) ⊕ RT) (h : b_X1_countByRounds_1 x3 x4 D = some o) (h1 : ∀ x, o = .inl x → hg_X1_countByRounds p l e s m args below meth c G E r x.1 x.2.1 x.2.2) (h2 : ∀ x, o = .inr x → x = r) : GW p l e (rmm 4) s m args below meth c G E 5 (MQ below (QR G E s.heap.size r) args s 0 0 (fr E s.heap.size)) 0 0 D 14 [(0, .ref (E.1 61)), (1, .ref (E.1 1)), (3, .int x3), (4, .int x4)] [] := by
  unfold b_X1_countByRounds_1 at h
  refine g_iload X 3 dX1_countByRounds_14 rfl ?_
  refine g_bipush X (v := (6 : Int32)) dX1_countByRounds_16 (by decide) ?_
  refine g_icmp_ge X (tgt := 37) dX1_countByRounds_18 (by decide) (fun c9 => ?_) (fun c9 => ?_)
  · have h := (ite_s h).1 c9
    refine g_aload_n X 0 (i0 := 0) dX1_countByRounds_37 rfl rfl ?_
    refine g_get X (D := D) (v := .int (D.1 126)) (T := TX1) 61 uX1 (wg_61 E _) rfl 3 (by decide) fl_X1_29 rfl rfl dX1_countByRounds_38 ?_
    exact g_iret X hr rfl dX1_countByRounds_41 (h2 _ (Option.some.inj h).symm)
  · have h := (ite_s h).2 c9
    refine g_iload_n X 2 (i0 := 3) dX1_countByRounds_21 rfl rfl ?_
    refine g_if_eq X (tgt := 37) dX1_countByRounds_22 (by decide) (fun c8 => ?_) (fun c8 => ?_)
    · have h := (ite_s h).1 c8
      refine g_aload_n X 0 (i0 := 0) dX1_countByRounds_37 rfl rfl ?_
      refine g_get X (D := D) (v := .int (D.1 126)) (T := TX1) 61 uX1 (wg_61 E _) rfl 3 (by decide) fl_X1_29 rfl rfl dX1_countByRounds_38 ?_
      exact g_iret X hr rfl dX1_countByRounds_41 (h2 _ (Option.some.inj h).symm)
    · have h := (ite_s h).2 c8
      refine g_aload_n X 0 (i0 := 0) dX1_countByRounds_25 rfl rfl ?_
      refine g_aload_n X 1 (i0 := 1) dX1_countByRounds_26 rfl rfl ?_
      obtain ⟨r7, D6, e5, h⟩ := cI_s h
      refine g_V X (As := [.ref (E.1 1)]) (rest := []) (c_X1_askAll l G E  _ _ e5) 61 (wg_61 E _) rfl rfl kv_X1_41 ⟨rfl, rfl⟩ ⟨rfl, hd_X1_askAll⟩ (⟨Nat.le_of_ble_eq_true rfl, Nat.le_of_ble_eq_true rfl⟩) rfl rfl (Nat.le_of_ble_eq_true rfl) dX1_countByRounds_27 ?_
      refine g_istore_n X (i0 := 3) (lv' := [(3, .int r7), (0, .ref (E.1 61)), (1, .ref (E.1 1)), (4, .int x4)]) dX1_countByRounds_30 rfl (by decide) rfl ?_
      refine g_iinc X 3 (v := (x4 + (1 : Int32))) (lv' := [(4, .int (x4 + (1 : Int32))), (3, .int r7), (0, .ref (E.1 61)), (1, .ref (E.1 1))]) dX1_countByRounds_31 rfl rfl (by decide) rfl ?_
      refine g_goto X (tgt := 14) dX1_countByRounds_34 (by decide) ?_
      refine g_sub (lv' := [(0, .ref (E.1 61)), (1, .ref (E.1 1)), (3, .int r7), (4, .int (x4 + (1 : Int32)))]) [2, 3, 1, 0] rfl ?_
      exact h1 _ (Option.some.inj h).symm
set_option maxRecDepth 100000 in
set_option maxHeartbeats 4000000 in
theorem c_X1_countByRounds (l : Launch) (G : va_G) (E : EE) (a1 : Int32) (D : DD) (r : RT) (h : S_X1_countByRounds a1 D = some r) : MM l G E yX1_countByRounds cX1_countByRounds 5 (some .int) (rmm 4) [.ref (E.1 61), .ref (E.1 1), .int a1] D r := by
  unfold S_X1_countByRounds at h
  refine m_of rfl (Nat.le_of_ble_eq_true rfl) ?_
  intro p e s m args below meth c X hr
  exact run_G (T := T_X1_countByRounds) (HG := hg_X1_countByRounds p l e s m args below meth c G E r) (by
    intro k ls D o hT h1 h2
    unfold T_X1_countByRounds at hT
    split at hT
    · exact bl_X1_countByRounds_0 X hr _ D o hT h1 h2
    · exact bl_X1_countByRounds_1 X hr _ _ D o hT h1 h2
    · cases hT) FUEL 0 [a1] D h
def S_X12_cellAt (a0 : Int32) (a1 : Int32) (D : DD) : Option RT := (if a0 < 0 then some (0, some (.int (-1 : Int32)), D) else (if (6 : Int32) ≤ a0 then some (0, some (.int (-1 : Int32)), D) else (if a1 < 0 then some (0, some (.int (-1 : Int32)), D) else (if a1 < (6 : Int32) then some (0, some (.int ((a0 * (6 : Int32)) + a1)), D) else some (0, some (.int (-1 : Int32)), D)))))
set_option maxRecDepth 100000 in
set_option maxHeartbeats 4000000 in
theorem c_X12_cellAt (l : Launch) (G : va_G) (E : EE) (a0 : Int32) (a1 : Int32) (D : DD) (r : RT) (h : S_X12_cellAt a0 a1 D = some r) : MM l G E yX12_cellAt cX12_cellAt 2 (some .int) (rmm 0) [.int a0, .int a1] D r := by
  refine m_of rfl (Nat.le_of_ble_eq_true rfl) ?_
  intro p e s m args below meth c X hr
  unfold S_X12_cellAt at h
  refine g_iload_n X 0 (i0 := 0) dX12_cellAt_0 rfl rfl ?_
  refine g_if_lt X (tgt := 20) dX12_cellAt_1 (by decide) (fun c4 => ?_) (fun c4 => ?_)
  · have h := (ite_s h).1 c4
    refine g_iconst X (v := (-1 : Int32)) dX12_cellAt_20 (by decide) ?_
    exact g_iret X hr rfl dX12_cellAt_21 (Option.some.inj h)
  · have h := (ite_s h).2 c4
    refine g_iload_n X 0 (i0 := 0) dX12_cellAt_4 rfl rfl ?_
    refine g_bipush X (v := (6 : Int32)) dX12_cellAt_5 (by decide) ?_
    refine g_icmp_ge X (tgt := 20) dX12_cellAt_7 (by decide) (fun c3 => ?_) (fun c3 => ?_)
    · have h := (ite_s h).1 c3
      refine g_iconst X (v := (-1 : Int32)) dX12_cellAt_20 (by decide) ?_
      exact g_iret X hr rfl dX12_cellAt_21 (Option.some.inj h)
    · have h := (ite_s h).2 c3
      refine g_iload_n X 1 (i0 := 1) dX12_cellAt_10 rfl rfl ?_
      refine g_if_lt X (tgt := 20) dX12_cellAt_11 (by decide) (fun c2 => ?_) (fun c2 => ?_)
      · have h := (ite_s h).1 c2
        refine g_iconst X (v := (-1 : Int32)) dX12_cellAt_20 (by decide) ?_
        exact g_iret X hr rfl dX12_cellAt_21 (Option.some.inj h)
      · have h := (ite_s h).2 c2
        refine g_iload_n X 1 (i0 := 1) dX12_cellAt_14 rfl rfl ?_
        refine g_bipush X (v := (6 : Int32)) dX12_cellAt_15 (by decide) ?_
        refine g_icmp_lt X (tgt := 22) dX12_cellAt_17 (by decide) (fun c1 => ?_) (fun c1 => ?_)
        · have h := (ite_s h).1 c1
          refine g_iload_n X 0 (i0 := 0) dX12_cellAt_22 rfl rfl ?_
          refine g_bipush X (v := (6 : Int32)) dX12_cellAt_23 (by decide) ?_
          refine g_imul X dX12_cellAt_25 ?_
          refine g_iload_n X 1 (i0 := 1) dX12_cellAt_26 rfl rfl ?_
          refine g_iadd X dX12_cellAt_27 ?_
          exact g_iret X hr rfl dX12_cellAt_28 (Option.some.inj h)
        · have h := (ite_s h).2 c1
          refine g_iconst X (v := (-1 : Int32)) dX12_cellAt_20 (by decide) ?_
          exact g_iret X hr rfl dX12_cellAt_21 (Option.some.inj h)
def S_X8_openAt (a0 : Int32) (D : DD) : Option RT := (cI (S_X12_isCell a0 D) (fun r3 D2 => (if r3 = 0 then some (0, some (.int (0 : Int32)), D2) else (if inB a0 36 = true then (if ((D2.2.2.1 0) a0.toNatClampNeg) = 0 then some (0, some (.int (1 : Int32)), D2) else some (0, some (.int (0 : Int32)), D2)) else none))))
set_option maxRecDepth 100000 in
set_option maxHeartbeats 4000000 in
theorem c_X8_openAt (l : Launch) (G : va_G) (E : EE) (a0 : Int32) (D : DD) (r : RT) (h : S_X8_openAt a0 D = some r) : MM l G E yX8_openAt cX8_openAt 2 (some .boolean) (rmm 1) [.ref (E.1 1), .int a0] D r := by
  refine m_of rfl (Nat.le_of_ble_eq_true rfl) ?_
  intro p e s m args below meth c X hr
  unfold S_X8_openAt at h
  refine g_iload_n X 1 (i0 := 1) dX8_openAt_0 rfl rfl ?_
  obtain ⟨r3, D2, e1, h⟩ := cI_s h
  refine g_SN X (As := [.int a0]) (rest := []) (c_X12_isCell l G E a0 _ _ e1) wc_X12_isCell kn_X8_53 wi_RX12 wt_X12_isCell ⟨rfl, rfl⟩ hd_X12_isCell (⟨Nat.le_of_ble_eq_true rfl, Nat.le_of_ble_eq_true rfl⟩) rfl rfl (Nat.le_of_ble_eq_true rfl) dX8_openAt_1 ?_
  refine g_if_eq X (tgt := 20) dX8_openAt_4 (by decide) (fun c6 => ?_) (fun c6 => ?_)
  · have h := (ite_s h).1 c6
    refine g_iconst X (v := (0 : Int32)) dX8_openAt_20 (by decide) ?_
    exact g_iret X hr rfl dX8_openAt_21 (Option.some.inj h)
  · have h := (ite_s h).2 c6
    refine g_aload_n X 0 (i0 := 0) dX8_openAt_7 rfl rfl ?_
    refine g_get X (D := D2) (v := .ref (E.1 2)) (T := TX8) 1 uX8 (wg_1 E _) rfl 0 (by decide) fl_X8_9 rfl rfl dX8_openAt_8 ?_
    refine g_iload_n X 1 (i0 := 1) dX8_openAt_11 rfl rfl ?_
    obtain ⟨b4, h⟩ := chk_s h
    refine g_iald X (D := D2) (f := (D2.2.2.1 0)) (i := a0) 2 (wg_2 E _) (inB_vp b4) dX8_openAt_12 ?_
    refine g_if_ne X (tgt := 20) dX8_openAt_13 (by decide) (fun c5 => ?_) (fun c5 => ?_)
    · have h := (ite_s h).2 c5
      refine g_iconst X (v := (0 : Int32)) dX8_openAt_20 (by decide) ?_
      exact g_iret X hr rfl dX8_openAt_21 (Option.some.inj h)
    · have h := (ite_s h).1 c5
      refine g_iconst X (v := (1 : Int32)) dX8_openAt_16 (by decide) ?_
      refine g_goto X (tgt := 21) dX8_openAt_17 (by decide) ?_
      exact g_iret X hr rfl dX8_openAt_21 (Option.some.inj h)
theorem hd_X12_cellAt : yX12_cellAt.cls ≠ "java/lang/invoke/MethodHandle" ∧ yX12_cellAt.cls ≠ "java/lang/invoke/VarHandle" ∧ (parseMethodDescriptor yX12_cellAt.desc).map (fun d => d.parameters.length) = some 2 := by decide +kernel
theorem hd_X8_openAt : yX8_openAt.cls ≠ "java/lang/invoke/MethodHandle" ∧ yX8_openAt.cls ≠ "java/lang/invoke/VarHandle" ∧ (parseMethodDescriptor yX8_openAt.desc).map (fun d => d.parameters.length) = some 1 := by decide +kernel
theorem kn_X2_29 : Cond.methodLinkNest RX2 29 yX12_cellAt "StoneQuarry" ∈ NEST := nst 478 (by decide +kernel) rfl
theorem wc_X8_openAt : Cond.code yX8_openAt cX8_openAt 2 (some .boolean) ∈ UT := ut 438 (by decide +kernel) (by decide +kernel)
theorem we_X8_openAt : Cond.selects RX8 yX8_openAt yX8_openAt ∈ UT := ut 437 (by decide +kernel) (by decide +kernel)
theorem wm_X8_openAt : Cond.instanceMethod yX8_openAt ∈ UT := ut 436 (by decide +kernel) (by decide +kernel)
theorem kv_X2_32 : GoodIn UT (wsV RX2 32 RX8 yX8_openAt (Cond.code yX8_openAt cX8_openAt 2 (some .boolean) :: UT)) := gu_V (ut 479 (by decide +kernel) (by decide +kernel)) wm_X8_openAt we_X8_openAt wi_RX8 wc_X8_openAt
theorem wc_X12_cellAt : Cond.code yX12_cellAt cX12_cellAt 2 (some .int) ∈ UT := ut 410 (by decide +kernel) (by decide +kernel)
theorem wt_X12_cellAt : Cond.static yX12_cellAt ∈ UT := ut 409 (by decide +kernel) (by decide +kernel)
def b_X2_allOpen_0 (a1 : Int32) (a2 : Int32) (a3 : Int32) (a4 : Int32) (D : DD) : Option ((Nat × List Int32 × DD) ⊕ RT) := some (.inl (1, [a2, a3, a4, a1], D))
def b_X2_allOpen_1 (x2 : Int32) (x3 : Int32) (x4 : Int32) (x5 : Int32) (D : DD) : Option ((Nat × List Int32 × DD) ⊕ RT) := (if x3 < x5 then some (.inr (0, some (.int (1 : Int32)), D)) else some (.inl (2, [x2, x3, x4, x5, x2], D)))
def b_X2_allOpen_2 (x2 : Int32) (x3 : Int32) (x4 : Int32) (x5 : Int32) (x6 : Int32) (D : DD) : Option ((Nat × List Int32 × DD) ⊕ RT) := (if x4 < x6 then some (.inl (1, [x2, x3, x4, (x5 + (1 : Int32))], D)) else (cI (S_X12_cellAt x5 x6 D) (fun r4 D3 => (cI (S_X8_openAt r4 D3) (fun r7 D6 => (if r7 = 0 then some (.inr (0, some (.int (0 : Int32)), D6)) else some (.inl (2, [x2, x3, x4, x5, (x6 + (1 : Int32))], D6))))))))
def T_X2_allOpen (k : Nat) (ls : List Int32) (D : DD) : Option ((Nat × List Int32 × DD) ⊕ RT) := match k, ls with
  | 0, [a1, a2, a3, a4] => b_X2_allOpen_0 a1 a2 a3 a4 D
  | 1, [x2, x3, x4, x5] => b_X2_allOpen_1 x2 x3 x4 x5 D
  | 2, [x2, x3, x4, x5, x6] => b_X2_allOpen_2 x2 x3 x4 x5 x6 D
  | _, _ => none
def S_X2_allOpen (a1 : Int32) (a2 : Int32) (a3 : Int32) (a4 : Int32) (D : DD) : Option RT := run T_X2_allOpen FUEL 0 [a1, a2, a3, a4] D
def hg_X2_allOpen (p : Program) (l : Launch) (e : Env) (s : State) (m : MethodId) (args : Array Value) (below : List Frame) (meth : Method) (c : Code) (G : va_G) (E : EE) (r : RT) (k : Nat) (ls : List Int32) (D : DD) : Prop := match k, ls with
  | 0, [a1, a2, a3, a4] => GW p l e (rmm 2) s m args below meth c G E 7 (MQ below (QR G E s.heap.size r) args s 0 0 (fr E s.heap.size)) 0 0 D 0 [(0, .ref (E.1 1)), (1, .int a1), (2, .int a2), (3, .int a3), (4, .int a4)] []
  | 1, [x2, x3, x4, x5] => GW p l e (rmm 2) s m args below meth c G E 7 (MQ below (QR G E s.heap.size r) args s 0 0 (fr E s.heap.size)) 0 0 D 3 [(0, .ref (E.1 1)), (2, .int x2), (3, .int x3), (4, .int x4), (5, .int x5)] []
  | 2, [x2, x3, x4, x5, x6] => GW p l e (rmm 2) s m args below meth c G E 7 (MQ below (QR G E s.heap.size r) args s 0 0 (fr E s.heap.size)) 0 0 D 12 [(0, .ref (E.1 1)), (2, .int x2), (3, .int x3), (4, .int x4), (5, .int x5), (6, .int x6)] []
  | _, _ => True
set_option maxRecDepth 100000 in
set_option maxHeartbeats 4000000 in
theorem bl_X2_allOpen_0 {p : Program} {l : Launch} {e : Env} {s : State} {m : MethodId} {args : Array Value} {below : List Frame} {meth : Method} {c : Code} {G : va_G} {E : EE} {r : RT} (X : CX p s m args meth c cX2_allOpen RX2 7 G E) (hr : meth.sig.returnType = (some .boolean)) (a1 : Int32) (a2 : Int32) (a3 : Int32) (a4 : Int32) (D : DD) (o : (Nat × List Int32 × DD) ⊕ RT) (h : b_X2_allOpen_0 a1 a2 a3 a4 D = some o) (h1 : ∀ x, o = .inl x → hg_X2_allOpen p l e s m args below meth c G E r x.1 x.2.1 x.2.2) (h2 : ∀ x, o = .inr x → x = r) : GW p l e (rmm 2) s m args below meth c G E 7 (MQ below (QR G E s.heap.size r) args s 0 0 (fr E s.heap.size)) 0 0 D 0 [(0, .ref (E.1 1)), (1, .int a1), (2, .int a2), (3, .int a3), (4, .int a4)] [] := by
  unfold b_X2_allOpen_0 at h
  refine g_iload_n X 1 (i0 := 1) dX2_allOpen_0 rfl rfl ?_
  refine g_istore X (lv' := [(5, .int a1), (0, .ref (E.1 1)), (1, .int a1), (2, .int a2), (3, .int a3), (4, .int a4)]) dX2_allOpen_1 (by decide) rfl ?_
  refine g_sub (lv' := [(0, .ref (E.1 1)), (2, .int a2), (3, .int a3), (4, .int a4), (5, .int a1)]) [1, 3, 4, 5, 0] rfl ?_
  exact h1 _ (Option.some.inj h).symm
set_option maxRecDepth 100000 in
set_option maxHeartbeats 4000000 in
theorem bl_X2_allOpen_1 {p : Program} {l : Launch} {e : Env} {s : State} {m : MethodId} {args : Array Value} {below : List Frame} {meth : Method} {c : Code} {G : va_G} {E : EE} {r : RT} (X : CX p s m args meth c cX2_allOpen RX2 7 G E) (hr : meth.sig.returnType = (some .boolean)) (x2 : Int32) (x3 : Int32) (x4 : Int32) (x5 : Int32) (D : DD) (o : (Nat × List Int32 × DD) ⊕ RT) (h : b_X2_allOpen_1 x2 x3 x4 x5 D = some o) (h1 : ∀ x, o = .inl x → hg_X2_allOpen p l e s m args below meth c G E r x.1 x.2.1 x.2.2) (h2 : ∀ x, o = .inr x → x = r) : GW p l e (rmm 2) s m args below meth c G E 7 (MQ below (QR G E s.heap.size r) args s 0 0 (fr E s.heap.size)) 0 0 D 3 [(0, .ref (E.1 1)), (2, .int x2), (3, .int x3), (4, .int x4), (5, .int x5)] [] := by
  unfold b_X2_allOpen_1 at h
  refine g_iload X 4 dX2_allOpen_3 rfl ?_
  refine g_iload_n X 2 (i0 := 3) dX2_allOpen_5 rfl rfl ?_
  refine g_icmp_gt X (tgt := 47) dX2_allOpen_6 (by decide) (fun c1 => ?_) (fun c1 => ?_)
  · have h := (ite_s h).1 c1
    refine g_iconst X (v := (1 : Int32)) dX2_allOpen_47 (by decide) ?_
    exact g_iret X hr rfl dX2_allOpen_48 (h2 _ (Option.some.inj h).symm)
  · have h := (ite_s h).2 c1
    refine g_iload_n X 1 (i0 := 2) dX2_allOpen_9 rfl rfl ?_
    refine g_istore X (lv' := [(6, .int x2), (0, .ref (E.1 1)), (2, .int x2), (3, .int x3), (4, .int x4), (5, .int x5)]) dX2_allOpen_10 (by decide) rfl ?_
    refine g_sub (lv' := [(0, .ref (E.1 1)), (2, .int x2), (3, .int x3), (4, .int x4), (5, .int x5), (6, .int x2)]) [1, 2, 3, 4, 5, 0] rfl ?_
    exact h1 _ (Option.some.inj h).symm
set_option maxRecDepth 100000 in
set_option maxHeartbeats 4000000 in
theorem bl_X2_allOpen_2 {p : Program} {l : Launch} {e : Env} {s : State} {m : MethodId} {args : Array Value} {below : List Frame} {meth : Method} {c : Code} {G : va_G} {E : EE} {r : RT} (X : CX p s m args meth c cX2_allOpen RX2 7 G E) (hr : meth.sig.returnType = (some .boolean)) (x2 : Int32) (x3 : Int32) (x4 : Int32) (x5 : Int32) (x6 : Int32) (D : DD) (o : (Nat × List Int32 × DD) ⊕ RT) (h : b_X2_allOpen_2 x2 x3 x4 x5 x6 D = some o) (h1 : ∀ x, o = .inl x → hg_X2_allOpen p l e s m args below meth c G E r x.1 x.2.1 x.2.2) (h2 : ∀ x, o = .inr x → x = r) : GW p l e (rmm 2) s m args below meth c G E 7 (MQ below (QR G E s.heap.size r) args s 0 0 (fr E s.heap.size)) 0 0 D 12 [(0, .ref (E.1 1)), (2, .int x2), (3, .int x3), (4, .int x4), (5, .int x5), (6, .int x6)] [] := by
  unfold b_X2_allOpen_2 at h
  refine g_iload X 5 dX2_allOpen_12 rfl ?_
  refine g_iload X 3 dX2_allOpen_14 rfl ?_
  refine g_icmp_gt X (tgt := 41) dX2_allOpen_16 (by decide) (fun c9 => ?_) (fun c9 => ?_)
  · have h := (ite_s h).1 c9
    refine g_iinc X 4 (v := (x5 + (1 : Int32))) (lv' := [(5, .int (x5 + (1 : Int32))), (0, .ref (E.1 1)), (2, .int x2), (3, .int x3), (4, .int x4), (6, .int x6)]) dX2_allOpen_41 rfl rfl (by decide) rfl ?_
    refine g_goto X (tgt := 3) dX2_allOpen_44 (by decide) ?_
    refine g_sub (lv' := [(0, .ref (E.1 1)), (2, .int x2), (3, .int x3), (4, .int x4), (5, .int (x5 + (1 : Int32)))]) [1, 2, 3, 4, 0] rfl ?_
    exact h1 _ (Option.some.inj h).symm
  · have h := (ite_s h).2 c9
    refine g_aload_n X 0 (i0 := 0) dX2_allOpen_19 rfl rfl ?_
    refine g_iload X 4 dX2_allOpen_20 rfl ?_
    refine g_iload X 5 dX2_allOpen_22 rfl ?_
    obtain ⟨r4, D3, e2, h⟩ := cI_s h
    refine g_SN X (As := [.int x5, .int x6]) (rest := [.ref (E.1 1)]) (c_X12_cellAt l G E x5 x6 _ _ e2) wc_X12_cellAt kn_X2_29 wi_RX12 wt_X12_cellAt ⟨rfl, rfl⟩ hd_X12_cellAt (⟨Nat.le_of_ble_eq_true rfl, Nat.le_of_ble_eq_true rfl⟩) rfl rfl (Nat.le_of_ble_eq_true rfl) dX2_allOpen_24 ?_
    obtain ⟨r7, D6, e5, h⟩ := cI_s h
    refine g_V X (As := [.int r4]) (rest := []) (c_X8_openAt l G E r4 _ _ e5) 1 (wg_1 E _) rfl rfl kv_X2_32 ⟨rfl, rfl⟩ ⟨rfl, hd_X8_openAt⟩ (⟨Nat.le_of_ble_eq_true rfl, Nat.le_of_ble_eq_true rfl⟩) rfl rfl (Nat.le_of_ble_eq_true rfl) dX2_allOpen_27 ?_
    refine g_if_ne X (tgt := 35) dX2_allOpen_30 (by decide) (fun c8 => ?_) (fun c8 => ?_)
    · have h := (ite_s h).2 c8
      refine g_iinc X 5 (v := (x6 + (1 : Int32))) (lv' := [(6, .int (x6 + (1 : Int32))), (0, .ref (E.1 1)), (2, .int x2), (3, .int x3), (4, .int x4), (5, .int x5)]) dX2_allOpen_35 rfl rfl (by decide) rfl ?_
      refine g_goto X (tgt := 12) dX2_allOpen_38 (by decide) ?_
      refine g_sub (lv' := [(0, .ref (E.1 1)), (2, .int x2), (3, .int x3), (4, .int x4), (5, .int x5), (6, .int (x6 + (1 : Int32)))]) [1, 2, 3, 4, 5, 0] rfl ?_
      exact h1 _ (Option.some.inj h).symm
    · have h := (ite_s h).1 c8
      refine g_iconst X (v := (0 : Int32)) dX2_allOpen_33 (by decide) ?_
      exact g_iret X hr rfl dX2_allOpen_34 (h2 _ (Option.some.inj h).symm)
set_option maxRecDepth 100000 in
set_option maxHeartbeats 4000000 in
theorem c_X2_allOpen (l : Launch) (G : va_G) (E : EE) (a1 : Int32) (a2 : Int32) (a3 : Int32) (a4 : Int32) (D : DD) (r : RT) (h : S_X2_allOpen a1 a2 a3 a4 D = some r) : MM l G E yX2_allOpen cX2_allOpen 7 (some .boolean) (rmm 2) [.ref (E.1 1), .int a1, .int a2, .int a3, .int a4] D r := by
  unfold S_X2_allOpen at h
  refine m_of rfl (Nat.le_of_ble_eq_true rfl) ?_
  intro p e s m args below meth c X hr
  exact run_G (T := T_X2_allOpen) (HG := hg_X2_allOpen p l e s m args below meth c G E r) (by
    intro k ls D o hT h1 h2
    unfold T_X2_allOpen at hT
    split at hT
    · exact bl_X2_allOpen_0 X hr _ _ _ _ D o hT h1 h2
    · exact bl_X2_allOpen_1 X hr _ _ _ _ D o hT h1 h2
    · exact bl_X2_allOpen_2 X hr _ _ _ _ _ D o hT h1 h2
    · cases hT) FUEL 0 [a1, a2, a3, a4] D h
theorem hd_X2_allOpen : yX2_allOpen.cls ≠ "java/lang/invoke/MethodHandle" ∧ yX2_allOpen.cls ≠ "java/lang/invoke/VarHandle" ∧ (parseMethodDescriptor yX2_allOpen.desc).map (fun d => d.parameters.length) = some 5 := by decide +kernel
theorem wc_X2_allOpen : Cond.code yX2_allOpen cX2_allOpen 7 (some .boolean) ∈ UT := ut 477 (by decide +kernel) (by decide +kernel)
theorem wi_RX2 : Cond.initialized RX2 ∈ UT := ut 83 (by decide +kernel) (by decide +kernel)
theorem wt_X2_allOpen : Cond.static yX2_allOpen ∈ UT := ut 476 (by decide +kernel) (by decide +kernel)
theorem ks_X2_25 : GoodIn UT (va_wsS RX2 25 yX2_allOpen (Cond.code yX2_allOpen cX2_allOpen 7 (some .boolean) :: UT)) := gu_S (ut 475 (by decide +kernel) (by decide +kernel)) wt_X2_allOpen wi_RX2 wc_X2_allOpen
def b_X2_largestFromCorner_0 (a1 : Int32) (a2 : Int32) (D : DD) : Option ((Nat × List Int32 × DD) ⊕ RT) := some (.inl (1, [a1, a2, (0 : Int32), a1], D))
def b_X2_largestFromCorner_1 (x1 : Int32) (x2 : Int32) (x3 : Int32) (x4 : Int32) (D : DD) : Option ((Nat × List Int32 × DD) ⊕ RT) := (if (6 : Int32) ≤ x4 then some (.inr (0, some (.int x3), D)) else some (.inl (2, [x1, x2, x3, x4, x2], D)))
def b_X2_largestFromCorner_2 (x1 : Int32) (x2 : Int32) (x3 : Int32) (x4 : Int32) (x5 : Int32) (D : DD) : Option ((Nat × List Int32 × DD) ⊕ RT) := (if (6 : Int32) ≤ x5 then some (.inl (1, [x1, x2, x3, (x4 + (1 : Int32))], D)) else (if (((x4 - x1) + (1 : Int32)) * ((x5 - x2) + (1 : Int32))) ≤ x3 then some (.inl (2, [x1, x2, x3, x4, (x5 + (1 : Int32))], D)) else (cI (S_X2_allOpen x1 x2 x4 x5 D) (fun r4 D3 => (if r4 = 0 then some (.inl (2, [x1, x2, x3, x4, (x5 + (1 : Int32))], D3)) else some (.inl (2, [x1, x2, (((x4 - x1) + (1 : Int32)) * ((x5 - x2) + (1 : Int32))), x4, (x5 + (1 : Int32))], D3)))))))
def T_X2_largestFromCorner (k : Nat) (ls : List Int32) (D : DD) : Option ((Nat × List Int32 × DD) ⊕ RT) := match k, ls with
  | 0, [a1, a2] => b_X2_largestFromCorner_0 a1 a2 D
  | 1, [x1, x2, x3, x4] => b_X2_largestFromCorner_1 x1 x2 x3 x4 D
  | 2, [x1, x2, x3, x4, x5] => b_X2_largestFromCorner_2 x1 x2 x3 x4 x5 D
  | _, _ => none
def S_X2_largestFromCorner (a1 : Int32) (a2 : Int32) (D : DD) : Option RT := run T_X2_largestFromCorner FUEL 0 [a1, a2] D
def hg_X2_largestFromCorner (p : Program) (l : Launch) (e : Env) (s : State) (m : MethodId) (args : Array Value) (below : List Frame) (meth : Method) (c : Code) (G : va_G) (E : EE) (r : RT) (k : Nat) (ls : List Int32) (D : DD) : Prop := match k, ls with
  | 0, [a1, a2] => GW p l e (rmm 3) s m args below meth c G E 7 (MQ below (QR G E s.heap.size r) args s 0 0 (fr E s.heap.size)) 0 0 D 0 [(0, .ref (E.1 1)), (1, .int a1), (2, .int a2)] []
  | 1, [x1, x2, x3, x4] => GW p l e (rmm 3) s m args below meth c G E 7 (MQ below (QR G E s.heap.size r) args s 0 0 (fr E s.heap.size)) 0 0 D 5 [(0, .ref (E.1 1)), (1, .int x1), (2, .int x2), (3, .int x3), (4, .int x4)] []
  | 2, [x1, x2, x3, x4, x5] => GW p l e (rmm 3) s m args below meth c G E 7 (MQ below (QR G E s.heap.size r) args s 0 0 (fr E s.heap.size)) 0 0 D 15 [(0, .ref (E.1 1)), (1, .int x1), (2, .int x2), (3, .int x3), (4, .int x4), (5, .int x5)] []
  | _, _ => True
set_option maxRecDepth 100000 in
set_option maxHeartbeats 4000000 in
theorem bl_X2_largestFromCorner_0 {p : Program} {l : Launch} {e : Env} {s : State} {m : MethodId} {args : Array Value} {below : List Frame} {meth : Method} {c : Code} {G : va_G} {E : EE} {r : RT} (X : CX p s m args meth c cX2_largestFromCorner RX2 7 G E) (hr : meth.sig.returnType = (some .int)) (a1 : Int32) (a2 : Int32) (D : DD) (o : (Nat × List Int32 × DD) ⊕ RT) (h : b_X2_largestFromCorner_0 a1 a2 D = some o) (h1 : ∀ x, o = .inl x → hg_X2_largestFromCorner p l e s m args below meth c G E r x.1 x.2.1 x.2.2) (h2 : ∀ x, o = .inr x → x = r) : GW p l e (rmm 3) s m args below meth c G E 7 (MQ below (QR G E s.heap.size r) args s 0 0 (fr E s.heap.size)) 0 0 D 0 [(0, .ref (E.1 1)), (1, .int a1), (2, .int a2)] [] := by
  unfold b_X2_largestFromCorner_0 at h
  refine g_iconst X (v := (0 : Int32)) dX2_largestFromCorner_0 (by decide) ?_
  refine g_istore_n X (i0 := 3) (lv' := [(3, .int (0 : Int32)), (0, .ref (E.1 1)), (1, .int a1), (2, .int a2)]) dX2_largestFromCorner_1 rfl (by decide) rfl ?_
  refine g_iload_n X 2 (i0 := 1) dX2_largestFromCorner_2 rfl rfl ?_
  refine g_istore X (lv' := [(4, .int a1), (3, .int (0 : Int32)), (0, .ref (E.1 1)), (1, .int a1), (2, .int a2)]) dX2_largestFromCorner_3 (by decide) rfl ?_
  refine g_sub (lv' := [(0, .ref (E.1 1)), (1, .int a1), (2, .int a2), (3, .int (0 : Int32)), (4, .int a1)]) [2, 3, 4, 1, 0] rfl ?_
  exact h1 _ (Option.some.inj h).symm
set_option maxRecDepth 100000 in
set_option maxHeartbeats 4000000 in
theorem bl_X2_largestFromCorner_1 {p : Program} {l : Launch} {e : Env} {s : State} {m : MethodId} {args : Array Value} {below : List Frame} {meth : Method} {c : Code} {G : va_G} {E : EE} {r : RT} (X : CX p s m args meth c cX2_largestFromCorner RX2 7 G E) (hr : meth.sig.returnType = (some .int)) (x1 : Int32) (x2 : Int32) (x3 : Int32) (x4 : Int32) (D : DD) (o : (Nat × List Int32 × DD) ⊕ RT) (h : b_X2_largestFromCorner_1 x1 x2 x3 x4 D = some o) (h1 : ∀ x, o = .inl x → hg_X2_largestFromCorner p l e s m args below meth c G E r x.1 x.2.1 x.2.2) (h2 : ∀ x, o = .inr x → x = r) : GW p l e (rmm 3) s m args below meth c G E 7 (MQ below (QR G E s.heap.size r) args s 0 0 (fr E s.heap.size)) 0 0 D 5 [(0, .ref (E.1 1)), (1, .int x1), (2, .int x2), (3, .int x3), (4, .int x4)] [] := by
  unfold b_X2_largestFromCorner_1 at h
  refine g_iload X 4 dX2_largestFromCorner_5 rfl ?_
  refine g_bipush X (v := (6 : Int32)) dX2_largestFromCorner_7 (by decide) ?_
  refine g_icmp_ge X (tgt := 71) dX2_largestFromCorner_9 (by decide) (fun c1 => ?_) (fun c1 => ?_)
  · have h := (ite_s h).1 c1
    refine g_iload_n X 3 (i0 := 3) dX2_largestFromCorner_71 rfl rfl ?_
    exact g_iret X hr rfl dX2_largestFromCorner_72 (h2 _ (Option.some.inj h).symm)
  · have h := (ite_s h).2 c1
    refine g_iload_n X 2 (i0 := 2) dX2_largestFromCorner_12 rfl rfl ?_
    refine g_istore X (lv' := [(5, .int x2), (0, .ref (E.1 1)), (1, .int x1), (2, .int x2), (3, .int x3), (4, .int x4)]) dX2_largestFromCorner_13 (by decide) rfl ?_
    refine g_sub (lv' := [(0, .ref (E.1 1)), (1, .int x1), (2, .int x2), (3, .int x3), (4, .int x4), (5, .int x2)]) [1, 2, 3, 4, 5, 0] rfl ?_
    exact h1 _ (Option.some.inj h).symm
set_option maxRecDepth 100000 in
set_option maxHeartbeats 4000000 in
theorem bl_X2_largestFromCorner_2 {p : Program} {l : Launch} {e : Env} {s : State} {m : MethodId} {args : Array Value} {below : List Frame} {meth : Method} {c : Code} {G : va_G} {E : EE} {r : RT} (X : CX p s m args meth c cX2_largestFromCorner RX2 7 G E) (hr : meth.sig.returnType = (some .int)) (x1 : Int32) (x2 : Int32) (x3 : Int32) (x4 : Int32) (x5 : Int32) (D : DD) (o : (Nat × List Int32 × DD) ⊕ RT) (h : b_X2_largestFromCorner_2 x1 x2 x3 x4 x5 D = some o) (h1 : ∀ x, o = .inl x → hg_X2_largestFromCorner p l e s m args below meth c G E r x.1 x.2.1 x.2.2) (h2 : ∀ x, o = .inr x → x = r) : GW p l e (rmm 3) s m args below meth c G E 7 (MQ below (QR G E s.heap.size r) args s 0 0 (fr E s.heap.size)) 0 0 D 15 [(0, .ref (E.1 1)), (1, .int x1), (2, .int x2), (3, .int x3), (4, .int x4), (5, .int x5)] [] := by
  unfold b_X2_largestFromCorner_2 at h
  refine g_iload X 5 dX2_largestFromCorner_15 rfl ?_
  refine g_bipush X (v := (6 : Int32)) dX2_largestFromCorner_17 (by decide) ?_
  refine g_icmp_ge X (tgt := 65) dX2_largestFromCorner_19 (by decide) (fun c7 => ?_) (fun c7 => ?_)
  · have h := (ite_s h).1 c7
    refine g_iinc X 4 (v := (x4 + (1 : Int32))) (lv' := [(4, .int (x4 + (1 : Int32))), (0, .ref (E.1 1)), (1, .int x1), (2, .int x2), (3, .int x3), (5, .int x5)]) dX2_largestFromCorner_65 rfl rfl (by decide) rfl ?_
    refine g_goto X (tgt := 5) dX2_largestFromCorner_68 (by decide) ?_
    refine g_sub (lv' := [(0, .ref (E.1 1)), (1, .int x1), (2, .int x2), (3, .int x3), (4, .int (x4 + (1 : Int32)))]) [1, 2, 3, 4, 0] rfl ?_
    exact h1 _ (Option.some.inj h).symm
  · have h := (ite_s h).2 c7
    refine g_iload X 4 dX2_largestFromCorner_22 rfl ?_
    refine g_iload_n X 1 (i0 := 1) dX2_largestFromCorner_24 rfl rfl ?_
    refine g_isub X dX2_largestFromCorner_25 ?_
    refine g_iconst X (v := (1 : Int32)) dX2_largestFromCorner_26 (by decide) ?_
    refine g_iadd X dX2_largestFromCorner_27 ?_
    refine g_iload X 5 dX2_largestFromCorner_28 rfl ?_
    refine g_iload_n X 2 (i0 := 2) dX2_largestFromCorner_30 rfl rfl ?_
    refine g_isub X dX2_largestFromCorner_31 ?_
    refine g_iconst X (v := (1 : Int32)) dX2_largestFromCorner_32 (by decide) ?_
    refine g_iadd X dX2_largestFromCorner_33 ?_
    refine g_imul X dX2_largestFromCorner_34 ?_
    refine g_istore X (lv' := [(6, .int (((x4 - x1) + (1 : Int32)) * ((x5 - x2) + (1 : Int32)))), (0, .ref (E.1 1)), (1, .int x1), (2, .int x2), (3, .int x3), (4, .int x4), (5, .int x5)]) dX2_largestFromCorner_35 (by decide) rfl ?_
    refine g_iload X 0 dX2_largestFromCorner_37 rfl ?_
    refine g_iload_n X 4 (i0 := 3) dX2_largestFromCorner_39 rfl rfl ?_
    refine g_icmp_le X (tgt := 59) dX2_largestFromCorner_40 (by decide) (fun c6 => ?_) (fun c6 => ?_)
    · have h := (ite_s h).1 c6
      refine g_iinc X 6 (v := (x5 + (1 : Int32))) (lv' := [(5, .int (x5 + (1 : Int32))), (6, .int (((x4 - x1) + (1 : Int32)) * ((x5 - x2) + (1 : Int32)))), (0, .ref (E.1 1)), (1, .int x1), (2, .int x2), (3, .int x3), (4, .int x4)]) dX2_largestFromCorner_59 rfl rfl (by decide) rfl ?_
      refine g_goto X (tgt := 15) dX2_largestFromCorner_62 (by decide) ?_
      refine g_sub (lv' := [(0, .ref (E.1 1)), (1, .int x1), (2, .int x2), (3, .int x3), (4, .int x4), (5, .int (x5 + (1 : Int32)))]) [2, 3, 4, 5, 6, 0] rfl ?_
      exact h1 _ (Option.some.inj h).symm
    · have h := (ite_s h).2 c6
      refine g_aload_n X 1 (i0 := 0) dX2_largestFromCorner_43 rfl rfl ?_
      refine g_iload_n X 2 (i0 := 1) dX2_largestFromCorner_44 rfl rfl ?_
      refine g_iload_n X 3 (i0 := 2) dX2_largestFromCorner_45 rfl rfl ?_
      refine g_iload X 5 dX2_largestFromCorner_46 rfl ?_
      refine g_iload X 6 dX2_largestFromCorner_48 rfl ?_
      obtain ⟨r4, D3, e2, h⟩ := cI_s h
      refine g_S X (As := [.ref (E.1 1), .int x1, .int x2, .int x4, .int x5]) (rest := []) (c_X2_allOpen l G E x1 x2 x4 x5 _ _ e2) ks_X2_25 ⟨rfl, rfl⟩ hd_X2_allOpen (⟨Nat.le_of_ble_eq_true rfl, Nat.le_of_ble_eq_true rfl⟩) rfl rfl (Nat.le_of_ble_eq_true rfl) dX2_largestFromCorner_50 ?_
      refine g_if_eq X (tgt := 59) dX2_largestFromCorner_53 (by decide) (fun c5 => ?_) (fun c5 => ?_)
      · have h := (ite_s h).1 c5
        refine g_iinc X 6 (v := (x5 + (1 : Int32))) (lv' := [(5, .int (x5 + (1 : Int32))), (6, .int (((x4 - x1) + (1 : Int32)) * ((x5 - x2) + (1 : Int32)))), (0, .ref (E.1 1)), (1, .int x1), (2, .int x2), (3, .int x3), (4, .int x4)]) dX2_largestFromCorner_59 rfl rfl (by decide) rfl ?_
        refine g_goto X (tgt := 15) dX2_largestFromCorner_62 (by decide) ?_
        refine g_sub (lv' := [(0, .ref (E.1 1)), (1, .int x1), (2, .int x2), (3, .int x3), (4, .int x4), (5, .int (x5 + (1 : Int32)))]) [2, 3, 4, 5, 6, 0] rfl ?_
        exact h1 _ (Option.some.inj h).symm
      · have h := (ite_s h).2 c5
        refine g_iload X 0 dX2_largestFromCorner_56 rfl ?_
        refine g_istore_n X (i0 := 3) (lv' := [(3, .int (((x4 - x1) + (1 : Int32)) * ((x5 - x2) + (1 : Int32)))), (6, .int (((x4 - x1) + (1 : Int32)) * ((x5 - x2) + (1 : Int32)))), (0, .ref (E.1 1)), (1, .int x1), (2, .int x2), (4, .int x4), (5, .int x5)]) dX2_largestFromCorner_58 rfl (by decide) rfl ?_
        refine g_iinc X 6 (v := (x5 + (1 : Int32))) (lv' := [(5, .int (x5 + (1 : Int32))), (3, .int (((x4 - x1) + (1 : Int32)) * ((x5 - x2) + (1 : Int32)))), (6, .int (((x4 - x1) + (1 : Int32)) * ((x5 - x2) + (1 : Int32)))), (0, .ref (E.1 1)), (1, .int x1), (2, .int x2), (4, .int x4)]) dX2_largestFromCorner_59 rfl rfl (by decide) rfl ?_
        refine g_goto X (tgt := 15) dX2_largestFromCorner_62 (by decide) ?_
        refine g_sub (lv' := [(0, .ref (E.1 1)), (1, .int x1), (2, .int x2), (3, .int (((x4 - x1) + (1 : Int32)) * ((x5 - x2) + (1 : Int32)))), (4, .int x4), (5, .int (x5 + (1 : Int32)))]) [3, 4, 5, 1, 6, 0] rfl ?_
        exact h1 _ (Option.some.inj h).symm
set_option maxRecDepth 100000 in
set_option maxHeartbeats 4000000 in
theorem c_X2_largestFromCorner (l : Launch) (G : va_G) (E : EE) (a1 : Int32) (a2 : Int32) (D : DD) (r : RT) (h : S_X2_largestFromCorner a1 a2 D = some r) : MM l G E yX2_largestFromCorner cX2_largestFromCorner 7 (some .int) (rmm 3) [.ref (E.1 1), .int a1, .int a2] D r := by
  unfold S_X2_largestFromCorner at h
  refine m_of rfl (Nat.le_of_ble_eq_true rfl) ?_
  intro p e s m args below meth c X hr
  exact run_G (T := T_X2_largestFromCorner) (HG := hg_X2_largestFromCorner p l e s m args below meth c G E r) (by
    intro k ls D o hT h1 h2
    unfold T_X2_largestFromCorner at hT
    split at hT
    · exact bl_X2_largestFromCorner_0 X hr _ _ D o hT h1 h2
    · exact bl_X2_largestFromCorner_1 X hr _ _ _ _ D o hT h1 h2
    · exact bl_X2_largestFromCorner_2 X hr _ _ _ _ _ D o hT h1 h2
    · cases hT) FUEL 0 [a1, a2] D h
theorem hd_X2_largestFromCorner : yX2_largestFromCorner.cls ≠ "java/lang/invoke/MethodHandle" ∧ yX2_largestFromCorner.cls ≠ "java/lang/invoke/VarHandle" ∧ (parseMethodDescriptor yX2_largestFromCorner.desc).map (fun d => d.parameters.length) = some 3 := by decide +kernel
theorem wc_X2_largestFromCorner : Cond.code yX2_largestFromCorner cX2_largestFromCorner 7 (some .int) ∈ UT := ut 474 (by decide +kernel) (by decide +kernel)
theorem wt_X2_largestFromCorner : Cond.static yX2_largestFromCorner ∈ UT := ut 473 (by decide +kernel) (by decide +kernel)
theorem ks_X2_15 : GoodIn UT (va_wsS RX2 15 yX2_largestFromCorner (Cond.code yX2_largestFromCorner cX2_largestFromCorner 7 (some .int) :: UT)) := gu_S (ut 472 (by decide +kernel) (by decide +kernel)) wt_X2_largestFromCorner wi_RX2 wc_X2_largestFromCorner
theorem wc_max : Cond.code Lib.Math.max.name Lib.Math.max.code 2 (some .int) ∈ UT := ut 482 (by decide +kernel) (by decide +kernel)
theorem wl_X2_19 : Cond.methodLink RX2 19 Lib.Math.max.name ∈ UT := ut 480 (by decide +kernel) (by decide +kernel)
theorem wm_max : Cond.static Lib.Math.max.name ∈ UT := ut 481 (by decide +kernel) (by decide +kernel)
def b_X2_sizeByRectangles_0  (D : DD) : Option ((Nat × List Int32 × DD) ⊕ RT) := some (.inl (1, [(0 : Int32), (0 : Int32)], D))
def b_X2_sizeByRectangles_1 (x2 : Int32) (x3 : Int32) (D : DD) : Option ((Nat × List Int32 × DD) ⊕ RT) := (if (6 : Int32) ≤ x3 then some (.inr (0, some (.int x2), D)) else some (.inl (2, [x2, x3, (0 : Int32)], D)))
def b_X2_sizeByRectangles_2 (x2 : Int32) (x3 : Int32) (x4 : Int32) (D : DD) : Option ((Nat × List Int32 × DD) ⊕ RT) := (if (6 : Int32) ≤ x4 then some (.inl (1, [x2, (x3 + (1 : Int32))], D)) else (cI (S_X2_largestFromCorner x3 x4 D) (fun r4 D3 => some (.inl (2, [(if x2 < r4 then r4 else x2), x3, (x4 + (1 : Int32))], D3)))))
def T_X2_sizeByRectangles (k : Nat) (ls : List Int32) (D : DD) : Option ((Nat × List Int32 × DD) ⊕ RT) := match k, ls with
  | 0, [] => b_X2_sizeByRectangles_0  D
  | 1, [x2, x3] => b_X2_sizeByRectangles_1 x2 x3 D
  | 2, [x2, x3, x4] => b_X2_sizeByRectangles_2 x2 x3 x4 D
  | _, _ => none
def S_X2_sizeByRectangles  (D : DD) : Option RT := run T_X2_sizeByRectangles FUEL 0 [] D
def hg_X2_sizeByRectangles (p : Program) (l : Launch) (e : Env) (s : State) (m : MethodId) (args : Array Value) (below : List Frame) (meth : Method) (c : Code) (G : va_G) (E : EE) (r : RT) (k : Nat) (ls : List Int32) (D : DD) : Prop := match k, ls with
  | 0, [] => GW p l e (rmm 4) s m args below meth c G E 5 (MQ below (QR G E s.heap.size r) args s 0 0 (fr E s.heap.size)) 0 0 D 0 [(0, .ref (E.1 73)), (1, .ref (E.1 1))] []
  | 1, [x2, x3] => GW p l e (rmm 4) s m args below meth c G E 5 (MQ below (QR G E s.heap.size r) args s 0 0 (fr E s.heap.size)) 0 0 D 4 [(1, .ref (E.1 1)), (2, .int x2), (3, .int x3)] []
  | 2, [x2, x3, x4] => GW p l e (rmm 4) s m args below meth c G E 5 (MQ below (QR G E s.heap.size r) args s 0 0 (fr E s.heap.size)) 0 0 D 13 [(1, .ref (E.1 1)), (2, .int x2), (3, .int x3), (4, .int x4)] []
  | _, _ => True
set_option maxRecDepth 100000 in
set_option maxHeartbeats 4000000 in
theorem bl_X2_sizeByRectangles_0 {p : Program} {l : Launch} {e : Env} {s : State} {m : MethodId} {args : Array Value} {below : List Frame} {meth : Method} {c : Code} {G : va_G} {E : EE} {r : RT} (X : CX p s m args meth c cX2_sizeByRectangles RX2 5 G E) (hr : meth.sig.returnType = (some .int))  (D : DD) (o : (Nat × List Int32 × DD) ⊕ RT) (h : b_X2_sizeByRectangles_0  D = some o) (h1 : ∀ x, o = .inl x → hg_X2_sizeByRectangles p l e s m args below meth c G E r x.1 x.2.1 x.2.2) (h2 : ∀ x, o = .inr x → x = r) : GW p l e (rmm 4) s m args below meth c G E 5 (MQ below (QR G E s.heap.size r) args s 0 0 (fr E s.heap.size)) 0 0 D 0 [(0, .ref (E.1 73)), (1, .ref (E.1 1))] [] := by
  unfold b_X2_sizeByRectangles_0 at h
  refine g_iconst X (v := (0 : Int32)) dX2_sizeByRectangles_0 (by decide) ?_
  refine g_istore_n X (i0 := 2) (lv' := [(2, .int (0 : Int32)), (0, .ref (E.1 73)), (1, .ref (E.1 1))]) dX2_sizeByRectangles_1 rfl (by decide) rfl ?_
  refine g_iconst X (v := (0 : Int32)) dX2_sizeByRectangles_2 (by decide) ?_
  refine g_istore_n X (i0 := 3) (lv' := [(3, .int (0 : Int32)), (2, .int (0 : Int32)), (0, .ref (E.1 73)), (1, .ref (E.1 1))]) dX2_sizeByRectangles_3 rfl (by decide) rfl ?_
  refine g_sub (lv' := [(1, .ref (E.1 1)), (2, .int (0 : Int32)), (3, .int (0 : Int32))]) [3, 1, 0] rfl ?_
  exact h1 _ (Option.some.inj h).symm
set_option maxRecDepth 100000 in
set_option maxHeartbeats 4000000 in
theorem bl_X2_sizeByRectangles_1 {p : Program} {l : Launch} {e : Env} {s : State} {m : MethodId} {args : Array Value} {below : List Frame} {meth : Method} {c : Code} {G : va_G} {E : EE} {r : RT} (X : CX p s m args meth c cX2_sizeByRectangles RX2 5 G E) (hr : meth.sig.returnType = (some .int)) (x2 : Int32) (x3 : Int32) (D : DD) (o : (Nat × List Int32 × DD) ⊕ RT) (h : b_X2_sizeByRectangles_1 x2 x3 D = some o) (h1 : ∀ x, o = .inl x → hg_X2_sizeByRectangles p l e s m args below meth c G E r x.1 x.2.1 x.2.2) (h2 : ∀ x, o = .inr x → x = r) : GW p l e (rmm 4) s m args below meth c G E 5 (MQ below (QR G E s.heap.size r) args s 0 0 (fr E s.heap.size)) 0 0 D 4 [(1, .ref (E.1 1)), (2, .int x2), (3, .int x3)] [] := by
  unfold b_X2_sizeByRectangles_1 at h
  refine g_iload_n X 2 (i0 := 3) dX2_sizeByRectangles_4 rfl rfl ?_
  refine g_bipush X (v := (6 : Int32)) dX2_sizeByRectangles_5 (by decide) ?_
  refine g_icmp_ge X (tgt := 44) dX2_sizeByRectangles_7 (by decide) (fun c1 => ?_) (fun c1 => ?_)
  · have h := (ite_s h).1 c1
    refine g_iload_n X 1 (i0 := 2) dX2_sizeByRectangles_44 rfl rfl ?_
    exact g_iret X hr rfl dX2_sizeByRectangles_45 (h2 _ (Option.some.inj h).symm)
  · have h := (ite_s h).2 c1
    refine g_iconst X (v := (0 : Int32)) dX2_sizeByRectangles_10 (by decide) ?_
    refine g_istore X (lv' := [(4, .int (0 : Int32)), (1, .ref (E.1 1)), (2, .int x2), (3, .int x3)]) dX2_sizeByRectangles_11 (by decide) rfl ?_
    refine g_sub (lv' := [(1, .ref (E.1 1)), (2, .int x2), (3, .int x3), (4, .int (0 : Int32))]) [1, 2, 3, 0] rfl ?_
    exact h1 _ (Option.some.inj h).symm
set_option maxRecDepth 100000 in
set_option maxHeartbeats 4000000 in
theorem bl_X2_sizeByRectangles_2 {p : Program} {l : Launch} {e : Env} {s : State} {m : MethodId} {args : Array Value} {below : List Frame} {meth : Method} {c : Code} {G : va_G} {E : EE} {r : RT} (X : CX p s m args meth c cX2_sizeByRectangles RX2 5 G E) (hr : meth.sig.returnType = (some .int)) (x2 : Int32) (x3 : Int32) (x4 : Int32) (D : DD) (o : (Nat × List Int32 × DD) ⊕ RT) (h : b_X2_sizeByRectangles_2 x2 x3 x4 D = some o) (h1 : ∀ x, o = .inl x → hg_X2_sizeByRectangles p l e s m args below meth c G E r x.1 x.2.1 x.2.2) (h2 : ∀ x, o = .inr x → x = r) : GW p l e (rmm 4) s m args below meth c G E 5 (MQ below (QR G E s.heap.size r) args s 0 0 (fr E s.heap.size)) 0 0 D 13 [(1, .ref (E.1 1)), (2, .int x2), (3, .int x3), (4, .int x4)] [] := by
  unfold b_X2_sizeByRectangles_2 at h
  refine g_iload X 3 dX2_sizeByRectangles_13 rfl ?_
  refine g_bipush X (v := (6 : Int32)) dX2_sizeByRectangles_15 (by decide) ?_
  refine g_icmp_ge X (tgt := 38) dX2_sizeByRectangles_17 (by decide) (fun c5 => ?_) (fun c5 => ?_)
  · have h := (ite_s h).1 c5
    refine g_iinc X 2 (v := (x3 + (1 : Int32))) (lv' := [(3, .int (x3 + (1 : Int32))), (1, .ref (E.1 1)), (2, .int x2), (4, .int x4)]) dX2_sizeByRectangles_38 rfl rfl (by decide) rfl ?_
    refine g_goto X (tgt := 4) dX2_sizeByRectangles_41 (by decide) ?_
    refine g_sub (lv' := [(1, .ref (E.1 1)), (2, .int x2), (3, .int (x3 + (1 : Int32)))]) [1, 2, 0] rfl ?_
    exact h1 _ (Option.some.inj h).symm
  · have h := (ite_s h).2 c5
    refine g_iload_n X 1 (i0 := 2) dX2_sizeByRectangles_20 rfl rfl ?_
    refine g_aload_n X 0 (i0 := 1) dX2_sizeByRectangles_21 rfl rfl ?_
    refine g_iload_n X 2 (i0 := 3) dX2_sizeByRectangles_22 rfl rfl ?_
    refine g_iload X 3 dX2_sizeByRectangles_23 rfl ?_
    obtain ⟨r4, D3, e2, h⟩ := cI_s h
    refine g_S X (As := [.ref (E.1 1), .int x3, .int x4]) (rest := [.int x2]) (c_X2_largestFromCorner l G E x3 x4 _ _ e2) ks_X2_15 ⟨rfl, rfl⟩ hd_X2_largestFromCorner (⟨Nat.le_of_ble_eq_true rfl, Nat.le_of_ble_eq_true rfl⟩) rfl rfl (Nat.le_of_ble_eq_true rfl) dX2_sizeByRectangles_25 ?_
    refine g_max X wl_X2_19 wm_max wi_math wc_max (Nat.le_of_ble_eq_true rfl) (Nat.le_of_ble_eq_true rfl) dX2_sizeByRectangles_28 ?_
    refine g_istore_n X (i0 := 2) (lv' := [(2, .int (if x2 < r4 then r4 else x2)), (1, .ref (E.1 1)), (3, .int x3), (4, .int x4)]) dX2_sizeByRectangles_31 rfl (by decide) rfl ?_
    refine g_iinc X 3 (v := (x4 + (1 : Int32))) (lv' := [(4, .int (x4 + (1 : Int32))), (2, .int (if x2 < r4 then r4 else x2)), (1, .ref (E.1 1)), (3, .int x3)]) dX2_sizeByRectangles_32 rfl rfl (by decide) rfl ?_
    refine g_goto X (tgt := 13) dX2_sizeByRectangles_35 (by decide) ?_
    refine g_sub (lv' := [(1, .ref (E.1 1)), (2, .int (if x2 < r4 then r4 else x2)), (3, .int x3), (4, .int (x4 + (1 : Int32)))]) [2, 1, 3, 0] rfl ?_
    exact h1 _ (Option.some.inj h).symm
set_option maxRecDepth 100000 in
set_option maxHeartbeats 4000000 in
theorem c_X2_sizeByRectangles (l : Launch) (G : va_G) (E : EE)  (D : DD) (r : RT) (h : S_X2_sizeByRectangles  D = some r) : MM l G E yX2_sizeByRectangles cX2_sizeByRectangles 5 (some .int) (rmm 4) [.ref (E.1 73), .ref (E.1 1)] D r := by
  unfold S_X2_sizeByRectangles at h
  refine m_of rfl (Nat.le_of_ble_eq_true rfl) ?_
  intro p e s m args below meth c X hr
  exact run_G (T := T_X2_sizeByRectangles) (HG := hg_X2_sizeByRectangles p l e s m args below meth c G E r) (by
    intro k ls D o hT h1 h2
    unfold T_X2_sizeByRectangles at hT
    split at hT
    · exact bl_X2_sizeByRectangles_0 X hr  D o hT h1 h2
    · exact bl_X2_sizeByRectangles_1 X hr _ _ D o hT h1 h2
    · exact bl_X2_sizeByRectangles_2 X hr _ _ _ D o hT h1 h2
    · cases hT) FUEL 0 [] D h
theorem wg_74 (E : EE) (D : DD) : (wd E D)[74]? = some (E.1 74, .inl (E.2 0, 6, .inl (D.2.2.1 61))) := rfl
theorem ws_A_61 (E : EE) (D : DD) (f : Nat → Int32) : (wd E D).set 74 (E.1 74, .inl (E.2 0, 6, .inl f)) = wd E (setA D 61 f) := rfl
def b_J7_fill_53178_blocks_heights_0 (a1 : Int32) (D : DD) : Option ((Nat × List Int32 × DD) ⊕ RT) := some (.inl (1, [a1, (0 : Int32), (6 : Int32)], D))
def b_J7_fill_53178_blocks_heights_1 (x1 : Int32) (x2 : Int32) (x3 : Int32) (D : DD) : Option ((Nat × List Int32 × DD) ⊕ RT) := (if x3 ≤ x2 then some (.inr (0, none, D)) else (if inB x2 6 = true then some (.inl (1, [x1, (x2 + (1 : Int32)), x3], (setA D 61 (upd (D.2.2.1 61) x2.toNatClampNeg x1)))) else none))
def T_J7_fill_53178_blocks_heights (k : Nat) (ls : List Int32) (D : DD) : Option ((Nat × List Int32 × DD) ⊕ RT) := match k, ls with
  | 0, [a1] => b_J7_fill_53178_blocks_heights_0 a1 D
  | 1, [x1, x2, x3] => b_J7_fill_53178_blocks_heights_1 x1 x2 x3 D
  | _, _ => none
def S_J7_fill_53178_blocks_heights (a1 : Int32) (D : DD) : Option RT := run T_J7_fill_53178_blocks_heights FUEL 0 [a1] D
def hg_J7_fill_53178_blocks_heights (p : Program) (l : Launch) (e : Env) (s : State) (m : MethodId) (args : Array Value) (below : List Frame) (meth : Method) (c : Code) (G : va_G) (E : EE) (r : RT) (k : Nat) (ls : List Int32) (D : DD) : Prop := match k, ls with
  | 0, [a1] => GW p l e (rmm 0) s m args below meth c G E 4 (MQ below (QR G E s.heap.size r) args s 0 0 (fr E s.heap.size)) 0 0 D 0 [(0, .ref (E.1 74)), (1, .int a1)] []
  | 1, [x1, x2, x3] => GW p l e (rmm 0) s m args below meth c G E 4 (MQ below (QR G E s.heap.size r) args s 0 0 (fr E s.heap.size)) 0 0 D 5 [(0, .ref (E.1 74)), (1, .int x1), (2, .int x2), (3, .int x3)] []
  | _, _ => True
set_option maxRecDepth 100000 in
set_option maxHeartbeats 4000000 in
theorem bl_J7_fill_53178_blocks_heights_0 {p : Program} {l : Launch} {e : Env} {s : State} {m : MethodId} {args : Array Value} {below : List Frame} {meth : Method} {c : Code} {G : va_G} {E : EE} {r : RT} (X : CX p s m args meth c cJ7_fill_53178 RJ7 4 G E) (hr : meth.sig.returnType = none) (a1 : Int32) (D : DD) (o : (Nat × List Int32 × DD) ⊕ RT) (h : b_J7_fill_53178_blocks_heights_0 a1 D = some o) (h1 : ∀ x, o = .inl x → hg_J7_fill_53178_blocks_heights p l e s m args below meth c G E r x.1 x.2.1 x.2.2) (h2 : ∀ x, o = .inr x → x = r) : GW p l e (rmm 0) s m args below meth c G E 4 (MQ below (QR G E s.heap.size r) args s 0 0 (fr E s.heap.size)) 0 0 D 0 [(0, .ref (E.1 74)), (1, .int a1)] [] := by
  unfold b_J7_fill_53178_blocks_heights_0 at h
  refine g_iconst X (v := (0 : Int32)) dJ7_fill_53178_0 (by decide) ?_
  refine g_istore_n X (i0 := 2) (lv' := [(2, .int (0 : Int32)), (0, .ref (E.1 74)), (1, .int a1)]) dJ7_fill_53178_1 rfl (by decide) rfl ?_
  refine g_aload_n X 1 (i0 := 0) dJ7_fill_53178_2 rfl rfl ?_
  refine g_alen X (D := D) (v := (6 : Int32)) (t0 := 0) 74 (wg_74 E _) rfl rfl dJ7_fill_53178_3 ?_
  refine g_istore_n X (i0 := 3) (lv' := [(3, .int (6 : Int32)), (2, .int (0 : Int32)), (0, .ref (E.1 74)), (1, .int a1)]) dJ7_fill_53178_4 rfl (by decide) rfl ?_
  refine g_sub (lv' := [(0, .ref (E.1 74)), (1, .int a1), (2, .int (0 : Int32)), (3, .int (6 : Int32))]) [2, 3, 1, 0] rfl ?_
  exact h1 _ (Option.some.inj h).symm
set_option maxRecDepth 100000 in
set_option maxHeartbeats 4000000 in
theorem bl_J7_fill_53178_blocks_heights_1 {p : Program} {l : Launch} {e : Env} {s : State} {m : MethodId} {args : Array Value} {below : List Frame} {meth : Method} {c : Code} {G : va_G} {E : EE} {r : RT} (X : CX p s m args meth c cJ7_fill_53178 RJ7 4 G E) (hr : meth.sig.returnType = none) (x1 : Int32) (x2 : Int32) (x3 : Int32) (D : DD) (o : (Nat × List Int32 × DD) ⊕ RT) (h : b_J7_fill_53178_blocks_heights_1 x1 x2 x3 D = some o) (h1 : ∀ x, o = .inl x → hg_J7_fill_53178_blocks_heights p l e s m args below meth c G E r x.1 x.2.1 x.2.2) (h2 : ∀ x, o = .inr x → x = r) : GW p l e (rmm 0) s m args below meth c G E 4 (MQ below (QR G E s.heap.size r) args s 0 0 (fr E s.heap.size)) 0 0 D 5 [(0, .ref (E.1 74)), (1, .int x1), (2, .int x2), (3, .int x3)] [] := by
  unfold b_J7_fill_53178_blocks_heights_1 at h
  refine g_iload_n X 2 (i0 := 2) dJ7_fill_53178_5 rfl rfl ?_
  refine g_iload_n X 3 (i0 := 3) dJ7_fill_53178_6 rfl rfl ?_
  refine g_icmp_ge X (tgt := 20) dJ7_fill_53178_7 (by decide) (fun c2 => ?_) (fun c2 => ?_)
  · have h := (ite_s h).1 c2
    exact g_vret X hr dJ7_fill_53178_20 (h2 _ (Option.some.inj h).symm)
  · have h := (ite_s h).2 c2
    refine g_aload_n X 0 (i0 := 0) dJ7_fill_53178_10 rfl rfl ?_
    refine g_iload_n X 2 (i0 := 2) dJ7_fill_53178_11 rfl rfl ?_
    refine g_iload_n X 1 (i0 := 1) dJ7_fill_53178_12 rfl rfl ?_
    obtain ⟨b1, h⟩ := chk_s h
    refine g_iast X (D := D) (f := (D.2.2.1 61)) (i := x2) (x := x1) (D' := (setA D 61 (upd (D.2.2.1 61) x2.toNatClampNeg x1))) 74 (wg_74 E _) (inB_vp b1) (ws_A_61 E _ _) dJ7_fill_53178_13 ?_
    refine g_iinc X 2 (v := (x2 + (1 : Int32))) (lv' := [(2, .int (x2 + (1 : Int32))), (0, .ref (E.1 74)), (1, .int x1), (3, .int x3)]) dJ7_fill_53178_14 rfl rfl (by decide) rfl ?_
    refine g_goto X (tgt := 5) dJ7_fill_53178_17 (by decide) ?_
    refine g_sub (lv' := [(0, .ref (E.1 74)), (1, .int x1), (2, .int (x2 + (1 : Int32))), (3, .int x3)]) [1, 2, 0, 3] rfl ?_
    exact h1 _ (Option.some.inj h).symm
set_option maxRecDepth 100000 in
set_option maxHeartbeats 4000000 in
theorem c_J7_fill_53178_blocks_heights (l : Launch) (G : va_G) (E : EE) (a1 : Int32) (D : DD) (r : RT) (h : S_J7_fill_53178_blocks_heights a1 D = some r) : MM l G E yJ7_fill_53178 cJ7_fill_53178 4 none (rmm 0) [.ref (E.1 74), .int a1] D r := by
  unfold S_J7_fill_53178_blocks_heights at h
  refine m_of rfl (Nat.le_of_ble_eq_true rfl) ?_
  intro p e s m args below meth c X hr
  exact run_G (T := T_J7_fill_53178_blocks_heights) (HG := hg_J7_fill_53178_blocks_heights p l e s m args below meth c G E r) (by
    intro k ls D o hT h1 h2
    unfold T_J7_fill_53178_blocks_heights at hT
    split at hT
    · exact bl_J7_fill_53178_blocks_heights_0 X hr _ D o hT h1 h2
    · exact bl_J7_fill_53178_blocks_heights_1 X hr _ _ _ D o hT h1 h2
    · cases hT) FUEL 0 [a1] D h
