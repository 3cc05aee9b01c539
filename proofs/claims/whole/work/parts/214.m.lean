theorem hd_X12_setHardness : yX12_setHardness.cls ≠ "java/lang/invoke/MethodHandle" ∧ yX12_setHardness.cls ≠ "java/lang/invoke/VarHandle" ∧ (parseMethodDescriptor yX12_setHardness.desc).map (fun d => d.parameters.length) = some 3 := by decide +kernel
theorem wc_X12_setHardness : Cond.code yX12_setHardness cX12_setHardness 5 (some .int) ∈ UT := ut 639 (by decide +kernel) (by decide +kernel)
theorem we_X12_setHardness : Cond.selects RX12 yX12_setHardness yX12_setHardness ∈ UT := ut 638 (by decide +kernel) (by decide +kernel)
theorem wm_X12_setHardness : Cond.instanceMethod yX12_setHardness ∈ UT := ut 637 (by decide +kernel) (by decide +kernel)
theorem kv_L_7 : GoodIn UT (wsV RL 7 RX12 yX12_setHardness (Cond.code yX12_setHardness cX12_setHardness 5 (some .int) :: UT)) := gu_V (ut 636 (by decide +kernel) (by decide +kernel)) wm_X12_setHardness we_X12_setHardness wi_RX12 wc_X12_setHardness
theorem wca_1 : Cond.castable (exN 1) "java/lang/IllegalArgumentException" ∈ NEST := nst 648 (by decide +kernel) (by decide +kernel)
theorem wca_2 : Cond.castable (exN 2) "java/lang/IllegalStateException" ∈ NEST := nst 720 (by decide +kernel) (by decide +kernel)
theorem wcl_L_13 : Cond.classLink RL 13 "java/lang/IllegalArgumentException" ∈ UT := ut 634 (by decide +kernel) (by decide +kernel)
theorem wcl_L_15 : Cond.classLink RL 15 "java/lang/IllegalStateException" ∈ UT := ut 635 (by decide +kernel) (by decide +kernel)
theorem wg_99 (E : EE) (D : DD) : (wd E D)[99]? = some (E.1 99, .inl (E.2 5, 1, .inr (.inl (D.2.2.2.1 0)))) := rfl
theorem ws_B_0 (E : EE) (D : DD) (f : Nat → Int64) : (wd E D).set 99 (E.1 99, .inl (E.2 5, 1, .inr (.inl f))) = wd E (setB D 0 f) := rfl
def S_L_setHardness (a1 : Int32) (a2 : Int32) (a3 : Int32) (D : DD) : Option RT := (cX (S_X12_setHardness a1 a2 a3 D) (fun v3 D2 => (vI v3 (fun r5 => some (0, some (.int (0 : Int32)), (setB D2 0 (vp_updL (D2.2.2.2.1 0) (0 : Int32).toNatClampNeg r5.toInt64)))))) (fun n4 D2 => (if n4 = 1 then some (0, some (.int (1 : Int32)), D2) else (if n4 = 2 then some (0, some (.int (2 : Int32)), D2) else none))))
set_option maxRecDepth 100000 in
set_option maxHeartbeats 4000000 in
theorem c_L_setHardness (l : Launch) (hfl : l.stackTraces = false) (G : va_G) (E : EE) (a1 : Int32) (a2 : Int32) (a3 : Int32) (D : DD) (r : RT) (h : S_L_setHardness a1 a2 a3 D = some r) : MW l G E yL_setHardness cL_setHardness 6 (some .int) [(0, 12, 15, 13), (0, 12, 19, 15)] (rmx 7) [.ref (E.1 0), .int a1, .int a2, .int a3, .ref (E.1 99)] D r := by
  refine mw_of rfl (Nat.le_of_ble_eq_true rfl) ?_
  intro p e s m args below meth c X hr htab
  unfold S_L_setHardness at h
  refine g_aload X 4 dL_setHardness_0 rfl ?_
  refine g_iconst X (v := (0 : Int32)) dL_setHardness_2 (by decide) ?_
  refine g_aload_n X 0 (i0 := 0) dL_setHardness_3 rfl rfl ?_
  refine g_iload_n X 1 (i0 := 1) dL_setHardness_4 rfl rfl ?_
  refine g_iload_n X 2 (i0 := 2) dL_setHardness_5 rfl rfl ?_
  refine g_iload_n X 3 (i0 := 3) dL_setHardness_6 rfl rfl ?_
  rcases cX_s h with ⟨v3, D2, e1, h⟩ | ⟨n4, v3, D2, e1, e1n, h⟩
  · obtain ⟨r5, e6, h⟩ := vI_s h
    subst e6
    refine gx_V X (As := [.int a1, .int a2, .int a3]) (rest := [.int (0 : Int32), .ref (E.1 99)]) (c_X12_setHardness l hfl G E a1 a2 a3 _ _ e1) 0 (wg_0 E _) rfl rfl kv_L_7 ⟨rfl, rfl⟩ ⟨rfl, hd_X12_setHardness⟩ (⟨Nat.le_of_ble_eq_true rfl, Nat.le_of_ble_eq_true rfl⟩) (⟨Nat.le_of_ble_eq_true rfl, Nat.le_of_ble_eq_true rfl⟩) rfl rfl (Nat.le_of_ble_eq_true rfl) dL_setHardness_7 (fun _ => ?_) (fun q => absurd rfl q)
    refine g_i2l X dL_setHardness_10 ?_
    refine g_last X (D := D2) (f := (D2.2.2.2.1 0)) (i := (0 : Int32)) (x := r5.toInt64) (D' := (setB D2 0 (vp_updL (D2.2.2.2.1 0) (0 : Int32).toNatClampNeg r5.toInt64))) 99 (wg_99 E _) (inB_vp (by decide)) (ws_B_0 E _ _) dL_setHardness_11 ?_
    refine g_goto X (tgt := 23) dL_setHardness_12 (by decide) ?_
    refine g_iconst X (v := (0 : Int32)) dL_setHardness_23 (by decide) ?_
    exact g_iret X hr rfl dL_setHardness_24 (Option.some.inj h)
  · by_cases u7 : n4 = 1
    · have hh := (ite_s h).1 u7
      clear h
      subst u7
      have h := hh
      clear hh
      refine gx_V X (As := [.int a1, .int a2, .int a3]) (rest := [.int (0 : Int32), .ref (E.1 99)]) (c_X12_setHardness l hfl G E a1 a2 a3 _ _ e1) 0 (wg_0 E _) rfl rfl kv_L_7 ⟨rfl, rfl⟩ ⟨rfl, hd_X12_setHardness⟩ (⟨Nat.le_of_ble_eq_true rfl, Nat.le_of_ble_eq_true rfl⟩) (⟨Nat.le_of_ble_eq_true rfl, Nat.le_of_ble_eq_true rfl⟩) rfl rfl (Nat.le_of_ble_eq_true rfl) dL_setHardness_7 (fun q => absurd q (show ¬ (1 : Nat) = 0 by decide)) (fun _ => ⟨[], ⟨0, 12, 15, 13⟩, [⟨0, 12, 19, 15⟩], "java/lang/IllegalArgumentException", htab, (fun z hz => absurd hz List.not_mem_nil), by decide, by decide, wcl_L_13, wca_1, fun z8 => ?_⟩)
      refine g_astore X (lv' := [(5, .ref z8), (0, .ref (E.1 0)), (1, .int a1), (2, .int a2), (3, .int a3), (4, .ref (E.1 99))]) dL_setHardness_15 (by decide) rfl ?_
      refine g_iconst X (v := (1 : Int32)) dL_setHardness_17 (by decide) ?_
      exact g_iret X hr rfl dL_setHardness_18 (Option.some.inj h)
    have h := (ite_s h).2 u7
    by_cases u9 : n4 = 2
    · have hh := (ite_s h).1 u9
      clear h
      subst u9
      have h := hh
      clear hh
      refine gx_V X (As := [.int a1, .int a2, .int a3]) (rest := [.int (0 : Int32), .ref (E.1 99)]) (c_X12_setHardness l hfl G E a1 a2 a3 _ _ e1) 0 (wg_0 E _) rfl rfl kv_L_7 ⟨rfl, rfl⟩ ⟨rfl, hd_X12_setHardness⟩ (⟨Nat.le_of_ble_eq_true rfl, Nat.le_of_ble_eq_true rfl⟩) (⟨Nat.le_of_ble_eq_true rfl, Nat.le_of_ble_eq_true rfl⟩) rfl rfl (Nat.le_of_ble_eq_true rfl) dL_setHardness_7 (fun q => absurd q (show ¬ (2 : Nat) = 0 by decide)) (fun _ => ⟨[⟨0, 12, 15, 13⟩], ⟨0, 12, 19, 15⟩, [], "java/lang/IllegalStateException", htab, (fun z hz => by rw [List.mem_singleton.mp hz]; exact Or.inr ⟨by decide, "java/lang/IllegalArgumentException", wcl_L_13, (show (exN 2, "java/lang/IllegalArgumentException") ∈ NCS by decide +kernel)⟩), by decide, by decide, wcl_L_15, wca_2, fun z10 => ?_⟩)
      refine g_astore X (lv' := [(5, .ref z10), (0, .ref (E.1 0)), (1, .int a1), (2, .int a2), (3, .int a3), (4, .ref (E.1 99))]) dL_setHardness_19 (by decide) rfl ?_
      refine g_iconst X (v := (2 : Int32)) dL_setHardness_21 (by decide) ?_
      exact g_iret X hr rfl dL_setHardness_22 (Option.some.inj h)
    have h := (ite_s h).2 u9
    cases h
theorem hd_X12_dig : yX12_dig.cls ≠ "java/lang/invoke/MethodHandle" ∧ yX12_dig.cls ≠ "java/lang/invoke/VarHandle" ∧ (parseMethodDescriptor yX12_dig.desc).map (fun d => d.parameters.length) = some 2 := by decide +kernel
theorem wc_X12_dig : Cond.code yX12_dig cX12_dig 4 (some .long) ∈ UT := ut 756 (by decide +kernel) (by decide +kernel)
theorem we_X12_dig : Cond.selects RX12 yX12_dig yX12_dig ∈ UT := ut 755 (by decide +kernel) (by decide +kernel)
theorem wm_X12_dig : Cond.instanceMethod yX12_dig ∈ UT := ut 754 (by decide +kernel) (by decide +kernel)
theorem kv_L_17 : GoodIn UT (wsV RL 17 RX12 yX12_dig (Cond.code yX12_dig cX12_dig 4 (some .long) :: UT)) := gu_V (ut 753 (by decide +kernel) (by decide +kernel)) wm_X12_dig we_X12_dig wi_RX12 wc_X12_dig
theorem wca_3 : Cond.castable (exN 3) "java/lang/UnsupportedOperationException" ∈ NEST := nst 776 (by decide +kernel) (by decide +kernel)
theorem wcl_L_21 : Cond.classLink RL 21 "java/lang/UnsupportedOperationException" ∈ UT := ut 752 (by decide +kernel) (by decide +kernel)
def S_L_dig (a1 : Int32) (a2 : Int32) (D : DD) : Option RT := (cX (S_X12_dig a1 a2 D) (fun v3 D2 => (vL v3 (fun r5 => some (0, some (.int (0 : Int32)), (setB D2 0 (vp_updL (D2.2.2.2.1 0) (0 : Int32).toNatClampNeg r5)))))) (fun n4 D2 => (if n4 = 1 then some (0, some (.int (1 : Int32)), D2) else (if n4 = 2 then some (0, some (.int (2 : Int32)), D2) else (if n4 = 3 then some (0, some (.int (3 : Int32)), D2) else none)))))
set_option maxRecDepth 100000 in
set_option maxHeartbeats 4000000 in
theorem c_L_dig (l : Launch) (hfl : l.stackTraces = false) (G : va_G) (E : EE) (a1 : Int32) (a2 : Int32) (D : DD) (r : RT) (h : S_L_dig a1 a2 D = some r) : MW l G E yL_dig cL_dig 5 (some .int) [(0, 9, 12, 13), (0, 9, 16, 15), (0, 9, 20, 21)] (rmx 7) [.ref (E.1 0), .int a1, .int a2, .ref (E.1 99)] D r := by
  refine mw_of rfl (Nat.le_of_ble_eq_true rfl) ?_
  intro p e s m args below meth c X hr htab
  unfold S_L_dig at h
  refine g_aload_n X 3 (i0 := 3) dL_dig_0 rfl rfl ?_
  refine g_iconst X (v := (0 : Int32)) dL_dig_1 (by decide) ?_
  refine g_aload_n X 0 (i0 := 0) dL_dig_2 rfl rfl ?_
  refine g_iload_n X 1 (i0 := 1) dL_dig_3 rfl rfl ?_
  refine g_iload_n X 2 (i0 := 2) dL_dig_4 rfl rfl ?_
  rcases cX_s h with ⟨v3, D2, e1, h⟩ | ⟨n4, v3, D2, e1, e1n, h⟩
  · obtain ⟨r5, e6, h⟩ := vL_s h
    subst e6
    refine gx_V X (As := [.int a1, .int a2]) (rest := [.int (0 : Int32), .ref (E.1 99)]) (c_X12_dig l hfl G E a1 a2 _ _ e1) 0 (wg_0 E _) rfl rfl kv_L_17 ⟨rfl, rfl⟩ ⟨rfl, hd_X12_dig⟩ (⟨Nat.le_of_ble_eq_true rfl, Nat.le_of_ble_eq_true rfl⟩) (⟨Nat.le_of_ble_eq_true rfl, Nat.le_of_ble_eq_true rfl⟩) rfl rfl (Nat.le_of_ble_eq_true rfl) dL_dig_5 (fun _ => ?_) (fun q => absurd rfl q)
    refine g_last X (D := D2) (f := (D2.2.2.2.1 0)) (i := (0 : Int32)) (x := r5) (D' := (setB D2 0 (vp_updL (D2.2.2.2.1 0) (0 : Int32).toNatClampNeg r5))) 99 (wg_99 E _) (inB_vp (by decide)) (ws_B_0 E _ _) dL_dig_8 ?_
    refine g_goto X (tgt := 24) dL_dig_9 (by decide) ?_
    refine g_iconst X (v := (0 : Int32)) dL_dig_24 (by decide) ?_
    exact g_iret X hr rfl dL_dig_25 (Option.some.inj h)
  · by_cases u7 : n4 = 1
    · have hh := (ite_s h).1 u7
      clear h
      subst u7
      have h := hh
      clear hh
      refine gx_V X (As := [.int a1, .int a2]) (rest := [.int (0 : Int32), .ref (E.1 99)]) (c_X12_dig l hfl G E a1 a2 _ _ e1) 0 (wg_0 E _) rfl rfl kv_L_17 ⟨rfl, rfl⟩ ⟨rfl, hd_X12_dig⟩ (⟨Nat.le_of_ble_eq_true rfl, Nat.le_of_ble_eq_true rfl⟩) (⟨Nat.le_of_ble_eq_true rfl, Nat.le_of_ble_eq_true rfl⟩) rfl rfl (Nat.le_of_ble_eq_true rfl) dL_dig_5 (fun q => absurd q (show ¬ (1 : Nat) = 0 by decide)) (fun _ => ⟨[], ⟨0, 9, 12, 13⟩, [⟨0, 9, 16, 15⟩, ⟨0, 9, 20, 21⟩], "java/lang/IllegalArgumentException", htab, (fun z hz => absurd hz List.not_mem_nil), by decide, by decide, wcl_L_13, wca_1, fun z8 => ?_⟩)
      refine g_astore X (lv' := [(4, .ref z8), (0, .ref (E.1 0)), (1, .int a1), (2, .int a2), (3, .ref (E.1 99))]) dL_dig_12 (by decide) rfl ?_
      refine g_iconst X (v := (1 : Int32)) dL_dig_14 (by decide) ?_
      exact g_iret X hr rfl dL_dig_15 (Option.some.inj h)
    have h := (ite_s h).2 u7
    by_cases u9 : n4 = 2
    · have hh := (ite_s h).1 u9
      clear h
      subst u9
      have h := hh
      clear hh
      refine gx_V X (As := [.int a1, .int a2]) (rest := [.int (0 : Int32), .ref (E.1 99)]) (c_X12_dig l hfl G E a1 a2 _ _ e1) 0 (wg_0 E _) rfl rfl kv_L_17 ⟨rfl, rfl⟩ ⟨rfl, hd_X12_dig⟩ (⟨Nat.le_of_ble_eq_true rfl, Nat.le_of_ble_eq_true rfl⟩) (⟨Nat.le_of_ble_eq_true rfl, Nat.le_of_ble_eq_true rfl⟩) rfl rfl (Nat.le_of_ble_eq_true rfl) dL_dig_5 (fun q => absurd q (show ¬ (2 : Nat) = 0 by decide)) (fun _ => ⟨[⟨0, 9, 12, 13⟩], ⟨0, 9, 16, 15⟩, [⟨0, 9, 20, 21⟩], "java/lang/IllegalStateException", htab, (fun z hz => by rw [List.mem_singleton.mp hz]; exact Or.inr ⟨by decide, "java/lang/IllegalArgumentException", wcl_L_13, (show (exN 2, "java/lang/IllegalArgumentException") ∈ NCS by decide +kernel)⟩), by decide, by decide, wcl_L_15, wca_2, fun z10 => ?_⟩)
      refine g_astore X (lv' := [(4, .ref z10), (0, .ref (E.1 0)), (1, .int a1), (2, .int a2), (3, .ref (E.1 99))]) dL_dig_16 (by decide) rfl ?_
      refine g_iconst X (v := (2 : Int32)) dL_dig_18 (by decide) ?_
      exact g_iret X hr rfl dL_dig_19 (Option.some.inj h)
    have h := (ite_s h).2 u9
    by_cases u11 : n4 = 3
    · have hh := (ite_s h).1 u11
      clear h
      subst u11
      have h := hh
      clear hh
      refine gx_V X (As := [.int a1, .int a2]) (rest := [.int (0 : Int32), .ref (E.1 99)]) (c_X12_dig l hfl G E a1 a2 _ _ e1) 0 (wg_0 E _) rfl rfl kv_L_17 ⟨rfl, rfl⟩ ⟨rfl, hd_X12_dig⟩ (⟨Nat.le_of_ble_eq_true rfl, Nat.le_of_ble_eq_true rfl⟩) (⟨Nat.le_of_ble_eq_true rfl, Nat.le_of_ble_eq_true rfl⟩) rfl rfl (Nat.le_of_ble_eq_true rfl) dL_dig_5 (fun q => absurd q (show ¬ (3 : Nat) = 0 by decide)) (fun _ => ⟨[⟨0, 9, 12, 13⟩, ⟨0, 9, 16, 15⟩], ⟨0, 9, 20, 21⟩, [], "java/lang/UnsupportedOperationException", htab, (fun z hz => (List.mem_cons.mp hz).elim (fun hz => by rw [hz]; exact Or.inr ⟨by decide, "java/lang/IllegalArgumentException", wcl_L_13, (show (exN 3, "java/lang/IllegalArgumentException") ∈ NCS by decide +kernel)⟩) (fun hz => by rw [List.mem_singleton.mp hz]; exact Or.inr ⟨by decide, "java/lang/IllegalStateException", wcl_L_15, (show (exN 3, "java/lang/IllegalStateException") ∈ NCS by decide +kernel)⟩)), by decide, by decide, wcl_L_21, wca_3, fun z12 => ?_⟩)
      refine g_astore X (lv' := [(4, .ref z12), (0, .ref (E.1 0)), (1, .int a1), (2, .int a2), (3, .ref (E.1 99))]) dL_dig_20 (by decide) rfl ?_
      refine g_iconst X (v := (3 : Int32)) dL_dig_22 (by decide) ?_
      exact g_iret X hr rfl dL_dig_23 (Option.some.inj h)
    have h := (ite_s h).2 u11
    cases h
theorem hd_X12_hardnessOf : yX12_hardnessOf.cls ≠ "java/lang/invoke/MethodHandle" ∧ yX12_hardnessOf.cls ≠ "java/lang/invoke/VarHandle" ∧ (parseMethodDescriptor yX12_hardnessOf.desc).map (fun d => d.parameters.length) = some 2 := by decide +kernel
theorem wc_X12_hardnessOf : Cond.code yX12_hardnessOf cX12_hardnessOf 4 (some .int) ∈ UT := ut 805 (by decide +kernel) (by decide +kernel)
theorem we_X12_hardnessOf : Cond.selects RX12 yX12_hardnessOf yX12_hardnessOf ∈ UT := ut 804 (by decide +kernel) (by decide +kernel)
theorem wm_X12_hardnessOf : Cond.instanceMethod yX12_hardnessOf ∈ UT := ut 803 (by decide +kernel) (by decide +kernel)
theorem kv_L_23 : GoodIn UT (wsV RL 23 RX12 yX12_hardnessOf (Cond.code yX12_hardnessOf cX12_hardnessOf 4 (some .int) :: UT)) := gu_V (ut 802 (by decide +kernel) (by decide +kernel)) wm_X12_hardnessOf we_X12_hardnessOf wi_RX12 wc_X12_hardnessOf
def S_L_hardnessOf (a1 : Int32) (a2 : Int32) (D : DD) : Option RT := (cX (S_X12_hardnessOf a1 a2 D) (fun v3 D2 => (vI v3 (fun r5 => some (0, some (.int (0 : Int32)), (setB D2 0 (vp_updL (D2.2.2.2.1 0) (0 : Int32).toNatClampNeg r5.toInt64)))))) (fun n4 D2 => (if n4 = 1 then some (0, some (.int (1 : Int32)), D2) else (if n4 = 2 then some (0, some (.int (2 : Int32)), D2) else none))))
set_option maxRecDepth 100000 in
set_option maxHeartbeats 4000000 in
theorem c_L_hardnessOf (l : Launch) (hfl : l.stackTraces = false) (G : va_G) (E : EE) (a1 : Int32) (a2 : Int32) (D : DD) (r : RT) (h : S_L_hardnessOf a1 a2 D = some r) : MW l G E yL_hardnessOf cL_hardnessOf 5 (some .int) [(0, 10, 13, 13), (0, 10, 17, 15)] (rmx 7) [.ref (E.1 0), .int a1, .int a2, .ref (E.1 99)] D r := by
  refine mw_of rfl (Nat.le_of_ble_eq_true rfl) ?_
  intro p e s m args below meth c X hr htab
  unfold S_L_hardnessOf at h
  refine g_aload_n X 3 (i0 := 3) dL_hardnessOf_0 rfl rfl ?_
  refine g_iconst X (v := (0 : Int32)) dL_hardnessOf_1 (by decide) ?_
  refine g_aload_n X 0 (i0 := 0) dL_hardnessOf_2 rfl rfl ?_
  refine g_iload_n X 1 (i0 := 1) dL_hardnessOf_3 rfl rfl ?_
  refine g_iload_n X 2 (i0 := 2) dL_hardnessOf_4 rfl rfl ?_
  rcases cX_s h with ⟨v3, D2, e1, h⟩ | ⟨n4, v3, D2, e1, e1n, h⟩
  · obtain ⟨r5, e6, h⟩ := vI_s h
    subst e6
    refine gx_V X (As := [.int a1, .int a2]) (rest := [.int (0 : Int32), .ref (E.1 99)]) (c_X12_hardnessOf l hfl G E a1 a2 _ _ e1) 0 (wg_0 E _) rfl rfl kv_L_23 ⟨rfl, rfl⟩ ⟨rfl, hd_X12_hardnessOf⟩ (⟨Nat.le_of_ble_eq_true rfl, Nat.le_of_ble_eq_true rfl⟩) (⟨Nat.le_of_ble_eq_true rfl, Nat.le_of_ble_eq_true rfl⟩) rfl rfl (Nat.le_of_ble_eq_true rfl) dL_hardnessOf_5 (fun _ => ?_) (fun q => absurd rfl q)
    refine g_i2l X dL_hardnessOf_8 ?_
    refine g_last X (D := D2) (f := (D2.2.2.2.1 0)) (i := (0 : Int32)) (x := r5.toInt64) (D' := (setB D2 0 (vp_updL (D2.2.2.2.1 0) (0 : Int32).toNatClampNeg r5.toInt64))) 99 (wg_99 E _) (inB_vp (by decide)) (ws_B_0 E _ _) dL_hardnessOf_9 ?_
    refine g_goto X (tgt := 21) dL_hardnessOf_10 (by decide) ?_
    refine g_iconst X (v := (0 : Int32)) dL_hardnessOf_21 (by decide) ?_
    exact g_iret X hr rfl dL_hardnessOf_22 (Option.some.inj h)
  · by_cases u7 : n4 = 1
    · have hh := (ite_s h).1 u7
      clear h
      subst u7
      have h := hh
      clear hh
      refine gx_V X (As := [.int a1, .int a2]) (rest := [.int (0 : Int32), .ref (E.1 99)]) (c_X12_hardnessOf l hfl G E a1 a2 _ _ e1) 0 (wg_0 E _) rfl rfl kv_L_23 ⟨rfl, rfl⟩ ⟨rfl, hd_X12_hardnessOf⟩ (⟨Nat.le_of_ble_eq_true rfl, Nat.le_of_ble_eq_true rfl⟩) (⟨Nat.le_of_ble_eq_true rfl, Nat.le_of_ble_eq_true rfl⟩) rfl rfl (Nat.le_of_ble_eq_true rfl) dL_hardnessOf_5 (fun q => absurd q (show ¬ (1 : Nat) = 0 by decide)) (fun _ => ⟨[], ⟨0, 10, 13, 13⟩, [⟨0, 10, 17, 15⟩], "java/lang/IllegalArgumentException", htab, (fun z hz => absurd hz List.not_mem_nil), by decide, by decide, wcl_L_13, wca_1, fun z8 => ?_⟩)
      refine g_astore X (lv' := [(4, .ref z8), (0, .ref (E.1 0)), (1, .int a1), (2, .int a2), (3, .ref (E.1 99))]) dL_hardnessOf_13 (by decide) rfl ?_
      refine g_iconst X (v := (1 : Int32)) dL_hardnessOf_15 (by decide) ?_
      exact g_iret X hr rfl dL_hardnessOf_16 (Option.some.inj h)
    have h := (ite_s h).2 u7
    by_cases u9 : n4 = 2
    · have hh := (ite_s h).1 u9
      clear h
      subst u9
      have h := hh
      clear hh
      refine gx_V X (As := [.int a1, .int a2]) (rest := [.int (0 : Int32), .ref (E.1 99)]) (c_X12_hardnessOf l hfl G E a1 a2 _ _ e1) 0 (wg_0 E _) rfl rfl kv_L_23 ⟨rfl, rfl⟩ ⟨rfl, hd_X12_hardnessOf⟩ (⟨Nat.le_of_ble_eq_true rfl, Nat.le_of_ble_eq_true rfl⟩) (⟨Nat.le_of_ble_eq_true rfl, Nat.le_of_ble_eq_true rfl⟩) rfl rfl (Nat.le_of_ble_eq_true rfl) dL_hardnessOf_5 (fun q => absurd q (show ¬ (2 : Nat) = 0 by decide)) (fun _ => ⟨[⟨0, 10, 13, 13⟩], ⟨0, 10, 17, 15⟩, [], "java/lang/IllegalStateException", htab, (fun z hz => by rw [List.mem_singleton.mp hz]; exact Or.inr ⟨by decide, "java/lang/IllegalArgumentException", wcl_L_13, (show (exN 2, "java/lang/IllegalArgumentException") ∈ NCS by decide +kernel)⟩), by decide, by decide, wcl_L_15, wca_2, fun z10 => ?_⟩)
      refine g_astore X (lv' := [(4, .ref z10), (0, .ref (E.1 0)), (1, .int a1), (2, .int a2), (3, .ref (E.1 99))]) dL_hardnessOf_17 (by decide) rfl ?_
      refine g_iconst X (v := (2 : Int32)) dL_hardnessOf_19 (by decide) ?_
      exact g_iret X hr rfl dL_hardnessOf_20 (Option.some.inj h)
    have h := (ite_s h).2 u9
    cases h
theorem hd_X12_isOpen : yX12_isOpen.cls ≠ "java/lang/invoke/MethodHandle" ∧ yX12_isOpen.cls ≠ "java/lang/invoke/VarHandle" ∧ (parseMethodDescriptor yX12_isOpen.desc).map (fun d => d.parameters.length) = some 2 := by decide +kernel
theorem wc_X12_isOpen : Cond.code yX12_isOpen cX12_isOpen 4 (some .boolean) ∈ UT := ut 814 (by decide +kernel) (by decide +kernel)
theorem we_X12_isOpen : Cond.selects RX12 yX12_isOpen yX12_isOpen ∈ UT := ut 813 (by decide +kernel) (by decide +kernel)
theorem wm_X12_isOpen : Cond.instanceMethod yX12_isOpen ∈ UT := ut 812 (by decide +kernel) (by decide +kernel)
theorem kv_L_27 : GoodIn UT (wsV RL 27 RX12 yX12_isOpen (Cond.code yX12_isOpen cX12_isOpen 4 (some .boolean) :: UT)) := gu_V (ut 811 (by decide +kernel) (by decide +kernel)) wm_X12_isOpen we_X12_isOpen wi_RX12 wc_X12_isOpen
def S_L_isOpen (a1 : Int32) (a2 : Int32) (D : DD) : Option RT := (cX (S_X12_isOpen a1 a2 D) (fun v3 D2 => (vI v3 (fun r5 => (if r5 = 0 then some (0, some (.int (0 : Int32)), (setB D2 0 (vp_updL (D2.2.2.2.1 0) (0 : Int32).toNatClampNeg (0 : Int64)))) else some (0, some (.int (0 : Int32)), (setB D2 0 (vp_updL (D2.2.2.2.1 0) (0 : Int32).toNatClampNeg (1 : Int64)))))))) (fun n4 D2 => (if n4 = 1 then some (0, some (.int (1 : Int32)), D2) else none)))
set_option maxRecDepth 100000 in
set_option maxHeartbeats 4000000 in
theorem c_L_isOpen (l : Launch) (hfl : l.stackTraces = false) (G : va_G) (E : EE) (a1 : Int32) (a2 : Int32) (D : DD) (r : RT) (h : S_L_isOpen a1 a2 D = some r) : MW l G E yL_isOpen cL_isOpen 5 (some .int) [(0, 17, 20, 13)] (rmx 7) [.ref (E.1 0), .int a1, .int a2, .ref (E.1 99)] D r := by
  refine mw_of rfl (Nat.le_of_ble_eq_true rfl) ?_
  intro p e s m args below meth c X hr htab
  unfold S_L_isOpen at h
  refine g_aload_n X 3 (i0 := 3) dL_isOpen_0 rfl rfl ?_
  refine g_iconst X (v := (0 : Int32)) dL_isOpen_1 (by decide) ?_
  refine g_aload_n X 0 (i0 := 0) dL_isOpen_2 rfl rfl ?_
  refine g_iload_n X 1 (i0 := 1) dL_isOpen_3 rfl rfl ?_
  refine g_iload_n X 2 (i0 := 2) dL_isOpen_4 rfl rfl ?_
  rcases cX_s h with ⟨v3, D2, e1, h⟩ | ⟨n4, v3, D2, e1, e1n, h⟩
  · obtain ⟨r5, e6, h⟩ := vI_s h
    subst e6
    refine gx_V X (As := [.int a1, .int a2]) (rest := [.int (0 : Int32), .ref (E.1 99)]) (c_X12_isOpen l hfl G E a1 a2 _ _ e1) 0 (wg_0 E _) rfl rfl kv_L_27 ⟨rfl, rfl⟩ ⟨rfl, hd_X12_isOpen⟩ (⟨Nat.le_of_ble_eq_true rfl, Nat.le_of_ble_eq_true rfl⟩) (⟨Nat.le_of_ble_eq_true rfl, Nat.le_of_ble_eq_true rfl⟩) rfl rfl (Nat.le_of_ble_eq_true rfl) dL_isOpen_5 (fun _ => ?_) (fun q => absurd rfl q)
    refine g_if_eq X (tgt := 15) dL_isOpen_8 (by decide) (fun c7 => ?_) (fun c7 => ?_)
    · have h := (ite_s h).1 c7
      refine g_lconst X (v := (0 : Int64)) dL_isOpen_15 (by decide) ?_
      refine g_last X (D := D2) (f := (D2.2.2.2.1 0)) (i := (0 : Int32)) (x := (0 : Int64)) (D' := (setB D2 0 (vp_updL (D2.2.2.2.1 0) (0 : Int32).toNatClampNeg (0 : Int64)))) 99 (wg_99 E _) (inB_vp (by decide)) (ws_B_0 E _ _) dL_isOpen_16 ?_
      refine g_goto X (tgt := 24) dL_isOpen_17 (by decide) ?_
      refine g_iconst X (v := (0 : Int32)) dL_isOpen_24 (by decide) ?_
      exact g_iret X hr rfl dL_isOpen_25 (Option.some.inj h)
    · have h := (ite_s h).2 c7
      refine g_lconst X (v := (1 : Int64)) dL_isOpen_11 (by decide) ?_
      refine g_goto X (tgt := 16) dL_isOpen_12 (by decide) ?_
      refine g_last X (D := D2) (f := (D2.2.2.2.1 0)) (i := (0 : Int32)) (x := (1 : Int64)) (D' := (setB D2 0 (vp_updL (D2.2.2.2.1 0) (0 : Int32).toNatClampNeg (1 : Int64)))) 99 (wg_99 E _) (inB_vp (by decide)) (ws_B_0 E _ _) dL_isOpen_16 ?_
      refine g_goto X (tgt := 24) dL_isOpen_17 (by decide) ?_
      refine g_iconst X (v := (0 : Int32)) dL_isOpen_24 (by decide) ?_
      exact g_iret X hr rfl dL_isOpen_25 (Option.some.inj h)
  · by_cases u8 : n4 = 1
    · have hh := (ite_s h).1 u8
      clear h
      subst u8
      have h := hh
      clear hh
      refine gx_V X (As := [.int a1, .int a2]) (rest := [.int (0 : Int32), .ref (E.1 99)]) (c_X12_isOpen l hfl G E a1 a2 _ _ e1) 0 (wg_0 E _) rfl rfl kv_L_27 ⟨rfl, rfl⟩ ⟨rfl, hd_X12_isOpen⟩ (⟨Nat.le_of_ble_eq_true rfl, Nat.le_of_ble_eq_true rfl⟩) (⟨Nat.le_of_ble_eq_true rfl, Nat.le_of_ble_eq_true rfl⟩) rfl rfl (Nat.le_of_ble_eq_true rfl) dL_isOpen_5 (fun q => absurd q (show ¬ (1 : Nat) = 0 by decide)) (fun _ => ⟨[], ⟨0, 17, 20, 13⟩, [], "java/lang/IllegalArgumentException", htab, (fun z hz => absurd hz List.not_mem_nil), by decide, by decide, wcl_L_13, wca_1, fun z9 => ?_⟩)
      refine g_astore X (lv' := [(4, .ref z9), (0, .ref (E.1 0)), (1, .int a1), (2, .int a2), (3, .ref (E.1 99))]) dL_isOpen_20 (by decide) rfl ?_
      refine g_iconst X (v := (1 : Int32)) dL_isOpen_22 (by decide) ?_
      exact g_iret X hr rfl dL_isOpen_23 (Option.some.inj h)
    have h := (ite_s h).2 u8
    cases h
theorem hd_X12_veinCount : yX12_veinCount.cls ≠ "java/lang/invoke/MethodHandle" ∧ yX12_veinCount.cls ≠ "java/lang/invoke/VarHandle" ∧ (parseMethodDescriptor yX12_veinCount.desc).map (fun d => d.parameters.length) = some 1 := by decide +kernel
theorem wc_X12_veinCount : Cond.code yX12_veinCount cX12_veinCount 2 (some .int) ∈ UT := ut 821 (by decide +kernel) (by decide +kernel)
theorem we_X12_veinCount : Cond.selects RX12 yX12_veinCount yX12_veinCount ∈ UT := ut 820 (by decide +kernel) (by decide +kernel)
theorem wm_X12_veinCount : Cond.instanceMethod yX12_veinCount ∈ UT := ut 819 (by decide +kernel) (by decide +kernel)
theorem kv_L_31 : GoodIn UT (wsV RL 31 RX12 yX12_veinCount (Cond.code yX12_veinCount cX12_veinCount 2 (some .int) :: UT)) := gu_V (ut 818 (by decide +kernel) (by decide +kernel)) wm_X12_veinCount we_X12_veinCount wi_RX12 wc_X12_veinCount
def S_L_veinCount (a1 : Int32) (D : DD) : Option RT := (cX (S_X12_veinCount a1 D) (fun v3 D2 => (vI v3 (fun r5 => some (0, some (.int (0 : Int32)), (setB D2 0 (vp_updL (D2.2.2.2.1 0) (0 : Int32).toNatClampNeg r5.toInt64)))))) (fun n4 D2 => (if n4 = 1 then some (0, some (.int (1 : Int32)), D2) else none)))
set_option maxRecDepth 100000 in
set_option maxHeartbeats 4000000 in
theorem c_L_veinCount (l : Launch) (hfl : l.stackTraces = false) (G : va_G) (E : EE) (a1 : Int32) (D : DD) (r : RT) (h : S_L_veinCount a1 D = some r) : MW l G E yL_veinCount cL_veinCount 4 (some .int) [(0, 9, 12, 13)] (rmx 7) [.ref (E.1 0), .int a1, .ref (E.1 99)] D r := by
  refine mw_of rfl (Nat.le_of_ble_eq_true rfl) ?_
  intro p e s m args below meth c X hr htab
  unfold S_L_veinCount at h
  refine g_aload_n X 2 (i0 := 2) dL_veinCount_0 rfl rfl ?_
  refine g_iconst X (v := (0 : Int32)) dL_veinCount_1 (by decide) ?_
  refine g_aload_n X 0 (i0 := 0) dL_veinCount_2 rfl rfl ?_
  refine g_iload_n X 1 (i0 := 1) dL_veinCount_3 rfl rfl ?_
  rcases cX_s h with ⟨v3, D2, e1, h⟩ | ⟨n4, v3, D2, e1, e1n, h⟩
  · obtain ⟨r5, e6, h⟩ := vI_s h
    subst e6
    refine gx_V X (As := [.int a1]) (rest := [.int (0 : Int32), .ref (E.1 99)]) (c_X12_veinCount l hfl G E a1 _ _ e1) 0 (wg_0 E _) rfl rfl kv_L_31 ⟨rfl, rfl⟩ ⟨rfl, hd_X12_veinCount⟩ (⟨Nat.le_of_ble_eq_true rfl, Nat.le_of_ble_eq_true rfl⟩) (⟨Nat.le_of_ble_eq_true rfl, Nat.le_of_ble_eq_true rfl⟩) rfl rfl (Nat.le_of_ble_eq_true rfl) dL_veinCount_4 (fun _ => ?_) (fun q => absurd rfl q)
    refine g_i2l X dL_veinCount_7 ?_
    refine g_last X (D := D2) (f := (D2.2.2.2.1 0)) (i := (0 : Int32)) (x := r5.toInt64) (D' := (setB D2 0 (vp_updL (D2.2.2.2.1 0) (0 : Int32).toNatClampNeg r5.toInt64))) 99 (wg_99 E _) (inB_vp (by decide)) (ws_B_0 E _ _) dL_veinCount_8 ?_
    refine g_goto X (tgt := 15) dL_veinCount_9 (by decide) ?_
    refine g_iconst X (v := (0 : Int32)) dL_veinCount_15 (by decide) ?_
    exact g_iret X hr rfl dL_veinCount_16 (Option.some.inj h)
  · by_cases u7 : n4 = 1
    · have hh := (ite_s h).1 u7
      clear h
      subst u7
      have h := hh
      clear hh
      refine gx_V X (As := [.int a1]) (rest := [.int (0 : Int32), .ref (E.1 99)]) (c_X12_veinCount l hfl G E a1 _ _ e1) 0 (wg_0 E _) rfl rfl kv_L_31 ⟨rfl, rfl⟩ ⟨rfl, hd_X12_veinCount⟩ (⟨Nat.le_of_ble_eq_true rfl, Nat.le_of_ble_eq_true rfl⟩) (⟨Nat.le_of_ble_eq_true rfl, Nat.le_of_ble_eq_true rfl⟩) rfl rfl (Nat.le_of_ble_eq_true rfl) dL_veinCount_4 (fun q => absurd q (show ¬ (1 : Nat) = 0 by decide)) (fun _ => ⟨[], ⟨0, 9, 12, 13⟩, [], "java/lang/IllegalArgumentException", htab, (fun z hz => absurd hz List.not_mem_nil), by decide, by decide, wcl_L_13, wca_1, fun z8 => ?_⟩)
      refine g_astore_n X (i0 := 3) (lv' := [(3, .ref z8), (0, .ref (E.1 0)), (1, .int a1), (2, .ref (E.1 99))]) dL_veinCount_12 rfl (by decide) rfl ?_
      refine g_iconst X (v := (1 : Int32)) dL_veinCount_13 (by decide) ?_
      exact g_iret X hr rfl dL_veinCount_14 (Option.some.inj h)
    have h := (ite_s h).2 u7
    cases h
theorem hd_X12_veinSize : yX12_veinSize.cls ≠ "java/lang/invoke/MethodHandle" ∧ yX12_veinSize.cls ≠ "java/lang/invoke/VarHandle" ∧ (parseMethodDescriptor yX12_veinSize.desc).map (fun d => d.parameters.length) = some 2 := by decide +kernel
theorem wc_X12_veinSize : Cond.code yX12_veinSize cX12_veinSize 4 (some .int) ∈ UT := ut 851 (by decide +kernel) (by decide +kernel)
theorem we_X12_veinSize : Cond.selects RX12 yX12_veinSize yX12_veinSize ∈ UT := ut 850 (by decide +kernel) (by decide +kernel)
theorem wm_X12_veinSize : Cond.instanceMethod yX12_veinSize ∈ UT := ut 849 (by decide +kernel) (by decide +kernel)
theorem kv_L_35 : GoodIn UT (wsV RL 35 RX12 yX12_veinSize (Cond.code yX12_veinSize cX12_veinSize 4 (some .int) :: UT)) := gu_V (ut 848 (by decide +kernel) (by decide +kernel)) wm_X12_veinSize we_X12_veinSize wi_RX12 wc_X12_veinSize
def S_L_veinSize (a1 : Int32) (a2 : Int32) (D : DD) : Option RT := (cX (S_X12_veinSize a1 a2 D) (fun v3 D2 => (vI v3 (fun r5 => some (0, some (.int (0 : Int32)), (setB D2 0 (vp_updL (D2.2.2.2.1 0) (0 : Int32).toNatClampNeg r5.toInt64)))))) (fun n4 D2 => (if n4 = 1 then some (0, some (.int (1 : Int32)), D2) else (if n4 = 2 then some (0, some (.int (2 : Int32)), D2) else none))))
set_option maxRecDepth 100000 in
set_option maxHeartbeats 4000000 in
theorem c_L_veinSize (l : Launch) (hfl : l.stackTraces = false) (G : va_G) (E : EE) (a1 : Int32) (a2 : Int32) (D : DD) (r : RT) (h : S_L_veinSize a1 a2 D = some r) : MW l G E yL_veinSize cL_veinSize 5 (some .int) [(0, 10, 13, 13), (0, 10, 17, 15)] (rmx 7) [.ref (E.1 0), .int a1, .int a2, .ref (E.1 99)] D r := by
  refine mw_of rfl (Nat.le_of_ble_eq_true rfl) ?_
  intro p e s m args below meth c X hr htab
  unfold S_L_veinSize at h
  refine g_aload_n X 3 (i0 := 3) dL_veinSize_0 rfl rfl ?_
  refine g_iconst X (v := (0 : Int32)) dL_veinSize_1 (by decide) ?_
  refine g_aload_n X 0 (i0 := 0) dL_veinSize_2 rfl rfl ?_
  refine g_iload_n X 1 (i0 := 1) dL_veinSize_3 rfl rfl ?_
  refine g_iload_n X 2 (i0 := 2) dL_veinSize_4 rfl rfl ?_
  rcases cX_s h with ⟨v3, D2, e1, h⟩ | ⟨n4, v3, D2, e1, e1n, h⟩
  · obtain ⟨r5, e6, h⟩ := vI_s h
    subst e6
    refine gx_V X (As := [.int a1, .int a2]) (rest := [.int (0 : Int32), .ref (E.1 99)]) (c_X12_veinSize l hfl G E a1 a2 _ _ e1) 0 (wg_0 E _) rfl rfl kv_L_35 ⟨rfl, rfl⟩ ⟨rfl, hd_X12_veinSize⟩ (⟨Nat.le_of_ble_eq_true rfl, Nat.le_of_ble_eq_true rfl⟩) (⟨Nat.le_of_ble_eq_true rfl, Nat.le_of_ble_eq_true rfl⟩) rfl rfl (Nat.le_of_ble_eq_true rfl) dL_veinSize_5 (fun _ => ?_) (fun q => absurd rfl q)
    refine g_i2l X dL_veinSize_8 ?_
    refine g_last X (D := D2) (f := (D2.2.2.2.1 0)) (i := (0 : Int32)) (x := r5.toInt64) (D' := (setB D2 0 (vp_updL (D2.2.2.2.1 0) (0 : Int32).toNatClampNeg r5.toInt64))) 99 (wg_99 E _) (inB_vp (by decide)) (ws_B_0 E _ _) dL_veinSize_9 ?_
    refine g_goto X (tgt := 21) dL_veinSize_10 (by decide) ?_
    refine g_iconst X (v := (0 : Int32)) dL_veinSize_21 (by decide) ?_
    exact g_iret X hr rfl dL_veinSize_22 (Option.some.inj h)
  · by_cases u7 : n4 = 1
    · have hh := (ite_s h).1 u7
      clear h
      subst u7
      have h := hh
      clear hh
      refine gx_V X (As := [.int a1, .int a2]) (rest := [.int (0 : Int32), .ref (E.1 99)]) (c_X12_veinSize l hfl G E a1 a2 _ _ e1) 0 (wg_0 E _) rfl rfl kv_L_35 ⟨rfl, rfl⟩ ⟨rfl, hd_X12_veinSize⟩ (⟨Nat.le_of_ble_eq_true rfl, Nat.le_of_ble_eq_true rfl⟩) (⟨Nat.le_of_ble_eq_true rfl, Nat.le_of_ble_eq_true rfl⟩) rfl rfl (Nat.le_of_ble_eq_true rfl) dL_veinSize_5 (fun q => absurd q (show ¬ (1 : Nat) = 0 by decide)) (fun _ => ⟨[], ⟨0, 10, 13, 13⟩, [⟨0, 10, 17, 15⟩], "java/lang/IllegalArgumentException", htab, (fun z hz => absurd hz List.not_mem_nil), by decide, by decide, wcl_L_13, wca_1, fun z8 => ?_⟩)
      refine g_astore X (lv' := [(4, .ref z8), (0, .ref (E.1 0)), (1, .int a1), (2, .int a2), (3, .ref (E.1 99))]) dL_veinSize_13 (by decide) rfl ?_
      refine g_iconst X (v := (1 : Int32)) dL_veinSize_15 (by decide) ?_
      exact g_iret X hr rfl dL_veinSize_16 (Option.some.inj h)
    have h := (ite_s h).2 u7
    by_cases u9 : n4 = 2
    · have hh := (ite_s h).1 u9
      clear h
      subst u9
      have h := hh
      clear hh
      refine gx_V X (As := [.int a1, .int a2]) (rest := [.int (0 : Int32), .ref (E.1 99)]) (c_X12_veinSize l hfl G E a1 a2 _ _ e1) 0 (wg_0 E _) rfl rfl kv_L_35 ⟨rfl, rfl⟩ ⟨rfl, hd_X12_veinSize⟩ (⟨Nat.le_of_ble_eq_true rfl, Nat.le_of_ble_eq_true rfl⟩) (⟨Nat.le_of_ble_eq_true rfl, Nat.le_of_ble_eq_true rfl⟩) rfl rfl (Nat.le_of_ble_eq_true rfl) dL_veinSize_5 (fun q => absurd q (show ¬ (2 : Nat) = 0 by decide)) (fun _ => ⟨[⟨0, 10, 13, 13⟩], ⟨0, 10, 17, 15⟩, [], "java/lang/IllegalStateException", htab, (fun z hz => by rw [List.mem_singleton.mp hz]; exact Or.inr ⟨by decide, "java/lang/IllegalArgumentException", wcl_L_13, (show (exN 2, "java/lang/IllegalArgumentException") ∈ NCS by decide +kernel)⟩), by decide, by decide, wcl_L_15, wca_2, fun z10 => ?_⟩)
      refine g_astore X (lv' := [(4, .ref z10), (0, .ref (E.1 0)), (1, .int a1), (2, .int a2), (3, .ref (E.1 99))]) dL_veinSize_17 (by decide) rfl ?_
      refine g_iconst X (v := (2 : Int32)) dL_veinSize_19 (by decide) ?_
      exact g_iret X hr rfl dL_veinSize_20 (Option.some.inj h)
    have h := (ite_s h).2 u9
    cases h
theorem hd_X12_addCharge : yX12_addCharge.cls ≠ "java/lang/invoke/MethodHandle" ∧ yX12_addCharge.cls ≠ "java/lang/invoke/VarHandle" ∧ (parseMethodDescriptor yX12_addCharge.desc).map (fun d => d.parameters.length) = some 3 := by decide +kernel
theorem wc_X12_addCharge : Cond.code yX12_addCharge cX12_addCharge 5 (some .int) ∈ UT := ut 862 (by decide +kernel) (by decide +kernel)
theorem we_X12_addCharge : Cond.selects RX12 yX12_addCharge yX12_addCharge ∈ UT := ut 861 (by decide +kernel) (by decide +kernel)
theorem wm_X12_addCharge : Cond.instanceMethod yX12_addCharge ∈ UT := ut 860 (by decide +kernel) (by decide +kernel)
theorem kv_L_38 : GoodIn UT (wsV RL 38 RX12 yX12_addCharge (Cond.code yX12_addCharge cX12_addCharge 5 (some .int) :: UT)) := gu_V (ut 859 (by decide +kernel) (by decide +kernel)) wm_X12_addCharge we_X12_addCharge wi_RX12 wc_X12_addCharge
def S_L_addCharge (a1 : Int32) (a2 : Int32) (a3 : Int32) (D : DD) : Option RT := (cX (S_X12_addCharge a1 a2 a3 D) (fun v3 D2 => (vI v3 (fun r5 => some (0, some (.int (0 : Int32)), (setB D2 0 (vp_updL (D2.2.2.2.1 0) (0 : Int32).toNatClampNeg r5.toInt64)))))) (fun n4 D2 => (if n4 = 1 then some (0, some (.int (1 : Int32)), D2) else (if n4 = 2 then some (0, some (.int (2 : Int32)), D2) else none))))
set_option maxRecDepth 100000 in
set_option maxHeartbeats 4000000 in
theorem c_L_addCharge (l : Launch) (hfl : l.stackTraces = false) (G : va_G) (E : EE) (a1 : Int32) (a2 : Int32) (a3 : Int32) (D : DD) (r : RT) (h : S_L_addCharge a1 a2 a3 D = some r) : MW l G E yL_addCharge cL_addCharge 6 (some .int) [(0, 12, 15, 13), (0, 12, 19, 15)] (rmx 7) [.ref (E.1 0), .int a1, .int a2, .int a3, .ref (E.1 99)] D r := by
  refine mw_of rfl (Nat.le_of_ble_eq_true rfl) ?_
  intro p e s m args below meth c X hr htab
  unfold S_L_addCharge at h
  refine g_aload X 4 dL_addCharge_0 rfl ?_
  refine g_iconst X (v := (0 : Int32)) dL_addCharge_2 (by decide) ?_
  refine g_aload_n X 0 (i0 := 0) dL_addCharge_3 rfl rfl ?_
  refine g_iload_n X 1 (i0 := 1) dL_addCharge_4 rfl rfl ?_
  refine g_iload_n X 2 (i0 := 2) dL_addCharge_5 rfl rfl ?_
  refine g_iload_n X 3 (i0 := 3) dL_addCharge_6 rfl rfl ?_
  rcases cX_s h with ⟨v3, D2, e1, h⟩ | ⟨n4, v3, D2, e1, e1n, h⟩
  · obtain ⟨r5, e6, h⟩ := vI_s h
    subst e6
    refine gx_V X (As := [.int a1, .int a2, .int a3]) (rest := [.int (0 : Int32), .ref (E.1 99)]) (c_X12_addCharge l hfl G E a1 a2 a3 _ _ e1) 0 (wg_0 E _) rfl rfl kv_L_38 ⟨rfl, rfl⟩ ⟨rfl, hd_X12_addCharge⟩ (⟨Nat.le_of_ble_eq_true rfl, Nat.le_of_ble_eq_true rfl⟩) (⟨Nat.le_of_ble_eq_true rfl, Nat.le_of_ble_eq_true rfl⟩) rfl rfl (Nat.le_of_ble_eq_true rfl) dL_addCharge_7 (fun _ => ?_) (fun q => absurd rfl q)
    refine g_i2l X dL_addCharge_10 ?_
    refine g_last X (D := D2) (f := (D2.2.2.2.1 0)) (i := (0 : Int32)) (x := r5.toInt64) (D' := (setB D2 0 (vp_updL (D2.2.2.2.1 0) (0 : Int32).toNatClampNeg r5.toInt64))) 99 (wg_99 E _) (inB_vp (by decide)) (ws_B_0 E _ _) dL_addCharge_11 ?_
    refine g_goto X (tgt := 23) dL_addCharge_12 (by decide) ?_
    refine g_iconst X (v := (0 : Int32)) dL_addCharge_23 (by decide) ?_
    exact g_iret X hr rfl dL_addCharge_24 (Option.some.inj h)
  · by_cases u7 : n4 = 1
    · have hh := (ite_s h).1 u7
      clear h
      subst u7
      have h := hh
      clear hh
      refine gx_V X (As := [.int a1, .int a2, .int a3]) (rest := [.int (0 : Int32), .ref (E.1 99)]) (c_X12_addCharge l hfl G E a1 a2 a3 _ _ e1) 0 (wg_0 E _) rfl rfl kv_L_38 ⟨rfl, rfl⟩ ⟨rfl, hd_X12_addCharge⟩ (⟨Nat.le_of_ble_eq_true rfl, Nat.le_of_ble_eq_true rfl⟩) (⟨Nat.le_of_ble_eq_true rfl, Nat.le_of_ble_eq_true rfl⟩) rfl rfl (Nat.le_of_ble_eq_true rfl) dL_addCharge_7 (fun q => absurd q (show ¬ (1 : Nat) = 0 by decide)) (fun _ => ⟨[], ⟨0, 12, 15, 13⟩, [⟨0, 12, 19, 15⟩], "java/lang/IllegalArgumentException", htab, (fun z hz => absurd hz List.not_mem_nil), by decide, by decide, wcl_L_13, wca_1, fun z8 => ?_⟩)
      refine g_astore X (lv' := [(5, .ref z8), (0, .ref (E.1 0)), (1, .int a1), (2, .int a2), (3, .int a3), (4, .ref (E.1 99))]) dL_addCharge_15 (by decide) rfl ?_
      refine g_iconst X (v := (1 : Int32)) dL_addCharge_17 (by decide) ?_
      exact g_iret X hr rfl dL_addCharge_18 (Option.some.inj h)
    have h := (ite_s h).2 u7
    by_cases u9 : n4 = 2
    · have hh := (ite_s h).1 u9
      clear h
      subst u9
      have h := hh
      clear hh
      refine gx_V X (As := [.int a1, .int a2, .int a3]) (rest := [.int (0 : Int32), .ref (E.1 99)]) (c_X12_addCharge l hfl G E a1 a2 a3 _ _ e1) 0 (wg_0 E _) rfl rfl kv_L_38 ⟨rfl, rfl⟩ ⟨rfl, hd_X12_addCharge⟩ (⟨Nat.le_of_ble_eq_true rfl, Nat.le_of_ble_eq_true rfl⟩) (⟨Nat.le_of_ble_eq_true rfl, Nat.le_of_ble_eq_true rfl⟩) rfl rfl (Nat.le_of_ble_eq_true rfl) dL_addCharge_7 (fun q => absurd q (show ¬ (2 : Nat) = 0 by decide)) (fun _ => ⟨[⟨0, 12, 15, 13⟩], ⟨0, 12, 19, 15⟩, [], "java/lang/IllegalStateException", htab, (fun z hz => by rw [List.mem_singleton.mp hz]; exact Or.inr ⟨by decide, "java/lang/IllegalArgumentException", wcl_L_13, (show (exN 2, "java/lang/IllegalArgumentException") ∈ NCS by decide +kernel)⟩), by decide, by decide, wcl_L_15, wca_2, fun z10 => ?_⟩)
      refine g_astore X (lv' := [(5, .ref z10), (0, .ref (E.1 0)), (1, .int a1), (2, .int a2), (3, .int a3), (4, .ref (E.1 99))]) dL_addCharge_19 (by decide) rfl ?_
      refine g_iconst X (v := (2 : Int32)) dL_addCharge_21 (by decide) ?_
      exact g_iret X hr rfl dL_addCharge_22 (Option.some.inj h)
    have h := (ite_s h).2 u9
    cases h
theorem hd_X12_removeCharge : yX12_removeCharge.cls ≠ "java/lang/invoke/MethodHandle" ∧ yX12_removeCharge.cls ≠ "java/lang/invoke/VarHandle" ∧ (parseMethodDescriptor yX12_removeCharge.desc).map (fun d => d.parameters.length) = some 1 := by decide +kernel
theorem wc_X12_removeCharge : Cond.code yX12_removeCharge cX12_removeCharge 2 (some .int) ∈ UT := ut 903 (by decide +kernel) (by decide +kernel)
theorem we_X12_removeCharge : Cond.selects RX12 yX12_removeCharge yX12_removeCharge ∈ UT := ut 902 (by decide +kernel) (by decide +kernel)
theorem wm_X12_removeCharge : Cond.instanceMethod yX12_removeCharge ∈ UT := ut 901 (by decide +kernel) (by decide +kernel)
theorem kv_L_41 : GoodIn UT (wsV RL 41 RX12 yX12_removeCharge (Cond.code yX12_removeCharge cX12_removeCharge 2 (some .int) :: UT)) := gu_V (ut 900 (by decide +kernel) (by decide +kernel)) wm_X12_removeCharge we_X12_removeCharge wi_RX12 wc_X12_removeCharge
theorem wca_4 : Cond.castable (exN 4) "java/lang/IndexOutOfBoundsException" ∈ NEST := nst 907 (by decide +kernel) (by decide +kernel)
theorem wcl_L_44 : Cond.classLink RL 44 "java/lang/IndexOutOfBoundsException" ∈ UT := ut 876 (by decide +kernel) (by decide +kernel)
def S_L_removeCharge (a1 : Int32) (D : DD) : Option RT := (cX (S_X12_removeCharge a1 D) (fun v3 D2 => (vI v3 (fun r5 => some (0, some (.int (0 : Int32)), (setB D2 0 (vp_updL (D2.2.2.2.1 0) (0 : Int32).toNatClampNeg r5.toInt64)))))) (fun n4 D2 => (if n4 = 4 then some (0, some (.int (1 : Int32)), D2) else none)))
set_option maxRecDepth 100000 in
set_option maxHeartbeats 4000000 in
theorem c_L_removeCharge (l : Launch) (hfl : l.stackTraces = false) (G : va_G) (E : EE) (a1 : Int32) (D : DD) (r : RT) (h : S_L_removeCharge a1 D = some r) : MW l G E yL_removeCharge cL_removeCharge 4 (some .int) [(0, 9, 12, 44)] (rmx 7) [.ref (E.1 0), .int a1, .ref (E.1 99)] D r := by
  refine mw_of rfl (Nat.le_of_ble_eq_true rfl) ?_
  intro p e s m args below meth c X hr htab
  unfold S_L_removeCharge at h
  refine g_aload_n X 2 (i0 := 2) dL_removeCharge_0 rfl rfl ?_
  refine g_iconst X (v := (0 : Int32)) dL_removeCharge_1 (by decide) ?_
  refine g_aload_n X 0 (i0 := 0) dL_removeCharge_2 rfl rfl ?_
  refine g_iload_n X 1 (i0 := 1) dL_removeCharge_3 rfl rfl ?_
  rcases cX_s h with ⟨v3, D2, e1, h⟩ | ⟨n4, v3, D2, e1, e1n, h⟩
  · obtain ⟨r5, e6, h⟩ := vI_s h
    subst e6
    refine gx_V X (As := [.int a1]) (rest := [.int (0 : Int32), .ref (E.1 99)]) (c_X12_removeCharge l hfl G E a1 _ _ e1) 0 (wg_0 E _) rfl rfl kv_L_41 ⟨rfl, rfl⟩ ⟨rfl, hd_X12_removeCharge⟩ (⟨Nat.le_of_ble_eq_true rfl, Nat.le_of_ble_eq_true rfl⟩) (⟨Nat.le_of_ble_eq_true rfl, Nat.le_of_ble_eq_true rfl⟩) rfl rfl (Nat.le_of_ble_eq_true rfl) dL_removeCharge_4 (fun _ => ?_) (fun q => absurd rfl q)
    refine g_i2l X dL_removeCharge_7 ?_
    refine g_last X (D := D2) (f := (D2.2.2.2.1 0)) (i := (0 : Int32)) (x := r5.toInt64) (D' := (setB D2 0 (vp_updL (D2.2.2.2.1 0) (0 : Int32).toNatClampNeg r5.toInt64))) 99 (wg_99 E _) (inB_vp (by decide)) (ws_B_0 E _ _) dL_removeCharge_8 ?_
    refine g_goto X (tgt := 15) dL_removeCharge_9 (by decide) ?_
    refine g_iconst X (v := (0 : Int32)) dL_removeCharge_15 (by decide) ?_
    exact g_iret X hr rfl dL_removeCharge_16 (Option.some.inj h)
  · by_cases u7 : n4 = 4
    · have hh := (ite_s h).1 u7
      clear h
      subst u7
      have h := hh
      clear hh
      refine gx_V X (As := [.int a1]) (rest := [.int (0 : Int32), .ref (E.1 99)]) (c_X12_removeCharge l hfl G E a1 _ _ e1) 0 (wg_0 E _) rfl rfl kv_L_41 ⟨rfl, rfl⟩ ⟨rfl, hd_X12_removeCharge⟩ (⟨Nat.le_of_ble_eq_true rfl, Nat.le_of_ble_eq_true rfl⟩) (⟨Nat.le_of_ble_eq_true rfl, Nat.le_of_ble_eq_true rfl⟩) rfl rfl (Nat.le_of_ble_eq_true rfl) dL_removeCharge_4 (fun q => absurd q (show ¬ (4 : Nat) = 0 by decide)) (fun _ => ⟨[], ⟨0, 9, 12, 44⟩, [], "java/lang/IndexOutOfBoundsException", htab, (fun z hz => absurd hz List.not_mem_nil), by decide, by decide, wcl_L_44, wca_4, fun z8 => ?_⟩)
      refine g_astore_n X (i0 := 3) (lv' := [(3, .ref z8), (0, .ref (E.1 0)), (1, .int a1), (2, .ref (E.1 99))]) dL_removeCharge_12 rfl (by decide) rfl ?_
      refine g_iconst X (v := (1 : Int32)) dL_removeCharge_13 (by decide) ?_
      exact g_iret X hr rfl dL_removeCharge_14 (Option.some.inj h)
    have h := (ite_s h).2 u7
    cases h
theorem hd_X12_ignite : yX12_ignite.cls ≠ "java/lang/invoke/MethodHandle" ∧ yX12_ignite.cls ≠ "java/lang/invoke/VarHandle" ∧ (parseMethodDescriptor yX12_ignite.desc).map (fun d => d.parameters.length) = some 1 := by decide +kernel
theorem wc_X12_ignite : Cond.code yX12_ignite cX12_ignite 2 (some .int) ∈ UT := ut 932 (by decide +kernel) (by decide +kernel)
theorem we_X12_ignite : Cond.selects RX12 yX12_ignite yX12_ignite ∈ UT := ut 931 (by decide +kernel) (by decide +kernel)
theorem wm_X12_ignite : Cond.instanceMethod yX12_ignite ∈ UT := ut 930 (by decide +kernel) (by decide +kernel)
theorem kv_L_46 : GoodIn UT (wsV RL 46 RX12 yX12_ignite (Cond.code yX12_ignite cX12_ignite 2 (some .int) :: UT)) := gu_V (ut 929 (by decide +kernel) (by decide +kernel)) wm_X12_ignite we_X12_ignite wi_RX12 wc_X12_ignite
def S_L_ignite (a1 : Int32) (D : DD) : Option RT := (cX (S_X12_ignite a1 D) (fun v3 D2 => (vI v3 (fun r5 => some (0, some (.int (0 : Int32)), (setB D2 0 (vp_updL (D2.2.2.2.1 0) (0 : Int32).toNatClampNeg r5.toInt64)))))) (fun n4 D2 => (if n4 = 4 then some (0, some (.int (1 : Int32)), D2) else none)))
set_option maxRecDepth 100000 in
set_option maxHeartbeats 4000000 in
theorem c_L_ignite (l : Launch) (hfl : l.stackTraces = false) (G : va_G) (E : EE) (a1 : Int32) (D : DD) (r : RT) (h : S_L_ignite a1 D = some r) : MW l G E yL_ignite cL_ignite 4 (some .int) [(0, 9, 12, 44)] (rmx 7) [.ref (E.1 0), .int a1, .ref (E.1 99)] D r := by
  refine mw_of rfl (Nat.le_of_ble_eq_true rfl) ?_
  intro p e s m args below meth c X hr htab
  unfold S_L_ignite at h
  refine g_aload_n X 2 (i0 := 2) dL_ignite_0 rfl rfl ?_
  refine g_iconst X (v := (0 : Int32)) dL_ignite_1 (by decide) ?_
  refine g_aload_n X 0 (i0 := 0) dL_ignite_2 rfl rfl ?_
  refine g_iload_n X 1 (i0 := 1) dL_ignite_3 rfl rfl ?_
  rcases cX_s h with ⟨v3, D2, e1, h⟩ | ⟨n4, v3, D2, e1, e1n, h⟩
  · obtain ⟨r5, e6, h⟩ := vI_s h
    subst e6
    refine gx_V X (As := [.int a1]) (rest := [.int (0 : Int32), .ref (E.1 99)]) (c_X12_ignite l hfl G E a1 _ _ e1) 0 (wg_0 E _) rfl rfl kv_L_46 ⟨rfl, rfl⟩ ⟨rfl, hd_X12_ignite⟩ (⟨Nat.le_of_ble_eq_true rfl, Nat.le_of_ble_eq_true rfl⟩) (⟨Nat.le_of_ble_eq_true rfl, Nat.le_of_ble_eq_true rfl⟩) rfl rfl (Nat.le_of_ble_eq_true rfl) dL_ignite_4 (fun _ => ?_) (fun q => absurd rfl q)
    refine g_i2l X dL_ignite_7 ?_
    refine g_last X (D := D2) (f := (D2.2.2.2.1 0)) (i := (0 : Int32)) (x := r5.toInt64) (D' := (setB D2 0 (vp_updL (D2.2.2.2.1 0) (0 : Int32).toNatClampNeg r5.toInt64))) 99 (wg_99 E _) (inB_vp (by decide)) (ws_B_0 E _ _) dL_ignite_8 ?_
    refine g_goto X (tgt := 15) dL_ignite_9 (by decide) ?_
    refine g_iconst X (v := (0 : Int32)) dL_ignite_15 (by decide) ?_
    exact g_iret X hr rfl dL_ignite_16 (Option.some.inj h)
  · by_cases u7 : n4 = 4
    · have hh := (ite_s h).1 u7
      clear h
      subst u7
      have h := hh
      clear hh
      refine gx_V X (As := [.int a1]) (rest := [.int (0 : Int32), .ref (E.1 99)]) (c_X12_ignite l hfl G E a1 _ _ e1) 0 (wg_0 E _) rfl rfl kv_L_46 ⟨rfl, rfl⟩ ⟨rfl, hd_X12_ignite⟩ (⟨Nat.le_of_ble_eq_true rfl, Nat.le_of_ble_eq_true rfl⟩) (⟨Nat.le_of_ble_eq_true rfl, Nat.le_of_ble_eq_true rfl⟩) rfl rfl (Nat.le_of_ble_eq_true rfl) dL_ignite_4 (fun q => absurd q (show ¬ (4 : Nat) = 0 by decide)) (fun _ => ⟨[], ⟨0, 9, 12, 44⟩, [], "java/lang/IndexOutOfBoundsException", htab, (fun z hz => absurd hz List.not_mem_nil), by decide, by decide, wcl_L_44, wca_4, fun z8 => ?_⟩)
      refine g_astore_n X (i0 := 3) (lv' := [(3, .ref z8), (0, .ref (E.1 0)), (1, .int a1), (2, .ref (E.1 99))]) dL_ignite_12 rfl (by decide) rfl ?_
      refine g_iconst X (v := (1 : Int32)) dL_ignite_13 (by decide) ?_
      exact g_iret X hr rfl dL_ignite_14 (Option.some.inj h)
    have h := (ite_s h).2 u7
    cases h
theorem hd_X12_chargeRow : yX12_chargeRow.cls ≠ "java/lang/invoke/MethodHandle" ∧ yX12_chargeRow.cls ≠ "java/lang/invoke/VarHandle" ∧ (parseMethodDescriptor yX12_chargeRow.desc).map (fun d => d.parameters.length) = some 1 := by decide +kernel
theorem wc_X12_chargeRow : Cond.code yX12_chargeRow cX12_chargeRow 2 (some .int) ∈ UT := ut 949 (by decide +kernel) (by decide +kernel)
theorem we_X12_chargeRow : Cond.selects RX12 yX12_chargeRow yX12_chargeRow ∈ UT := ut 948 (by decide +kernel) (by decide +kernel)
theorem wm_X12_chargeRow : Cond.instanceMethod yX12_chargeRow ∈ UT := ut 947 (by decide +kernel) (by decide +kernel)
theorem kv_L_49 : GoodIn UT (wsV RL 49 RX12 yX12_chargeRow (Cond.code yX12_chargeRow cX12_chargeRow 2 (some .int) :: UT)) := gu_V (ut 946 (by decide +kernel) (by decide +kernel)) wm_X12_chargeRow we_X12_chargeRow wi_RX12 wc_X12_chargeRow
def S_L_chargeRow (a1 : Int32) (D : DD) : Option RT := (cX (S_X12_chargeRow a1 D) (fun v3 D2 => (vI v3 (fun r5 => some (0, some (.int (0 : Int32)), (setB D2 0 (vp_updL (D2.2.2.2.1 0) (0 : Int32).toNatClampNeg r5.toInt64)))))) (fun n4 D2 => (if n4 = 4 then some (0, some (.int (1 : Int32)), D2) else none)))
set_option maxRecDepth 100000 in
set_option maxHeartbeats 4000000 in
theorem c_L_chargeRow (l : Launch) (hfl : l.stackTraces = false) (G : va_G) (E : EE) (a1 : Int32) (D : DD) (r : RT) (h : S_L_chargeRow a1 D = some r) : MW l G E yL_chargeRow cL_chargeRow 4 (some .int) [(0, 9, 12, 44)] (rmx 7) [.ref (E.1 0), .int a1, .ref (E.1 99)] D r := by
  refine mw_of rfl (Nat.le_of_ble_eq_true rfl) ?_
  intro p e s m args below meth c X hr htab
  unfold S_L_chargeRow at h
  refine g_aload_n X 2 (i0 := 2) dL_chargeRow_0 rfl rfl ?_
  refine g_iconst X (v := (0 : Int32)) dL_chargeRow_1 (by decide) ?_
  refine g_aload_n X 0 (i0 := 0) dL_chargeRow_2 rfl rfl ?_
  refine g_iload_n X 1 (i0 := 1) dL_chargeRow_3 rfl rfl ?_
  rcases cX_s h with ⟨v3, D2, e1, h⟩ | ⟨n4, v3, D2, e1, e1n, h⟩
  · obtain ⟨r5, e6, h⟩ := vI_s h
    subst e6
    refine gx_V X (As := [.int a1]) (rest := [.int (0 : Int32), .ref (E.1 99)]) (c_X12_chargeRow l hfl G E a1 _ _ e1) 0 (wg_0 E _) rfl rfl kv_L_49 ⟨rfl, rfl⟩ ⟨rfl, hd_X12_chargeRow⟩ (⟨Nat.le_of_ble_eq_true rfl, Nat.le_of_ble_eq_true rfl⟩) (⟨Nat.le_of_ble_eq_true rfl, Nat.le_of_ble_eq_true rfl⟩) rfl rfl (Nat.le_of_ble_eq_true rfl) dL_chargeRow_4 (fun _ => ?_) (fun q => absurd rfl q)
    refine g_i2l X dL_chargeRow_7 ?_
    refine g_last X (D := D2) (f := (D2.2.2.2.1 0)) (i := (0 : Int32)) (x := r5.toInt64) (D' := (setB D2 0 (vp_updL (D2.2.2.2.1 0) (0 : Int32).toNatClampNeg r5.toInt64))) 99 (wg_99 E _) (inB_vp (by decide)) (ws_B_0 E _ _) dL_chargeRow_8 ?_
    refine g_goto X (tgt := 15) dL_chargeRow_9 (by decide) ?_
    refine g_iconst X (v := (0 : Int32)) dL_chargeRow_15 (by decide) ?_
    exact g_iret X hr rfl dL_chargeRow_16 (Option.some.inj h)
  · by_cases u7 : n4 = 4
    · have hh := (ite_s h).1 u7
      clear h
      subst u7
      have h := hh
      clear hh
      refine gx_V X (As := [.int a1]) (rest := [.int (0 : Int32), .ref (E.1 99)]) (c_X12_chargeRow l hfl G E a1 _ _ e1) 0 (wg_0 E _) rfl rfl kv_L_49 ⟨rfl, rfl⟩ ⟨rfl, hd_X12_chargeRow⟩ (⟨Nat.le_of_ble_eq_true rfl, Nat.le_of_ble_eq_true rfl⟩) (⟨Nat.le_of_ble_eq_true rfl, Nat.le_of_ble_eq_true rfl⟩) rfl rfl (Nat.le_of_ble_eq_true rfl) dL_chargeRow_4 (fun q => absurd q (show ¬ (4 : Nat) = 0 by decide)) (fun _ => ⟨[], ⟨0, 9, 12, 44⟩, [], "java/lang/IndexOutOfBoundsException", htab, (fun z hz => absurd hz List.not_mem_nil), by decide, by decide, wcl_L_44, wca_4, fun z8 => ?_⟩)
      refine g_astore_n X (i0 := 3) (lv' := [(3, .ref z8), (0, .ref (E.1 0)), (1, .int a1), (2, .ref (E.1 99))]) dL_chargeRow_12 rfl (by decide) rfl ?_
      refine g_iconst X (v := (1 : Int32)) dL_chargeRow_13 (by decide) ?_
      exact g_iret X hr rfl dL_chargeRow_14 (Option.some.inj h)
    have h := (ite_s h).2 u7
    cases h
theorem hd_X12_chargeColumn : yX12_chargeColumn.cls ≠ "java/lang/invoke/MethodHandle" ∧ yX12_chargeColumn.cls ≠ "java/lang/invoke/VarHandle" ∧ (parseMethodDescriptor yX12_chargeColumn.desc).map (fun d => d.parameters.length) = some 1 := by decide +kernel
theorem wc_X12_chargeColumn : Cond.code yX12_chargeColumn cX12_chargeColumn 2 (some .int) ∈ UT := ut 957 (by decide +kernel) (by decide +kernel)
theorem we_X12_chargeColumn : Cond.selects RX12 yX12_chargeColumn yX12_chargeColumn ∈ UT := ut 956 (by decide +kernel) (by decide +kernel)
theorem wm_X12_chargeColumn : Cond.instanceMethod yX12_chargeColumn ∈ UT := ut 955 (by decide +kernel) (by decide +kernel)
theorem kv_L_52 : GoodIn UT (wsV RL 52 RX12 yX12_chargeColumn (Cond.code yX12_chargeColumn cX12_chargeColumn 2 (some .int) :: UT)) := gu_V (ut 954 (by decide +kernel) (by decide +kernel)) wm_X12_chargeColumn we_X12_chargeColumn wi_RX12 wc_X12_chargeColumn
def S_L_chargeColumn (a1 : Int32) (D : DD) : Option RT := (cX (S_X12_chargeColumn a1 D) (fun v3 D2 => (vI v3 (fun r5 => some (0, some (.int (0 : Int32)), (setB D2 0 (vp_updL (D2.2.2.2.1 0) (0 : Int32).toNatClampNeg r5.toInt64)))))) (fun n4 D2 => (if n4 = 4 then some (0, some (.int (1 : Int32)), D2) else none)))
set_option maxRecDepth 100000 in
set_option maxHeartbeats 4000000 in
theorem c_L_chargeColumn (l : Launch) (hfl : l.stackTraces = false) (G : va_G) (E : EE) (a1 : Int32) (D : DD) (r : RT) (h : S_L_chargeColumn a1 D = some r) : MW l G E yL_chargeColumn cL_chargeColumn 4 (some .int) [(0, 9, 12, 44)] (rmx 7) [.ref (E.1 0), .int a1, .ref (E.1 99)] D r := by
  refine mw_of rfl (Nat.le_of_ble_eq_true rfl) ?_
  intro p e s m args below meth c X hr htab
  unfold S_L_chargeColumn at h
  refine g_aload_n X 2 (i0 := 2) dL_chargeColumn_0 rfl rfl ?_
  refine g_iconst X (v := (0 : Int32)) dL_chargeColumn_1 (by decide) ?_
  refine g_aload_n X 0 (i0 := 0) dL_chargeColumn_2 rfl rfl ?_
  refine g_iload_n X 1 (i0 := 1) dL_chargeColumn_3 rfl rfl ?_
  rcases cX_s h with ⟨v3, D2, e1, h⟩ | ⟨n4, v3, D2, e1, e1n, h⟩
  · obtain ⟨r5, e6, h⟩ := vI_s h
    subst e6
    refine gx_V X (As := [.int a1]) (rest := [.int (0 : Int32), .ref (E.1 99)]) (c_X12_chargeColumn l hfl G E a1 _ _ e1) 0 (wg_0 E _) rfl rfl kv_L_52 ⟨rfl, rfl⟩ ⟨rfl, hd_X12_chargeColumn⟩ (⟨Nat.le_of_ble_eq_true rfl, Nat.le_of_ble_eq_true rfl⟩) (⟨Nat.le_of_ble_eq_true rfl, Nat.le_of_ble_eq_true rfl⟩) rfl rfl (Nat.le_of_ble_eq_true rfl) dL_chargeColumn_4 (fun _ => ?_) (fun q => absurd rfl q)
    refine g_i2l X dL_chargeColumn_7 ?_
    refine g_last X (D := D2) (f := (D2.2.2.2.1 0)) (i := (0 : Int32)) (x := r5.toInt64) (D' := (setB D2 0 (vp_updL (D2.2.2.2.1 0) (0 : Int32).toNatClampNeg r5.toInt64))) 99 (wg_99 E _) (inB_vp (by decide)) (ws_B_0 E _ _) dL_chargeColumn_8 ?_
    refine g_goto X (tgt := 15) dL_chargeColumn_9 (by decide) ?_
    refine g_iconst X (v := (0 : Int32)) dL_chargeColumn_15 (by decide) ?_
    exact g_iret X hr rfl dL_chargeColumn_16 (Option.some.inj h)
  · by_cases u7 : n4 = 4
    · have hh := (ite_s h).1 u7
      clear h
      subst u7
      have h := hh
      clear hh
      refine gx_V X (As := [.int a1]) (rest := [.int (0 : Int32), .ref (E.1 99)]) (c_X12_chargeColumn l hfl G E a1 _ _ e1) 0 (wg_0 E _) rfl rfl kv_L_52 ⟨rfl, rfl⟩ ⟨rfl, hd_X12_chargeColumn⟩ (⟨Nat.le_of_ble_eq_true rfl, Nat.le_of_ble_eq_true rfl⟩) (⟨Nat.le_of_ble_eq_true rfl, Nat.le_of_ble_eq_true rfl⟩) rfl rfl (Nat.le_of_ble_eq_true rfl) dL_chargeColumn_4 (fun q => absurd q (show ¬ (4 : Nat) = 0 by decide)) (fun _ => ⟨[], ⟨0, 9, 12, 44⟩, [], "java/lang/IndexOutOfBoundsException", htab, (fun z hz => absurd hz List.not_mem_nil), by decide, by decide, wcl_L_44, wca_4, fun z8 => ?_⟩)
      refine g_astore_n X (i0 := 3) (lv' := [(3, .ref z8), (0, .ref (E.1 0)), (1, .int a1), (2, .ref (E.1 99))]) dL_chargeColumn_12 rfl (by decide) rfl ?_
      refine g_iconst X (v := (1 : Int32)) dL_chargeColumn_13 (by decide) ?_
      exact g_iret X hr rfl dL_chargeColumn_14 (Option.some.inj h)
    have h := (ite_s h).2 u7
    cases h
theorem hd_X12_chargeStrength : yX12_chargeStrength.cls ≠ "java/lang/invoke/MethodHandle" ∧ yX12_chargeStrength.cls ≠ "java/lang/invoke/VarHandle" ∧ (parseMethodDescriptor yX12_chargeStrength.desc).map (fun d => d.parameters.length) = some 1 := by decide +kernel
theorem wc_X12_chargeStrength : Cond.code yX12_chargeStrength cX12_chargeStrength 2 (some .int) ∈ UT := ut 964 (by decide +kernel) (by decide +kernel)
theorem we_X12_chargeStrength : Cond.selects RX12 yX12_chargeStrength yX12_chargeStrength ∈ UT := ut 963 (by decide +kernel) (by decide +kernel)
theorem wm_X12_chargeStrength : Cond.instanceMethod yX12_chargeStrength ∈ UT := ut 962 (by decide +kernel) (by decide +kernel)
theorem kv_L_55 : GoodIn UT (wsV RL 55 RX12 yX12_chargeStrength (Cond.code yX12_chargeStrength cX12_chargeStrength 2 (some .int) :: UT)) := gu_V (ut 961 (by decide +kernel) (by decide +kernel)) wm_X12_chargeStrength we_X12_chargeStrength wi_RX12 wc_X12_chargeStrength
def S_L_chargeStrength (a1 : Int32) (D : DD) : Option RT := (cX (S_X12_chargeStrength a1 D) (fun v3 D2 => (vI v3 (fun r5 => some (0, some (.int (0 : Int32)), (setB D2 0 (vp_updL (D2.2.2.2.1 0) (0 : Int32).toNatClampNeg r5.toInt64)))))) (fun n4 D2 => (if n4 = 4 then some (0, some (.int (1 : Int32)), D2) else none)))
set_option maxRecDepth 100000 in
set_option maxHeartbeats 4000000 in
theorem c_L_chargeStrength (l : Launch) (hfl : l.stackTraces = false) (G : va_G) (E : EE) (a1 : Int32) (D : DD) (r : RT) (h : S_L_chargeStrength a1 D = some r) : MW l G E yL_chargeStrength cL_chargeStrength 4 (some .int) [(0, 9, 12, 44)] (rmx 7) [.ref (E.1 0), .int a1, .ref (E.1 99)] D r := by
  refine mw_of rfl (Nat.le_of_ble_eq_true rfl) ?_
  intro p e s m args below meth c X hr htab
  unfold S_L_chargeStrength at h
  refine g_aload_n X 2 (i0 := 2) dL_chargeStrength_0 rfl rfl ?_
  refine g_iconst X (v := (0 : Int32)) dL_chargeStrength_1 (by decide) ?_
  refine g_aload_n X 0 (i0 := 0) dL_chargeStrength_2 rfl rfl ?_
  refine g_iload_n X 1 (i0 := 1) dL_chargeStrength_3 rfl rfl ?_
  rcases cX_s h with ⟨v3, D2, e1, h⟩ | ⟨n4, v3, D2, e1, e1n, h⟩
  · obtain ⟨r5, e6, h⟩ := vI_s h
    subst e6
    refine gx_V X (As := [.int a1]) (rest := [.int (0 : Int32), .ref (E.1 99)]) (c_X12_chargeStrength l hfl G E a1 _ _ e1) 0 (wg_0 E _) rfl rfl kv_L_55 ⟨rfl, rfl⟩ ⟨rfl, hd_X12_chargeStrength⟩ (⟨Nat.le_of_ble_eq_true rfl, Nat.le_of_ble_eq_true rfl⟩) (⟨Nat.le_of_ble_eq_true rfl, Nat.le_of_ble_eq_true rfl⟩) rfl rfl (Nat.le_of_ble_eq_true rfl) dL_chargeStrength_4 (fun _ => ?_) (fun q => absurd rfl q)
    refine g_i2l X dL_chargeStrength_7 ?_
    refine g_last X (D := D2) (f := (D2.2.2.2.1 0)) (i := (0 : Int32)) (x := r5.toInt64) (D' := (setB D2 0 (vp_updL (D2.2.2.2.1 0) (0 : Int32).toNatClampNeg r5.toInt64))) 99 (wg_99 E _) (inB_vp (by decide)) (ws_B_0 E _ _) dL_chargeStrength_8 ?_
    refine g_goto X (tgt := 15) dL_chargeStrength_9 (by decide) ?_
    refine g_iconst X (v := (0 : Int32)) dL_chargeStrength_15 (by decide) ?_
    exact g_iret X hr rfl dL_chargeStrength_16 (Option.some.inj h)
  · by_cases u7 : n4 = 4
    · have hh := (ite_s h).1 u7
      clear h
      subst u7
      have h := hh
      clear hh
      refine gx_V X (As := [.int a1]) (rest := [.int (0 : Int32), .ref (E.1 99)]) (c_X12_chargeStrength l hfl G E a1 _ _ e1) 0 (wg_0 E _) rfl rfl kv_L_55 ⟨rfl, rfl⟩ ⟨rfl, hd_X12_chargeStrength⟩ (⟨Nat.le_of_ble_eq_true rfl, Nat.le_of_ble_eq_true rfl⟩) (⟨Nat.le_of_ble_eq_true rfl, Nat.le_of_ble_eq_true rfl⟩) rfl rfl (Nat.le_of_ble_eq_true rfl) dL_chargeStrength_4 (fun q => absurd q (show ¬ (4 : Nat) = 0 by decide)) (fun _ => ⟨[], ⟨0, 9, 12, 44⟩, [], "java/lang/IndexOutOfBoundsException", htab, (fun z hz => absurd hz List.not_mem_nil), by decide, by decide, wcl_L_44, wca_4, fun z8 => ?_⟩)
      refine g_astore_n X (i0 := 3) (lv' := [(3, .ref z8), (0, .ref (E.1 0)), (1, .int a1), (2, .ref (E.1 99))]) dL_chargeStrength_12 rfl (by decide) rfl ?_
      refine g_iconst X (v := (1 : Int32)) dL_chargeStrength_13 (by decide) ?_
      exact g_iret X hr rfl dL_chargeStrength_14 (Option.some.inj h)
    have h := (ite_s h).2 u7
    cases h
theorem hd_X12_chainOf : yX12_chainOf.cls ≠ "java/lang/invoke/MethodHandle" ∧ yX12_chainOf.cls ≠ "java/lang/invoke/VarHandle" ∧ (parseMethodDescriptor yX12_chainOf.desc).map (fun d => d.parameters.length) = some 1 := by decide +kernel
theorem wc_X12_chainOf : Cond.code yX12_chainOf cX12_chainOf 2 (some .int) ∈ UT := ut 972 (by decide +kernel) (by decide +kernel)
theorem we_X12_chainOf : Cond.selects RX12 yX12_chainOf yX12_chainOf ∈ UT := ut 971 (by decide +kernel) (by decide +kernel)
theorem wm_X12_chainOf : Cond.instanceMethod yX12_chainOf ∈ UT := ut 970 (by decide +kernel) (by decide +kernel)
theorem kv_L_58 : GoodIn UT (wsV RL 58 RX12 yX12_chainOf (Cond.code yX12_chainOf cX12_chainOf 2 (some .int) :: UT)) := gu_V (ut 969 (by decide +kernel) (by decide +kernel)) wm_X12_chainOf we_X12_chainOf wi_RX12 wc_X12_chainOf
def S_L_chainOf (a1 : Int32) (D : DD) : Option RT := (cX (S_X12_chainOf a1 D) (fun v3 D2 => (vI v3 (fun r5 => some (0, some (.int (0 : Int32)), (setB D2 0 (vp_updL (D2.2.2.2.1 0) (0 : Int32).toNatClampNeg r5.toInt64)))))) (fun n4 D2 => (if n4 = 4 then some (0, some (.int (1 : Int32)), D2) else none)))
set_option maxRecDepth 100000 in
set_option maxHeartbeats 4000000 in
theorem c_L_chainOf (l : Launch) (hfl : l.stackTraces = false) (G : va_G) (E : EE) (a1 : Int32) (D : DD) (r : RT) (h : S_L_chainOf a1 D = some r) : MW l G E yL_chainOf cL_chainOf 4 (some .int) [(0, 9, 12, 44)] (rmx 7) [.ref (E.1 0), .int a1, .ref (E.1 99)] D r := by
  refine mw_of rfl (Nat.le_of_ble_eq_true rfl) ?_
  intro p e s m args below meth c X hr htab
  unfold S_L_chainOf at h
  refine g_aload_n X 2 (i0 := 2) dL_chainOf_0 rfl rfl ?_
  refine g_iconst X (v := (0 : Int32)) dL_chainOf_1 (by decide) ?_
  refine g_aload_n X 0 (i0 := 0) dL_chainOf_2 rfl rfl ?_
  refine g_iload_n X 1 (i0 := 1) dL_chainOf_3 rfl rfl ?_
  rcases cX_s h with ⟨v3, D2, e1, h⟩ | ⟨n4, v3, D2, e1, e1n, h⟩
  · obtain ⟨r5, e6, h⟩ := vI_s h
    subst e6
    refine gx_V X (As := [.int a1]) (rest := [.int (0 : Int32), .ref (E.1 99)]) (c_X12_chainOf l hfl G E a1 _ _ e1) 0 (wg_0 E _) rfl rfl kv_L_58 ⟨rfl, rfl⟩ ⟨rfl, hd_X12_chainOf⟩ (⟨Nat.le_of_ble_eq_true rfl, Nat.le_of_ble_eq_true rfl⟩) (⟨Nat.le_of_ble_eq_true rfl, Nat.le_of_ble_eq_true rfl⟩) rfl rfl (Nat.le_of_ble_eq_true rfl) dL_chainOf_4 (fun _ => ?_) (fun q => absurd rfl q)
    refine g_i2l X dL_chainOf_7 ?_
    refine g_last X (D := D2) (f := (D2.2.2.2.1 0)) (i := (0 : Int32)) (x := r5.toInt64) (D' := (setB D2 0 (vp_updL (D2.2.2.2.1 0) (0 : Int32).toNatClampNeg r5.toInt64))) 99 (wg_99 E _) (inB_vp (by decide)) (ws_B_0 E _ _) dL_chainOf_8 ?_
    refine g_goto X (tgt := 15) dL_chainOf_9 (by decide) ?_
    refine g_iconst X (v := (0 : Int32)) dL_chainOf_15 (by decide) ?_
    exact g_iret X hr rfl dL_chainOf_16 (Option.some.inj h)
  · by_cases u7 : n4 = 4
    · have hh := (ite_s h).1 u7
      clear h
      subst u7
      have h := hh
      clear hh
      refine gx_V X (As := [.int a1]) (rest := [.int (0 : Int32), .ref (E.1 99)]) (c_X12_chainOf l hfl G E a1 _ _ e1) 0 (wg_0 E _) rfl rfl kv_L_58 ⟨rfl, rfl⟩ ⟨rfl, hd_X12_chainOf⟩ (⟨Nat.le_of_ble_eq_true rfl, Nat.le_of_ble_eq_true rfl⟩) (⟨Nat.le_of_ble_eq_true rfl, Nat.le_of_ble_eq_true rfl⟩) rfl rfl (Nat.le_of_ble_eq_true rfl) dL_chainOf_4 (fun q => absurd q (show ¬ (4 : Nat) = 0 by decide)) (fun _ => ⟨[], ⟨0, 9, 12, 44⟩, [], "java/lang/IndexOutOfBoundsException", htab, (fun z hz => absurd hz List.not_mem_nil), by decide, by decide, wcl_L_44, wca_4, fun z8 => ?_⟩)
      refine g_astore_n X (i0 := 3) (lv' := [(3, .ref z8), (0, .ref (E.1 0)), (1, .int a1), (2, .ref (E.1 99))]) dL_chainOf_12 rfl (by decide) rfl ?_
      refine g_iconst X (v := (1 : Int32)) dL_chainOf_13 (by decide) ?_
      exact g_iret X hr rfl dL_chainOf_14 (Option.some.inj h)
    have h := (ite_s h).2 u7
    cases h
theorem hd_X12_chainByRounds : yX12_chainByRounds.cls ≠ "java/lang/invoke/MethodHandle" ∧ yX12_chainByRounds.cls ≠ "java/lang/invoke/VarHandle" ∧ (parseMethodDescriptor yX12_chainByRounds.desc).map (fun d => d.parameters.length) = some 1 := by decide +kernel
theorem wc_X12_chainByRounds : Cond.code yX12_chainByRounds cX12_chainByRounds 2 (some .int) ∈ UT := ut 979 (by decide +kernel) (by decide +kernel)
theorem we_X12_chainByRounds : Cond.selects RX12 yX12_chainByRounds yX12_chainByRounds ∈ UT := ut 978 (by decide +kernel) (by decide +kernel)
theorem wm_X12_chainByRounds : Cond.instanceMethod yX12_chainByRounds ∈ UT := ut 977 (by decide +kernel) (by decide +kernel)
theorem kv_L_61 : GoodIn UT (wsV RL 61 RX12 yX12_chainByRounds (Cond.code yX12_chainByRounds cX12_chainByRounds 2 (some .int) :: UT)) := gu_V (ut 976 (by decide +kernel) (by decide +kernel)) wm_X12_chainByRounds we_X12_chainByRounds wi_RX12 wc_X12_chainByRounds
def S_L_chainByRounds (a1 : Int32) (D : DD) : Option RT := (cX (S_X12_chainByRounds a1 D) (fun v3 D2 => (vI v3 (fun r5 => some (0, some (.int (0 : Int32)), (setB D2 0 (vp_updL (D2.2.2.2.1 0) (0 : Int32).toNatClampNeg r5.toInt64)))))) (fun n4 D2 => (if n4 = 4 then some (0, some (.int (1 : Int32)), D2) else none)))
set_option maxRecDepth 100000 in
set_option maxHeartbeats 4000000 in
theorem c_L_chainByRounds (l : Launch) (hfl : l.stackTraces = false) (G : va_G) (E : EE) (a1 : Int32) (D : DD) (r : RT) (h : S_L_chainByRounds a1 D = some r) : MW l G E yL_chainByRounds cL_chainByRounds 4 (some .int) [(0, 9, 12, 44)] (rmx 7) [.ref (E.1 0), .int a1, .ref (E.1 99)] D r := by
  refine mw_of rfl (Nat.le_of_ble_eq_true rfl) ?_
  intro p e s m args below meth c X hr htab
  unfold S_L_chainByRounds at h
  refine g_aload_n X 2 (i0 := 2) dL_chainByRounds_0 rfl rfl ?_
  refine g_iconst X (v := (0 : Int32)) dL_chainByRounds_1 (by decide) ?_
  refine g_aload_n X 0 (i0 := 0) dL_chainByRounds_2 rfl rfl ?_
  refine g_iload_n X 1 (i0 := 1) dL_chainByRounds_3 rfl rfl ?_
  rcases cX_s h with ⟨v3, D2, e1, h⟩ | ⟨n4, v3, D2, e1, e1n, h⟩
  · obtain ⟨r5, e6, h⟩ := vI_s h
    subst e6
    refine gx_V X (As := [.int a1]) (rest := [.int (0 : Int32), .ref (E.1 99)]) (c_X12_chainByRounds l hfl G E a1 _ _ e1) 0 (wg_0 E _) rfl rfl kv_L_61 ⟨rfl, rfl⟩ ⟨rfl, hd_X12_chainByRounds⟩ (⟨Nat.le_of_ble_eq_true rfl, Nat.le_of_ble_eq_true rfl⟩) (⟨Nat.le_of_ble_eq_true rfl, Nat.le_of_ble_eq_true rfl⟩) rfl rfl (Nat.le_of_ble_eq_true rfl) dL_chainByRounds_4 (fun _ => ?_) (fun q => absurd rfl q)
    refine g_i2l X dL_chainByRounds_7 ?_
    refine g_last X (D := D2) (f := (D2.2.2.2.1 0)) (i := (0 : Int32)) (x := r5.toInt64) (D' := (setB D2 0 (vp_updL (D2.2.2.2.1 0) (0 : Int32).toNatClampNeg r5.toInt64))) 99 (wg_99 E _) (inB_vp (by decide)) (ws_B_0 E _ _) dL_chainByRounds_8 ?_
    refine g_goto X (tgt := 15) dL_chainByRounds_9 (by decide) ?_
    refine g_iconst X (v := (0 : Int32)) dL_chainByRounds_15 (by decide) ?_
    exact g_iret X hr rfl dL_chainByRounds_16 (Option.some.inj h)
  · by_cases u7 : n4 = 4
    · have hh := (ite_s h).1 u7
      clear h
      subst u7
      have h := hh
      clear hh
      refine gx_V X (As := [.int a1]) (rest := [.int (0 : Int32), .ref (E.1 99)]) (c_X12_chainByRounds l hfl G E a1 _ _ e1) 0 (wg_0 E _) rfl rfl kv_L_61 ⟨rfl, rfl⟩ ⟨rfl, hd_X12_chainByRounds⟩ (⟨Nat.le_of_ble_eq_true rfl, Nat.le_of_ble_eq_true rfl⟩) (⟨Nat.le_of_ble_eq_true rfl, Nat.le_of_ble_eq_true rfl⟩) rfl rfl (Nat.le_of_ble_eq_true rfl) dL_chainByRounds_4 (fun q => absurd q (show ¬ (4 : Nat) = 0 by decide)) (fun _ => ⟨[], ⟨0, 9, 12, 44⟩, [], "java/lang/IndexOutOfBoundsException", htab, (fun z hz => absurd hz List.not_mem_nil), by decide, by decide, wcl_L_44, wca_4, fun z8 => ?_⟩)
      refine g_astore_n X (i0 := 3) (lv' := [(3, .ref z8), (0, .ref (E.1 0)), (1, .int a1), (2, .ref (E.1 99))]) dL_chainByRounds_12 rfl (by decide) rfl ?_
      refine g_iconst X (v := (1 : Int32)) dL_chainByRounds_13 (by decide) ?_
      exact g_iret X hr rfl dL_chainByRounds_14 (Option.some.inj h)
    have h := (ite_s h).2 u7
    cases h
theorem hd_X12_opensOf : yX12_opensOf.cls ≠ "java/lang/invoke/MethodHandle" ∧ yX12_opensOf.cls ≠ "java/lang/invoke/VarHandle" ∧ (parseMethodDescriptor yX12_opensOf.desc).map (fun d => d.parameters.length) = some 1 := by decide +kernel
theorem wc_X12_opensOf : Cond.code yX12_opensOf cX12_opensOf 2 (some .int) ∈ UT := ut 986 (by decide +kernel) (by decide +kernel)
theorem we_X12_opensOf : Cond.selects RX12 yX12_opensOf yX12_opensOf ∈ UT := ut 985 (by decide +kernel) (by decide +kernel)
theorem wm_X12_opensOf : Cond.instanceMethod yX12_opensOf ∈ UT := ut 984 (by decide +kernel) (by decide +kernel)
theorem kv_L_64 : GoodIn UT (wsV RL 64 RX12 yX12_opensOf (Cond.code yX12_opensOf cX12_opensOf 2 (some .int) :: UT)) := gu_V (ut 983 (by decide +kernel) (by decide +kernel)) wm_X12_opensOf we_X12_opensOf wi_RX12 wc_X12_opensOf
def S_L_opensOf (a1 : Int32) (D : DD) : Option RT := (cX (S_X12_opensOf a1 D) (fun v3 D2 => (vI v3 (fun r5 => some (0, some (.int (0 : Int32)), (setB D2 0 (vp_updL (D2.2.2.2.1 0) (0 : Int32).toNatClampNeg r5.toInt64)))))) (fun n4 D2 => (if n4 = 4 then some (0, some (.int (1 : Int32)), D2) else none)))
set_option maxRecDepth 100000 in
set_option maxHeartbeats 4000000 in
theorem c_L_opensOf (l : Launch) (hfl : l.stackTraces = false) (G : va_G) (E : EE) (a1 : Int32) (D : DD) (r : RT) (h : S_L_opensOf a1 D = some r) : MW l G E yL_opensOf cL_opensOf 4 (some .int) [(0, 9, 12, 44)] (rmx 7) [.ref (E.1 0), .int a1, .ref (E.1 99)] D r := by
  refine mw_of rfl (Nat.le_of_ble_eq_true rfl) ?_
  intro p e s m args below meth c X hr htab
  unfold S_L_opensOf at h
  refine g_aload_n X 2 (i0 := 2) dL_opensOf_0 rfl rfl ?_
  refine g_iconst X (v := (0 : Int32)) dL_opensOf_1 (by decide) ?_
  refine g_aload_n X 0 (i0 := 0) dL_opensOf_2 rfl rfl ?_
  refine g_iload_n X 1 (i0 := 1) dL_opensOf_3 rfl rfl ?_
  rcases cX_s h with ⟨v3, D2, e1, h⟩ | ⟨n4, v3, D2, e1, e1n, h⟩
  · obtain ⟨r5, e6, h⟩ := vI_s h
    subst e6
    refine gx_V X (As := [.int a1]) (rest := [.int (0 : Int32), .ref (E.1 99)]) (c_X12_opensOf l hfl G E a1 _ _ e1) 0 (wg_0 E _) rfl rfl kv_L_64 ⟨rfl, rfl⟩ ⟨rfl, hd_X12_opensOf⟩ (⟨Nat.le_of_ble_eq_true rfl, Nat.le_of_ble_eq_true rfl⟩) (⟨Nat.le_of_ble_eq_true rfl, Nat.le_of_ble_eq_true rfl⟩) rfl rfl (Nat.le_of_ble_eq_true rfl) dL_opensOf_4 (fun _ => ?_) (fun q => absurd rfl q)
    refine g_i2l X dL_opensOf_7 ?_
    refine g_last X (D := D2) (f := (D2.2.2.2.1 0)) (i := (0 : Int32)) (x := r5.toInt64) (D' := (setB D2 0 (vp_updL (D2.2.2.2.1 0) (0 : Int32).toNatClampNeg r5.toInt64))) 99 (wg_99 E _) (inB_vp (by decide)) (ws_B_0 E _ _) dL_opensOf_8 ?_
    refine g_goto X (tgt := 15) dL_opensOf_9 (by decide) ?_
    refine g_iconst X (v := (0 : Int32)) dL_opensOf_15 (by decide) ?_
    exact g_iret X hr rfl dL_opensOf_16 (Option.some.inj h)
  · by_cases u7 : n4 = 4
    · have hh := (ite_s h).1 u7
      clear h
      subst u7
      have h := hh
      clear hh
      refine gx_V X (As := [.int a1]) (rest := [.int (0 : Int32), .ref (E.1 99)]) (c_X12_opensOf l hfl G E a1 _ _ e1) 0 (wg_0 E _) rfl rfl kv_L_64 ⟨rfl, rfl⟩ ⟨rfl, hd_X12_opensOf⟩ (⟨Nat.le_of_ble_eq_true rfl, Nat.le_of_ble_eq_true rfl⟩) (⟨Nat.le_of_ble_eq_true rfl, Nat.le_of_ble_eq_true rfl⟩) rfl rfl (Nat.le_of_ble_eq_true rfl) dL_opensOf_4 (fun q => absurd q (show ¬ (4 : Nat) = 0 by decide)) (fun _ => ⟨[], ⟨0, 9, 12, 44⟩, [], "java/lang/IndexOutOfBoundsException", htab, (fun z hz => absurd hz List.not_mem_nil), by decide, by decide, wcl_L_44, wca_4, fun z8 => ?_⟩)
      refine g_astore_n X (i0 := 3) (lv' := [(3, .ref z8), (0, .ref (E.1 0)), (1, .int a1), (2, .ref (E.1 99))]) dL_opensOf_12 rfl (by decide) rfl ?_
      refine g_iconst X (v := (1 : Int32)) dL_opensOf_13 (by decide) ?_
      exact g_iret X hr rfl dL_opensOf_14 (Option.some.inj h)
    have h := (ite_s h).2 u7
    cases h
theorem hd_X12_setPrice : yX12_setPrice.cls ≠ "java/lang/invoke/MethodHandle" ∧ yX12_setPrice.cls ≠ "java/lang/invoke/VarHandle" ∧ (parseMethodDescriptor yX12_setPrice.desc).map (fun d => d.parameters.length) = some 2 := by decide +kernel
theorem wc_X12_setPrice : Cond.code yX12_setPrice cX12_setPrice 3 (some .int) ∈ UT := ut 1017 (by decide +kernel) (by decide +kernel)
theorem we_X12_setPrice : Cond.selects RX12 yX12_setPrice yX12_setPrice ∈ UT := ut 1016 (by decide +kernel) (by decide +kernel)
theorem wm_X12_setPrice : Cond.instanceMethod yX12_setPrice ∈ UT := ut 1015 (by decide +kernel) (by decide +kernel)
theorem kv_L_73 : GoodIn UT (wsV RL 73 RX12 yX12_setPrice (Cond.code yX12_setPrice cX12_setPrice 3 (some .int) :: UT)) := gu_V (ut 1014 (by decide +kernel) (by decide +kernel)) wm_X12_setPrice we_X12_setPrice wi_RX12 wc_X12_setPrice
def S_L_setPrice (a1 : Int32) (a2 : Int32) (D : DD) : Option RT := (cX (S_X12_setPrice a1 a2 D) (fun v3 D2 => (vI v3 (fun r5 => some (0, some (.int (0 : Int32)), (setB D2 0 (vp_updL (D2.2.2.2.1 0) (0 : Int32).toNatClampNeg r5.toInt64)))))) (fun n4 D2 => (if n4 = 1 then some (0, some (.int (1 : Int32)), D2) else none)))
set_option maxRecDepth 100000 in
set_option maxHeartbeats 4000000 in
theorem c_L_setPrice (l : Launch) (hfl : l.stackTraces = false) (G : va_G) (E : EE) (a1 : Int32) (a2 : Int32) (D : DD) (r : RT) (h : S_L_setPrice a1 a2 D = some r) : MW l G E yL_setPrice cL_setPrice 5 (some .int) [(0, 10, 13, 13)] (rmx 7) [.ref (E.1 0), .int a1, .int a2, .ref (E.1 99)] D r := by
  refine mw_of rfl (Nat.le_of_ble_eq_true rfl) ?_
  intro p e s m args below meth c X hr htab
  unfold S_L_setPrice at h
  refine g_aload_n X 3 (i0 := 3) dL_setPrice_0 rfl rfl ?_
  refine g_iconst X (v := (0 : Int32)) dL_setPrice_1 (by decide) ?_
  refine g_aload_n X 0 (i0 := 0) dL_setPrice_2 rfl rfl ?_
  refine g_iload_n X 1 (i0 := 1) dL_setPrice_3 rfl rfl ?_
  refine g_iload_n X 2 (i0 := 2) dL_setPrice_4 rfl rfl ?_
  rcases cX_s h with ⟨v3, D2, e1, h⟩ | ⟨n4, v3, D2, e1, e1n, h⟩
  · obtain ⟨r5, e6, h⟩ := vI_s h
    subst e6
    refine gx_V X (As := [.int a1, .int a2]) (rest := [.int (0 : Int32), .ref (E.1 99)]) (c_X12_setPrice l hfl G E a1 a2 _ _ e1) 0 (wg_0 E _) rfl rfl kv_L_73 ⟨rfl, rfl⟩ ⟨rfl, hd_X12_setPrice⟩ (⟨Nat.le_of_ble_eq_true rfl, Nat.le_of_ble_eq_true rfl⟩) (⟨Nat.le_of_ble_eq_true rfl, Nat.le_of_ble_eq_true rfl⟩) rfl rfl (Nat.le_of_ble_eq_true rfl) dL_setPrice_5 (fun _ => ?_) (fun q => absurd rfl q)
    refine g_i2l X dL_setPrice_8 ?_
    refine g_last X (D := D2) (f := (D2.2.2.2.1 0)) (i := (0 : Int32)) (x := r5.toInt64) (D' := (setB D2 0 (vp_updL (D2.2.2.2.1 0) (0 : Int32).toNatClampNeg r5.toInt64))) 99 (wg_99 E _) (inB_vp (by decide)) (ws_B_0 E _ _) dL_setPrice_9 ?_
    refine g_goto X (tgt := 17) dL_setPrice_10 (by decide) ?_
    refine g_iconst X (v := (0 : Int32)) dL_setPrice_17 (by decide) ?_
    exact g_iret X hr rfl dL_setPrice_18 (Option.some.inj h)
  · by_cases u7 : n4 = 1
    · have hh := (ite_s h).1 u7
      clear h
      subst u7
      have h := hh
      clear hh
      refine gx_V X (As := [.int a1, .int a2]) (rest := [.int (0 : Int32), .ref (E.1 99)]) (c_X12_setPrice l hfl G E a1 a2 _ _ e1) 0 (wg_0 E _) rfl rfl kv_L_73 ⟨rfl, rfl⟩ ⟨rfl, hd_X12_setPrice⟩ (⟨Nat.le_of_ble_eq_true rfl, Nat.le_of_ble_eq_true rfl⟩) (⟨Nat.le_of_ble_eq_true rfl, Nat.le_of_ble_eq_true rfl⟩) rfl rfl (Nat.le_of_ble_eq_true rfl) dL_setPrice_5 (fun q => absurd q (show ¬ (1 : Nat) = 0 by decide)) (fun _ => ⟨[], ⟨0, 10, 13, 13⟩, [], "java/lang/IllegalArgumentException", htab, (fun z hz => absurd hz List.not_mem_nil), by decide, by decide, wcl_L_13, wca_1, fun z8 => ?_⟩)
      refine g_astore X (lv' := [(4, .ref z8), (0, .ref (E.1 0)), (1, .int a1), (2, .int a2), (3, .ref (E.1 99))]) dL_setPrice_13 (by decide) rfl ?_
      refine g_iconst X (v := (1 : Int32)) dL_setPrice_15 (by decide) ?_
      exact g_iret X hr rfl dL_setPrice_16 (Option.some.inj h)
    have h := (ite_s h).2 u7
    cases h
theorem hd_X12_priceOf : yX12_priceOf.cls ≠ "java/lang/invoke/MethodHandle" ∧ yX12_priceOf.cls ≠ "java/lang/invoke/VarHandle" ∧ (parseMethodDescriptor yX12_priceOf.desc).map (fun d => d.parameters.length) = some 1 := by decide +kernel
theorem wc_X12_priceOf : Cond.code yX12_priceOf cX12_priceOf 2 (some .int) ∈ UT := ut 1034 (by decide +kernel) (by decide +kernel)
theorem we_X12_priceOf : Cond.selects RX12 yX12_priceOf yX12_priceOf ∈ UT := ut 1033 (by decide +kernel) (by decide +kernel)
theorem wm_X12_priceOf : Cond.instanceMethod yX12_priceOf ∈ UT := ut 1032 (by decide +kernel) (by decide +kernel)
theorem kv_L_76 : GoodIn UT (wsV RL 76 RX12 yX12_priceOf (Cond.code yX12_priceOf cX12_priceOf 2 (some .int) :: UT)) := gu_V (ut 1031 (by decide +kernel) (by decide +kernel)) wm_X12_priceOf we_X12_priceOf wi_RX12 wc_X12_priceOf
def S_L_priceOf (a1 : Int32) (D : DD) : Option RT := (cX (S_X12_priceOf a1 D) (fun v3 D2 => (vI v3 (fun r5 => some (0, some (.int (0 : Int32)), (setB D2 0 (vp_updL (D2.2.2.2.1 0) (0 : Int32).toNatClampNeg r5.toInt64)))))) (fun n4 D2 => (if n4 = 1 then some (0, some (.int (1 : Int32)), D2) else none)))
set_option maxRecDepth 100000 in
set_option maxHeartbeats 4000000 in
theorem c_L_priceOf (l : Launch) (hfl : l.stackTraces = false) (G : va_G) (E : EE) (a1 : Int32) (D : DD) (r : RT) (h : S_L_priceOf a1 D = some r) : MW l G E yL_priceOf cL_priceOf 4 (some .int) [(0, 9, 12, 13)] (rmx 7) [.ref (E.1 0), .int a1, .ref (E.1 99)] D r := by
  refine mw_of rfl (Nat.le_of_ble_eq_true rfl) ?_
  intro p e s m args below meth c X hr htab
  unfold S_L_priceOf at h
  refine g_aload_n X 2 (i0 := 2) dL_priceOf_0 rfl rfl ?_
  refine g_iconst X (v := (0 : Int32)) dL_priceOf_1 (by decide) ?_
  refine g_aload_n X 0 (i0 := 0) dL_priceOf_2 rfl rfl ?_
  refine g_iload_n X 1 (i0 := 1) dL_priceOf_3 rfl rfl ?_
  rcases cX_s h with ⟨v3, D2, e1, h⟩ | ⟨n4, v3, D2, e1, e1n, h⟩
  · obtain ⟨r5, e6, h⟩ := vI_s h
    subst e6
    refine gx_V X (As := [.int a1]) (rest := [.int (0 : Int32), .ref (E.1 99)]) (c_X12_priceOf l hfl G E a1 _ _ e1) 0 (wg_0 E _) rfl rfl kv_L_76 ⟨rfl, rfl⟩ ⟨rfl, hd_X12_priceOf⟩ (⟨Nat.le_of_ble_eq_true rfl, Nat.le_of_ble_eq_true rfl⟩) (⟨Nat.le_of_ble_eq_true rfl, Nat.le_of_ble_eq_true rfl⟩) rfl rfl (Nat.le_of_ble_eq_true rfl) dL_priceOf_4 (fun _ => ?_) (fun q => absurd rfl q)
    refine g_i2l X dL_priceOf_7 ?_
    refine g_last X (D := D2) (f := (D2.2.2.2.1 0)) (i := (0 : Int32)) (x := r5.toInt64) (D' := (setB D2 0 (vp_updL (D2.2.2.2.1 0) (0 : Int32).toNatClampNeg r5.toInt64))) 99 (wg_99 E _) (inB_vp (by decide)) (ws_B_0 E _ _) dL_priceOf_8 ?_
    refine g_goto X (tgt := 15) dL_priceOf_9 (by decide) ?_
    refine g_iconst X (v := (0 : Int32)) dL_priceOf_15 (by decide) ?_
    exact g_iret X hr rfl dL_priceOf_16 (Option.some.inj h)
  · by_cases u7 : n4 = 1
    · have hh := (ite_s h).1 u7
      clear h
      subst u7
      have h := hh
      clear hh
      refine gx_V X (As := [.int a1]) (rest := [.int (0 : Int32), .ref (E.1 99)]) (c_X12_priceOf l hfl G E a1 _ _ e1) 0 (wg_0 E _) rfl rfl kv_L_76 ⟨rfl, rfl⟩ ⟨rfl, hd_X12_priceOf⟩ (⟨Nat.le_of_ble_eq_true rfl, Nat.le_of_ble_eq_true rfl⟩) (⟨Nat.le_of_ble_eq_true rfl, Nat.le_of_ble_eq_true rfl⟩) rfl rfl (Nat.le_of_ble_eq_true rfl) dL_priceOf_4 (fun q => absurd q (show ¬ (1 : Nat) = 0 by decide)) (fun _ => ⟨[], ⟨0, 9, 12, 13⟩, [], "java/lang/IllegalArgumentException", htab, (fun z hz => absurd hz List.not_mem_nil), by decide, by decide, wcl_L_13, wca_1, fun z8 => ?_⟩)
      refine g_astore_n X (i0 := 3) (lv' := [(3, .ref z8), (0, .ref (E.1 0)), (1, .int a1), (2, .ref (E.1 99))]) dL_priceOf_12 rfl (by decide) rfl ?_
      refine g_iconst X (v := (1 : Int32)) dL_priceOf_13 (by decide) ?_
      exact g_iret X hr rfl dL_priceOf_14 (Option.some.inj h)
    have h := (ite_s h).2 u7
    cases h
theorem hd_X12_bestCut : yX12_bestCut.cls ≠ "java/lang/invoke/MethodHandle" ∧ yX12_bestCut.cls ≠ "java/lang/invoke/VarHandle" ∧ (parseMethodDescriptor yX12_bestCut.desc).map (fun d => d.parameters.length) = some 1 := by decide +kernel
theorem wc_X12_bestCut : Cond.code yX12_bestCut cX12_bestCut 2 (some .int) ∈ UT := ut 1043 (by decide +kernel) (by decide +kernel)
theorem we_X12_bestCut : Cond.selects RX12 yX12_bestCut yX12_bestCut ∈ UT := ut 1042 (by decide +kernel) (by decide +kernel)
theorem wm_X12_bestCut : Cond.instanceMethod yX12_bestCut ∈ UT := ut 1041 (by decide +kernel) (by decide +kernel)
theorem kv_L_79 : GoodIn UT (wsV RL 79 RX12 yX12_bestCut (Cond.code yX12_bestCut cX12_bestCut 2 (some .int) :: UT)) := gu_V (ut 1040 (by decide +kernel) (by decide +kernel)) wm_X12_bestCut we_X12_bestCut wi_RX12 wc_X12_bestCut
def S_L_bestCut (a1 : Int32) (D : DD) : Option RT := (cX (S_X12_bestCut a1 D) (fun v3 D2 => (vI v3 (fun r5 => some (0, some (.int (0 : Int32)), (setB D2 0 (vp_updL (D2.2.2.2.1 0) (0 : Int32).toNatClampNeg r5.toInt64)))))) (fun n4 D2 => (if n4 = 1 then some (0, some (.int (1 : Int32)), D2) else none)))
set_option maxRecDepth 100000 in
set_option maxHeartbeats 4000000 in
theorem c_L_bestCut (l : Launch) (hfl : l.stackTraces = false) (G : va_G) (E : EE) (a1 : Int32) (D : DD) (r : RT) (h : S_L_bestCut a1 D = some r) : MW l G E yL_bestCut cL_bestCut 4 (some .int) [(0, 9, 12, 13)] (rmx 7) [.ref (E.1 0), .int a1, .ref (E.1 99)] D r := by
  refine mw_of rfl (Nat.le_of_ble_eq_true rfl) ?_
  intro p e s m args below meth c X hr htab
  unfold S_L_bestCut at h
  refine g_aload_n X 2 (i0 := 2) dL_bestCut_0 rfl rfl ?_
  refine g_iconst X (v := (0 : Int32)) dL_bestCut_1 (by decide) ?_
  refine g_aload_n X 0 (i0 := 0) dL_bestCut_2 rfl rfl ?_
  refine g_iload_n X 1 (i0 := 1) dL_bestCut_3 rfl rfl ?_
  rcases cX_s h with ⟨v3, D2, e1, h⟩ | ⟨n4, v3, D2, e1, e1n, h⟩
  · obtain ⟨r5, e6, h⟩ := vI_s h
    subst e6
    refine gx_V X (As := [.int a1]) (rest := [.int (0 : Int32), .ref (E.1 99)]) (c_X12_bestCut l hfl G E a1 _ _ e1) 0 (wg_0 E _) rfl rfl kv_L_79 ⟨rfl, rfl⟩ ⟨rfl, hd_X12_bestCut⟩ (⟨Nat.le_of_ble_eq_true rfl, Nat.le_of_ble_eq_true rfl⟩) (⟨Nat.le_of_ble_eq_true rfl, Nat.le_of_ble_eq_true rfl⟩) rfl rfl (Nat.le_of_ble_eq_true rfl) dL_bestCut_4 (fun _ => ?_) (fun q => absurd rfl q)
    refine g_i2l X dL_bestCut_7 ?_
    refine g_last X (D := D2) (f := (D2.2.2.2.1 0)) (i := (0 : Int32)) (x := r5.toInt64) (D' := (setB D2 0 (vp_updL (D2.2.2.2.1 0) (0 : Int32).toNatClampNeg r5.toInt64))) 99 (wg_99 E _) (inB_vp (by decide)) (ws_B_0 E _ _) dL_bestCut_8 ?_
    refine g_goto X (tgt := 15) dL_bestCut_9 (by decide) ?_
    refine g_iconst X (v := (0 : Int32)) dL_bestCut_15 (by decide) ?_
    exact g_iret X hr rfl dL_bestCut_16 (Option.some.inj h)
  · by_cases u7 : n4 = 1
    · have hh := (ite_s h).1 u7
      clear h
      subst u7
      have h := hh
      clear hh
      refine gx_V X (As := [.int a1]) (rest := [.int (0 : Int32), .ref (E.1 99)]) (c_X12_bestCut l hfl G E a1 _ _ e1) 0 (wg_0 E _) rfl rfl kv_L_79 ⟨rfl, rfl⟩ ⟨rfl, hd_X12_bestCut⟩ (⟨Nat.le_of_ble_eq_true rfl, Nat.le_of_ble_eq_true rfl⟩) (⟨Nat.le_of_ble_eq_true rfl, Nat.le_of_ble_eq_true rfl⟩) rfl rfl (Nat.le_of_ble_eq_true rfl) dL_bestCut_4 (fun q => absurd q (show ¬ (1 : Nat) = 0 by decide)) (fun _ => ⟨[], ⟨0, 9, 12, 13⟩, [], "java/lang/IllegalArgumentException", htab, (fun z hz => absurd hz List.not_mem_nil), by decide, by decide, wcl_L_13, wca_1, fun z8 => ?_⟩)
      refine g_astore_n X (i0 := 3) (lv' := [(3, .ref z8), (0, .ref (E.1 0)), (1, .int a1), (2, .ref (E.1 99))]) dL_bestCut_12 rfl (by decide) rfl ?_
      refine g_iconst X (v := (1 : Int32)) dL_bestCut_13 (by decide) ?_
      exact g_iret X hr rfl dL_bestCut_14 (Option.some.inj h)
    have h := (ite_s h).2 u7
    cases h
theorem hd_X12_bestCutByTrial : yX12_bestCutByTrial.cls ≠ "java/lang/invoke/MethodHandle" ∧ yX12_bestCutByTrial.cls ≠ "java/lang/invoke/VarHandle" ∧ (parseMethodDescriptor yX12_bestCutByTrial.desc).map (fun d => d.parameters.length) = some 1 := by decide +kernel
theorem wc_X12_bestCutByTrial : Cond.code yX12_bestCutByTrial cX12_bestCutByTrial 2 (some .int) ∈ UT := ut 1050 (by decide +kernel) (by decide +kernel)
theorem we_X12_bestCutByTrial : Cond.selects RX12 yX12_bestCutByTrial yX12_bestCutByTrial ∈ UT := ut 1049 (by decide +kernel) (by decide +kernel)
theorem wm_X12_bestCutByTrial : Cond.instanceMethod yX12_bestCutByTrial ∈ UT := ut 1048 (by decide +kernel) (by decide +kernel)
theorem kv_L_82 : GoodIn UT (wsV RL 82 RX12 yX12_bestCutByTrial (Cond.code yX12_bestCutByTrial cX12_bestCutByTrial 2 (some .int) :: UT)) := gu_V (ut 1047 (by decide +kernel) (by decide +kernel)) wm_X12_bestCutByTrial we_X12_bestCutByTrial wi_RX12 wc_X12_bestCutByTrial
def S_L_bestCutByTrial (a1 : Int32) (D : DD) : Option RT := (cX (S_X12_bestCutByTrial a1 D) (fun v3 D2 => (vI v3 (fun r5 => some (0, some (.int (0 : Int32)), (setB D2 0 (vp_updL (D2.2.2.2.1 0) (0 : Int32).toNatClampNeg r5.toInt64)))))) (fun n4 D2 => (if n4 = 1 then some (0, some (.int (1 : Int32)), D2) else none)))
set_option maxRecDepth 100000 in
set_option maxHeartbeats 4000000 in
theorem c_L_bestCutByTrial (l : Launch) (hfl : l.stackTraces = false) (G : va_G) (E : EE) (a1 : Int32) (D : DD) (r : RT) (h : S_L_bestCutByTrial a1 D = some r) : MW l G E yL_bestCutByTrial cL_bestCutByTrial 4 (some .int) [(0, 9, 12, 13)] (rmx 45) [.ref (E.1 0), .int a1, .ref (E.1 99)] D r := by
  refine mw_of rfl (Nat.le_of_ble_eq_true rfl) ?_
  intro p e s m args below meth c X hr htab
  unfold S_L_bestCutByTrial at h
  refine g_aload_n X 2 (i0 := 2) dL_bestCutByTrial_0 rfl rfl ?_
  refine g_iconst X (v := (0 : Int32)) dL_bestCutByTrial_1 (by decide) ?_
  refine g_aload_n X 0 (i0 := 0) dL_bestCutByTrial_2 rfl rfl ?_
  refine g_iload_n X 1 (i0 := 1) dL_bestCutByTrial_3 rfl rfl ?_
  rcases cX_s h with ⟨v3, D2, e1, h⟩ | ⟨n4, v3, D2, e1, e1n, h⟩
  · obtain ⟨r5, e6, h⟩ := vI_s h
    subst e6
    refine gx_V X (As := [.int a1]) (rest := [.int (0 : Int32), .ref (E.1 99)]) (c_X12_bestCutByTrial l hfl G E a1 _ _ e1) 0 (wg_0 E _) rfl rfl kv_L_82 ⟨rfl, rfl⟩ ⟨rfl, hd_X12_bestCutByTrial⟩ (⟨Nat.le_of_ble_eq_true rfl, Nat.le_of_ble_eq_true rfl⟩) (⟨Nat.le_of_ble_eq_true rfl, Nat.le_of_ble_eq_true rfl⟩) rfl rfl (Nat.le_of_ble_eq_true rfl) dL_bestCutByTrial_4 (fun _ => ?_) (fun q => absurd rfl q)
    refine g_i2l X dL_bestCutByTrial_7 ?_
    refine g_last X (D := D2) (f := (D2.2.2.2.1 0)) (i := (0 : Int32)) (x := r5.toInt64) (D' := (setB D2 0 (vp_updL (D2.2.2.2.1 0) (0 : Int32).toNatClampNeg r5.toInt64))) 99 (wg_99 E _) (inB_vp (by decide)) (ws_B_0 E _ _) dL_bestCutByTrial_8 ?_
    refine g_goto X (tgt := 15) dL_bestCutByTrial_9 (by decide) ?_
    refine g_iconst X (v := (0 : Int32)) dL_bestCutByTrial_15 (by decide) ?_
    exact g_iret X hr rfl dL_bestCutByTrial_16 (Option.some.inj h)
  · by_cases u7 : n4 = 1
    · have hh := (ite_s h).1 u7
      clear h
      subst u7
      have h := hh
      clear hh
      refine gx_V X (As := [.int a1]) (rest := [.int (0 : Int32), .ref (E.1 99)]) (c_X12_bestCutByTrial l hfl G E a1 _ _ e1) 0 (wg_0 E _) rfl rfl kv_L_82 ⟨rfl, rfl⟩ ⟨rfl, hd_X12_bestCutByTrial⟩ (⟨Nat.le_of_ble_eq_true rfl, Nat.le_of_ble_eq_true rfl⟩) (⟨Nat.le_of_ble_eq_true rfl, Nat.le_of_ble_eq_true rfl⟩) rfl rfl (Nat.le_of_ble_eq_true rfl) dL_bestCutByTrial_4 (fun q => absurd q (show ¬ (1 : Nat) = 0 by decide)) (fun _ => ⟨[], ⟨0, 9, 12, 13⟩, [], "java/lang/IllegalArgumentException", htab, (fun z hz => absurd hz List.not_mem_nil), by decide, by decide, wcl_L_13, wca_1, fun z8 => ?_⟩)
      refine g_astore_n X (i0 := 3) (lv' := [(3, .ref z8), (0, .ref (E.1 0)), (1, .int a1), (2, .ref (E.1 99))]) dL_bestCutByTrial_12 rfl (by decide) rfl ?_
      refine g_iconst X (v := (1 : Int32)) dL_bestCutByTrial_13 (by decide) ?_
      exact g_iret X hr rfl dL_bestCutByTrial_14 (Option.some.inj h)
    have h := (ite_s h).2 u7
    cases h
theorem hd_X12_fewestPieces : yX12_fewestPieces.cls ≠ "java/lang/invoke/MethodHandle" ∧ yX12_fewestPieces.cls ≠ "java/lang/invoke/VarHandle" ∧ (parseMethodDescriptor yX12_fewestPieces.desc).map (fun d => d.parameters.length) = some 1 := by decide +kernel
theorem wc_X12_fewestPieces : Cond.code yX12_fewestPieces cX12_fewestPieces 2 (some .int) ∈ UT := ut 1057 (by decide +kernel) (by decide +kernel)
theorem we_X12_fewestPieces : Cond.selects RX12 yX12_fewestPieces yX12_fewestPieces ∈ UT := ut 1056 (by decide +kernel) (by decide +kernel)
theorem wm_X12_fewestPieces : Cond.instanceMethod yX12_fewestPieces ∈ UT := ut 1055 (by decide +kernel) (by decide +kernel)
theorem kv_L_85 : GoodIn UT (wsV RL 85 RX12 yX12_fewestPieces (Cond.code yX12_fewestPieces cX12_fewestPieces 2 (some .int) :: UT)) := gu_V (ut 1054 (by decide +kernel) (by decide +kernel)) wm_X12_fewestPieces we_X12_fewestPieces wi_RX12 wc_X12_fewestPieces
def S_L_fewestPieces (a1 : Int32) (D : DD) : Option RT := (cX (S_X12_fewestPieces a1 D) (fun v3 D2 => (vI v3 (fun r5 => some (0, some (.int (0 : Int32)), (setB D2 0 (vp_updL (D2.2.2.2.1 0) (0 : Int32).toNatClampNeg r5.toInt64)))))) (fun n4 D2 => (if n4 = 1 then some (0, some (.int (1 : Int32)), D2) else none)))
set_option maxRecDepth 100000 in
set_option maxHeartbeats 4000000 in
theorem c_L_fewestPieces (l : Launch) (hfl : l.stackTraces = false) (G : va_G) (E : EE) (a1 : Int32) (D : DD) (r : RT) (h : S_L_fewestPieces a1 D = some r) : MW l G E yL_fewestPieces cL_fewestPieces 4 (some .int) [(0, 9, 12, 13)] (rmx 7) [.ref (E.1 0), .int a1, .ref (E.1 99)] D r := by
  refine mw_of rfl (Nat.le_of_ble_eq_true rfl) ?_
  intro p e s m args below meth c X hr htab
  unfold S_L_fewestPieces at h
  refine g_aload_n X 2 (i0 := 2) dL_fewestPieces_0 rfl rfl ?_
  refine g_iconst X (v := (0 : Int32)) dL_fewestPieces_1 (by decide) ?_
  refine g_aload_n X 0 (i0 := 0) dL_fewestPieces_2 rfl rfl ?_
  refine g_iload_n X 1 (i0 := 1) dL_fewestPieces_3 rfl rfl ?_
  rcases cX_s h with ⟨v3, D2, e1, h⟩ | ⟨n4, v3, D2, e1, e1n, h⟩
  · obtain ⟨r5, e6, h⟩ := vI_s h
    subst e6
    refine gx_V X (As := [.int a1]) (rest := [.int (0 : Int32), .ref (E.1 99)]) (c_X12_fewestPieces l hfl G E a1 _ _ e1) 0 (wg_0 E _) rfl rfl kv_L_85 ⟨rfl, rfl⟩ ⟨rfl, hd_X12_fewestPieces⟩ (⟨Nat.le_of_ble_eq_true rfl, Nat.le_of_ble_eq_true rfl⟩) (⟨Nat.le_of_ble_eq_true rfl, Nat.le_of_ble_eq_true rfl⟩) rfl rfl (Nat.le_of_ble_eq_true rfl) dL_fewestPieces_4 (fun _ => ?_) (fun q => absurd rfl q)
    refine g_i2l X dL_fewestPieces_7 ?_
    refine g_last X (D := D2) (f := (D2.2.2.2.1 0)) (i := (0 : Int32)) (x := r5.toInt64) (D' := (setB D2 0 (vp_updL (D2.2.2.2.1 0) (0 : Int32).toNatClampNeg r5.toInt64))) 99 (wg_99 E _) (inB_vp (by decide)) (ws_B_0 E _ _) dL_fewestPieces_8 ?_
    refine g_goto X (tgt := 15) dL_fewestPieces_9 (by decide) ?_
    refine g_iconst X (v := (0 : Int32)) dL_fewestPieces_15 (by decide) ?_
    exact g_iret X hr rfl dL_fewestPieces_16 (Option.some.inj h)
  · by_cases u7 : n4 = 1
    · have hh := (ite_s h).1 u7
      clear h
      subst u7
      have h := hh
      clear hh
      refine gx_V X (As := [.int a1]) (rest := [.int (0 : Int32), .ref (E.1 99)]) (c_X12_fewestPieces l hfl G E a1 _ _ e1) 0 (wg_0 E _) rfl rfl kv_L_85 ⟨rfl, rfl⟩ ⟨rfl, hd_X12_fewestPieces⟩ (⟨Nat.le_of_ble_eq_true rfl, Nat.le_of_ble_eq_true rfl⟩) (⟨Nat.le_of_ble_eq_true rfl, Nat.le_of_ble_eq_true rfl⟩) rfl rfl (Nat.le_of_ble_eq_true rfl) dL_fewestPieces_4 (fun q => absurd q (show ¬ (1 : Nat) = 0 by decide)) (fun _ => ⟨[], ⟨0, 9, 12, 13⟩, [], "java/lang/IllegalArgumentException", htab, (fun z hz => absurd hz List.not_mem_nil), by decide, by decide, wcl_L_13, wca_1, fun z8 => ?_⟩)
      refine g_astore_n X (i0 := 3) (lv' := [(3, .ref z8), (0, .ref (E.1 0)), (1, .int a1), (2, .ref (E.1 99))]) dL_fewestPieces_12 rfl (by decide) rfl ?_
      refine g_iconst X (v := (1 : Int32)) dL_fewestPieces_13 (by decide) ?_
      exact g_iret X hr rfl dL_fewestPieces_14 (Option.some.inj h)
    have h := (ite_s h).2 u7
    cases h
theorem hd_X12_sell : yX12_sell.cls ≠ "java/lang/invoke/MethodHandle" ∧ yX12_sell.cls ≠ "java/lang/invoke/VarHandle" ∧ (parseMethodDescriptor yX12_sell.desc).map (fun d => d.parameters.length) = some 1 := by decide +kernel
theorem wc_X12_sell : Cond.code yX12_sell cX12_sell 3 (some .int) ∈ UT := ut 1068 (by decide +kernel) (by decide +kernel)
theorem we_X12_sell : Cond.selects RX12 yX12_sell yX12_sell ∈ UT := ut 1067 (by decide +kernel) (by decide +kernel)
theorem wm_X12_sell : Cond.instanceMethod yX12_sell ∈ UT := ut 1066 (by decide +kernel) (by decide +kernel)
theorem kv_L_88 : GoodIn UT (wsV RL 88 RX12 yX12_sell (Cond.code yX12_sell cX12_sell 3 (some .int) :: UT)) := gu_V (ut 1065 (by decide +kernel) (by decide +kernel)) wm_X12_sell we_X12_sell wi_RX12 wc_X12_sell
def S_L_sell (a1 : Int32) (D : DD) : Option RT := (cX (S_X12_sell a1 D) (fun v3 D2 => (vI v3 (fun r5 => some (0, some (.int (0 : Int32)), (setB D2 0 (vp_updL (D2.2.2.2.1 0) (0 : Int32).toNatClampNeg r5.toInt64)))))) (fun n4 D2 => (if n4 = 1 then some (0, some (.int (1 : Int32)), D2) else (if n4 = 3 then some (0, some (.int (2 : Int32)), D2) else none))))
set_option maxRecDepth 100000 in
set_option maxHeartbeats 4000000 in
theorem c_L_sell (l : Launch) (hfl : l.stackTraces = false) (G : va_G) (E : EE) (a1 : Int32) (D : DD) (r : RT) (h : S_L_sell a1 D = some r) : MW l G E yL_sell cL_sell 4 (some .int) [(0, 9, 12, 13), (0, 9, 15, 21)] (rmx 7) [.ref (E.1 0), .int a1, .ref (E.1 99)] D r := by
  refine mw_of rfl (Nat.le_of_ble_eq_true rfl) ?_
  intro p e s m args below meth c X hr htab
  unfold S_L_sell at h
  refine g_aload_n X 2 (i0 := 2) dL_sell_0 rfl rfl ?_
  refine g_iconst X (v := (0 : Int32)) dL_sell_1 (by decide) ?_
  refine g_aload_n X 0 (i0 := 0) dL_sell_2 rfl rfl ?_
  refine g_iload_n X 1 (i0 := 1) dL_sell_3 rfl rfl ?_
  rcases cX_s h with ⟨v3, D2, e1, h⟩ | ⟨n4, v3, D2, e1, e1n, h⟩
  · obtain ⟨r5, e6, h⟩ := vI_s h
    subst e6
    refine gx_V X (As := [.int a1]) (rest := [.int (0 : Int32), .ref (E.1 99)]) (c_X12_sell l hfl G E a1 _ _ e1) 0 (wg_0 E _) rfl rfl kv_L_88 ⟨rfl, rfl⟩ ⟨rfl, hd_X12_sell⟩ (⟨Nat.le_of_ble_eq_true rfl, Nat.le_of_ble_eq_true rfl⟩) (⟨Nat.le_of_ble_eq_true rfl, Nat.le_of_ble_eq_true rfl⟩) rfl rfl (Nat.le_of_ble_eq_true rfl) dL_sell_4 (fun _ => ?_) (fun q => absurd rfl q)
    refine g_i2l X dL_sell_7 ?_
    refine g_last X (D := D2) (f := (D2.2.2.2.1 0)) (i := (0 : Int32)) (x := r5.toInt64) (D' := (setB D2 0 (vp_updL (D2.2.2.2.1 0) (0 : Int32).toNatClampNeg r5.toInt64))) 99 (wg_99 E _) (inB_vp (by decide)) (ws_B_0 E _ _) dL_sell_8 ?_
    refine g_goto X (tgt := 18) dL_sell_9 (by decide) ?_
    refine g_iconst X (v := (0 : Int32)) dL_sell_18 (by decide) ?_
    exact g_iret X hr rfl dL_sell_19 (Option.some.inj h)
  · by_cases u7 : n4 = 1
    · have hh := (ite_s h).1 u7
      clear h
      subst u7
      have h := hh
      clear hh
      refine gx_V X (As := [.int a1]) (rest := [.int (0 : Int32), .ref (E.1 99)]) (c_X12_sell l hfl G E a1 _ _ e1) 0 (wg_0 E _) rfl rfl kv_L_88 ⟨rfl, rfl⟩ ⟨rfl, hd_X12_sell⟩ (⟨Nat.le_of_ble_eq_true rfl, Nat.le_of_ble_eq_true rfl⟩) (⟨Nat.le_of_ble_eq_true rfl, Nat.le_of_ble_eq_true rfl⟩) rfl rfl (Nat.le_of_ble_eq_true rfl) dL_sell_4 (fun q => absurd q (show ¬ (1 : Nat) = 0 by decide)) (fun _ => ⟨[], ⟨0, 9, 12, 13⟩, [⟨0, 9, 15, 21⟩], "java/lang/IllegalArgumentException", htab, (fun z hz => absurd hz List.not_mem_nil), by decide, by decide, wcl_L_13, wca_1, fun z8 => ?_⟩)
      refine g_astore_n X (i0 := 3) (lv' := [(3, .ref z8), (0, .ref (E.1 0)), (1, .int a1), (2, .ref (E.1 99))]) dL_sell_12 rfl (by decide) rfl ?_
      refine g_iconst X (v := (1 : Int32)) dL_sell_13 (by decide) ?_
      exact g_iret X hr rfl dL_sell_14 (Option.some.inj h)
    have h := (ite_s h).2 u7
    by_cases u9 : n4 = 3
    · have hh := (ite_s h).1 u9
      clear h
      subst u9
      have h := hh
      clear hh
      refine gx_V X (As := [.int a1]) (rest := [.int (0 : Int32), .ref (E.1 99)]) (c_X12_sell l hfl G E a1 _ _ e1) 0 (wg_0 E _) rfl rfl kv_L_88 ⟨rfl, rfl⟩ ⟨rfl, hd_X12_sell⟩ (⟨Nat.le_of_ble_eq_true rfl, Nat.le_of_ble_eq_true rfl⟩) (⟨Nat.le_of_ble_eq_true rfl, Nat.le_of_ble_eq_true rfl⟩) rfl rfl (Nat.le_of_ble_eq_true rfl) dL_sell_4 (fun q => absurd q (show ¬ (3 : Nat) = 0 by decide)) (fun _ => ⟨[⟨0, 9, 12, 13⟩], ⟨0, 9, 15, 21⟩, [], "java/lang/UnsupportedOperationException", htab, (fun z hz => by rw [List.mem_singleton.mp hz]; exact Or.inr ⟨by decide, "java/lang/IllegalArgumentException", wcl_L_13, (show (exN 3, "java/lang/IllegalArgumentException") ∈ NCS by decide +kernel)⟩), by decide, by decide, wcl_L_21, wca_3, fun z10 => ?_⟩)
      refine g_astore_n X (i0 := 3) (lv' := [(3, .ref z10), (0, .ref (E.1 0)), (1, .int a1), (2, .ref (E.1 99))]) dL_sell_15 rfl (by decide) rfl ?_
      refine g_iconst X (v := (2 : Int32)) dL_sell_16 (by decide) ?_
      exact g_iret X hr rfl dL_sell_17 (Option.some.inj h)
    have h := (ite_s h).2 u9
    cases h
theorem hd_X12_meanHardness : yX12_meanHardness.cls ≠ "java/lang/invoke/MethodHandle" ∧ yX12_meanHardness.cls ≠ "java/lang/invoke/VarHandle" ∧ (parseMethodDescriptor yX12_meanHardness.desc).map (fun d => d.parameters.length) = some 0 := by decide +kernel
theorem wc_X12_meanHardness : Cond.code yX12_meanHardness cX12_meanHardness 2 (some .double) ∈ UT := ut 1102 (by decide +kernel) (by decide +kernel)
theorem we_X12_meanHardness : Cond.selects RX12 yX12_meanHardness yX12_meanHardness ∈ UT := ut 1101 (by decide +kernel) (by decide +kernel)
theorem wm_X12_meanHardness : Cond.instanceMethod yX12_meanHardness ∈ UT := ut 1100 (by decide +kernel) (by decide +kernel)
theorem kv_L_91 : GoodIn UT (wsV RL 91 RX12 yX12_meanHardness (Cond.code yX12_meanHardness cX12_meanHardness 2 (some .double) :: UT)) := gu_V (ut 1099 (by decide +kernel) (by decide +kernel)) wm_X12_meanHardness we_X12_meanHardness wi_RX12 wc_X12_meanHardness
theorem wca_6 : Cond.castable (exN 6) "java/lang/ArithmeticException" ∈ NEST := nst 1097 (by decide +kernel) (by decide +kernel)
theorem wcl_L_95 : Cond.classLink RL 95 "java/lang/ArithmeticException" ∈ UT := ut 1085 (by decide +kernel) (by decide +kernel)
theorem wg_100 (E : EE) (D : DD) : (wd E D)[100]? = some (E.1 100, .inl (E.2 6, 1, .inr (.inr (.inr (.inl (D.2.2.2.2.1 0)))))) := rfl
theorem ws_F_0 (E : EE) (D : DD) (f : Nat → UInt64) : (wd E D).set 100 (E.1 100, .inl (E.2 6, 1, .inr (.inr (.inr (.inl f))))) = wd E (setF D 0 f) := rfl
def S_L_meanHardness  (D : DD) : Option RT := (cX (S_X12_meanHardness D) (fun v3 D2 => (vD v3 (fun r5 => some (0, some (.int (0 : Int32)), (setF D2 0 (vf_upd (D2.2.2.2.2.1 0) (0 : Int32).toNatClampNeg r5)))))) (fun n4 D2 => (if n4 = 6 then some (0, some (.int (1 : Int32)), D2) else none)))
set_option maxRecDepth 100000 in
set_option maxHeartbeats 4000000 in
theorem c_L_meanHardness (l : Launch) (hfl : l.stackTraces = false) (G : va_G) (E : EE)  (D : DD) (r : RT) (h : S_L_meanHardness  D = some r) : MW l G E yL_meanHardness cL_meanHardness 3 (some .int) [(0, 7, 10, 95)] (rmx 7) [.ref (E.1 0), .ref (E.1 100)] D r := by
  refine mw_of rfl (Nat.le_of_ble_eq_true rfl) ?_
  intro p e s m args below meth c X hr htab
  unfold S_L_meanHardness at h
  refine g_aload_n X 1 (i0 := 1) dL_meanHardness_0 rfl rfl ?_
  refine g_iconst X (v := (0 : Int32)) dL_meanHardness_1 (by decide) ?_
  refine g_aload_n X 0 (i0 := 0) dL_meanHardness_2 rfl rfl ?_
  rcases cX_s h with ⟨v3, D2, e1, h⟩ | ⟨n4, v3, D2, e1, e1n, h⟩
  · obtain ⟨r5, e6, h⟩ := vD_s h
    subst e6
    refine gx_V X (As := []) (rest := [.int (0 : Int32), .ref (E.1 100)]) (c_X12_meanHardness l hfl G E  _ _ e1) 0 (wg_0 E _) rfl rfl kv_L_91 ⟨rfl, rfl⟩ ⟨rfl, hd_X12_meanHardness⟩ (⟨Nat.le_of_ble_eq_true rfl, Nat.le_of_ble_eq_true rfl⟩) (⟨Nat.le_of_ble_eq_true rfl, Nat.le_of_ble_eq_true rfl⟩) rfl rfl (Nat.le_of_ble_eq_true rfl) dL_meanHardness_3 (fun _ => ?_) (fun q => absurd rfl q)
    refine g_dast X (D := D2) (f := (D2.2.2.2.2.1 0)) (i := (0 : Int32)) (x := r5) (D' := (setF D2 0 (vf_upd (D2.2.2.2.2.1 0) (0 : Int32).toNatClampNeg r5))) 100 (wg_100 E _) (inB_vp (by decide)) (ws_F_0 E _ _) dL_meanHardness_6 ?_
    refine g_goto X (tgt := 13) dL_meanHardness_7 (by decide) ?_
    refine g_iconst X (v := (0 : Int32)) dL_meanHardness_13 (by decide) ?_
    exact g_iret X hr rfl dL_meanHardness_14 (Option.some.inj h)
  · by_cases u7 : n4 = 6
    · have hh := (ite_s h).1 u7
      clear h
      subst u7
      have h := hh
      clear hh
      refine gx_V X (As := []) (rest := [.int (0 : Int32), .ref (E.1 100)]) (c_X12_meanHardness l hfl G E  _ _ e1) 0 (wg_0 E _) rfl rfl kv_L_91 ⟨rfl, rfl⟩ ⟨rfl, hd_X12_meanHardness⟩ (⟨Nat.le_of_ble_eq_true rfl, Nat.le_of_ble_eq_true rfl⟩) (⟨Nat.le_of_ble_eq_true rfl, Nat.le_of_ble_eq_true rfl⟩) rfl rfl (Nat.le_of_ble_eq_true rfl) dL_meanHardness_3 (fun q => absurd q (show ¬ (6 : Nat) = 0 by decide)) (fun _ => ⟨[], ⟨0, 7, 10, 95⟩, [], "java/lang/ArithmeticException", htab, (fun z hz => absurd hz List.not_mem_nil), by decide, by decide, wcl_L_95, wca_6, fun z8 => ?_⟩)
      refine g_astore_n X (i0 := 2) (lv' := [(2, .ref z8), (0, .ref (E.1 0)), (1, .ref (E.1 100))]) dL_meanHardness_10 rfl (by decide) rfl ?_
      refine g_iconst X (v := (1 : Int32)) dL_meanHardness_11 (by decide) ?_
      exact g_iret X hr rfl dL_meanHardness_12 (Option.some.inj h)
    have h := (ite_s h).2 u7
    cases h
theorem hd_X12_writeRow : yX12_writeRow.cls ≠ "java/lang/invoke/MethodHandle" ∧ yX12_writeRow.cls ≠ "java/lang/invoke/VarHandle" ∧ (parseMethodDescriptor yX12_writeRow.desc).map (fun d => d.parameters.length) = some 1 := by decide +kernel
theorem wc_X12_writeRow : Cond.code yX12_writeRow cX12_writeRow 2 (some .int) ∈ UT := ut 1116 (by decide +kernel) (by decide +kernel)
theorem we_X12_writeRow : Cond.selects RX12 yX12_writeRow yX12_writeRow ∈ UT := ut 1115 (by decide +kernel) (by decide +kernel)
theorem wm_X12_writeRow : Cond.instanceMethod yX12_writeRow ∈ UT := ut 1114 (by decide +kernel) (by decide +kernel)
theorem kv_L_97 : GoodIn UT (wsV RL 97 RX12 yX12_writeRow (Cond.code yX12_writeRow cX12_writeRow 2 (some .int) :: UT)) := gu_V (ut 1113 (by decide +kernel) (by decide +kernel)) wm_X12_writeRow we_X12_writeRow wi_RX12 wc_X12_writeRow
def S_L_writeRow (a1 : Int32) (D : DD) : Option RT := (cX (S_X12_writeRow a1 D) (fun v3 D2 => (vI v3 (fun r5 => some (0, some (.int (0 : Int32)), (setB D2 0 (vp_updL (D2.2.2.2.1 0) (0 : Int32).toNatClampNeg r5.toInt64)))))) (fun n4 D2 => (if n4 = 1 then some (0, some (.int (1 : Int32)), D2) else none)))
set_option maxRecDepth 100000 in
set_option maxHeartbeats 4000000 in
theorem c_L_writeRow (l : Launch) (hfl : l.stackTraces = false) (G : va_G) (E : EE) (a1 : Int32) (D : DD) (r : RT) (h : S_L_writeRow a1 D = some r) : MW l G E yL_writeRow cL_writeRow 4 (some .int) [(0, 9, 12, 13)] (rmx 7) [.ref (E.1 0), .int a1, .ref (E.1 99)] D r := by
  refine mw_of rfl (Nat.le_of_ble_eq_true rfl) ?_
  intro p e s m args below meth c X hr htab
  unfold S_L_writeRow at h
  refine g_aload_n X 2 (i0 := 2) dL_writeRow_0 rfl rfl ?_
  refine g_iconst X (v := (0 : Int32)) dL_writeRow_1 (by decide) ?_
  refine g_aload_n X 0 (i0 := 0) dL_writeRow_2 rfl rfl ?_
  refine g_iload_n X 1 (i0 := 1) dL_writeRow_3 rfl rfl ?_
  rcases cX_s h with ⟨v3, D2, e1, h⟩ | ⟨n4, v3, D2, e1, e1n, h⟩
  · obtain ⟨r5, e6, h⟩ := vI_s h
    subst e6
    refine gx_V X (As := [.int a1]) (rest := [.int (0 : Int32), .ref (E.1 99)]) (c_X12_writeRow l hfl G E a1 _ _ e1) 0 (wg_0 E _) rfl rfl kv_L_97 ⟨rfl, rfl⟩ ⟨rfl, hd_X12_writeRow⟩ (⟨Nat.le_of_ble_eq_true rfl, Nat.le_of_ble_eq_true rfl⟩) (⟨Nat.le_of_ble_eq_true rfl, Nat.le_of_ble_eq_true rfl⟩) rfl rfl (Nat.le_of_ble_eq_true rfl) dL_writeRow_4 (fun _ => ?_) (fun q => absurd rfl q)
    refine g_i2l X dL_writeRow_7 ?_
    refine g_last X (D := D2) (f := (D2.2.2.2.1 0)) (i := (0 : Int32)) (x := r5.toInt64) (D' := (setB D2 0 (vp_updL (D2.2.2.2.1 0) (0 : Int32).toNatClampNeg r5.toInt64))) 99 (wg_99 E _) (inB_vp (by decide)) (ws_B_0 E _ _) dL_writeRow_8 ?_
    refine g_goto X (tgt := 15) dL_writeRow_9 (by decide) ?_
    refine g_iconst X (v := (0 : Int32)) dL_writeRow_15 (by decide) ?_
    exact g_iret X hr rfl dL_writeRow_16 (Option.some.inj h)
  · by_cases u7 : n4 = 1
    · have hh := (ite_s h).1 u7
      clear h
      subst u7
      have h := hh
      clear hh
      refine gx_V X (As := [.int a1]) (rest := [.int (0 : Int32), .ref (E.1 99)]) (c_X12_writeRow l hfl G E a1 _ _ e1) 0 (wg_0 E _) rfl rfl kv_L_97 ⟨rfl, rfl⟩ ⟨rfl, hd_X12_writeRow⟩ (⟨Nat.le_of_ble_eq_true rfl, Nat.le_of_ble_eq_true rfl⟩) (⟨Nat.le_of_ble_eq_true rfl, Nat.le_of_ble_eq_true rfl⟩) rfl rfl (Nat.le_of_ble_eq_true rfl) dL_writeRow_4 (fun q => absurd q (show ¬ (1 : Nat) = 0 by decide)) (fun _ => ⟨[], ⟨0, 9, 12, 13⟩, [], "java/lang/IllegalArgumentException", htab, (fun z hz => absurd hz List.not_mem_nil), by decide, by decide, wcl_L_13, wca_1, fun z8 => ?_⟩)
      refine g_astore_n X (i0 := 3) (lv' := [(3, .ref z8), (0, .ref (E.1 0)), (1, .int a1), (2, .ref (E.1 99))]) dL_writeRow_12 rfl (by decide) rfl ?_
      refine g_iconst X (v := (1 : Int32)) dL_writeRow_13 (by decide) ?_
      exact g_iret X hr rfl dL_writeRow_14 (Option.some.inj h)
    have h := (ite_s h).2 u7
    cases h
theorem hd_X12_writeCharge : yX12_writeCharge.cls ≠ "java/lang/invoke/MethodHandle" ∧ yX12_writeCharge.cls ≠ "java/lang/invoke/VarHandle" ∧ (parseMethodDescriptor yX12_writeCharge.desc).map (fun d => d.parameters.length) = some 1 := by decide +kernel
theorem wc_X12_writeCharge : Cond.code yX12_writeCharge cX12_writeCharge 2 (some .int) ∈ UT := ut 1143 (by decide +kernel) (by decide +kernel)
theorem we_X12_writeCharge : Cond.selects RX12 yX12_writeCharge yX12_writeCharge ∈ UT := ut 1142 (by decide +kernel) (by decide +kernel)
theorem wm_X12_writeCharge : Cond.instanceMethod yX12_writeCharge ∈ UT := ut 1141 (by decide +kernel) (by decide +kernel)
theorem kv_L_100 : GoodIn UT (wsV RL 100 RX12 yX12_writeCharge (Cond.code yX12_writeCharge cX12_writeCharge 2 (some .int) :: UT)) := gu_V (ut 1140 (by decide +kernel) (by decide +kernel)) wm_X12_writeCharge we_X12_writeCharge wi_RX12 wc_X12_writeCharge
def S_L_writeCharge (a1 : Int32) (D : DD) : Option RT := (cX (S_X12_writeCharge a1 D) (fun v3 D2 => (vI v3 (fun r5 => some (0, some (.int (0 : Int32)), (setB D2 0 (vp_updL (D2.2.2.2.1 0) (0 : Int32).toNatClampNeg r5.toInt64)))))) (fun n4 D2 => (if n4 = 4 then some (0, some (.int (1 : Int32)), D2) else none)))
set_option maxRecDepth 100000 in
set_option maxHeartbeats 4000000 in
theorem c_L_writeCharge (l : Launch) (hfl : l.stackTraces = false) (G : va_G) (E : EE) (a1 : Int32) (D : DD) (r : RT) (h : S_L_writeCharge a1 D = some r) : MW l G E yL_writeCharge cL_writeCharge 4 (some .int) [(0, 9, 12, 44)] (rmx 7) [.ref (E.1 0), .int a1, .ref (E.1 99)] D r := by
  refine mw_of rfl (Nat.le_of_ble_eq_true rfl) ?_
  intro p e s m args below meth c X hr htab
  unfold S_L_writeCharge at h
  refine g_aload_n X 2 (i0 := 2) dL_writeCharge_0 rfl rfl ?_
  refine g_iconst X (v := (0 : Int32)) dL_writeCharge_1 (by decide) ?_
  refine g_aload_n X 0 (i0 := 0) dL_writeCharge_2 rfl rfl ?_
  refine g_iload_n X 1 (i0 := 1) dL_writeCharge_3 rfl rfl ?_
  rcases cX_s h with ⟨v3, D2, e1, h⟩ | ⟨n4, v3, D2, e1, e1n, h⟩
  · obtain ⟨r5, e6, h⟩ := vI_s h
    subst e6
    refine gx_V X (As := [.int a1]) (rest := [.int (0 : Int32), .ref (E.1 99)]) (c_X12_writeCharge l hfl G E a1 _ _ e1) 0 (wg_0 E _) rfl rfl kv_L_100 ⟨rfl, rfl⟩ ⟨rfl, hd_X12_writeCharge⟩ (⟨Nat.le_of_ble_eq_true rfl, Nat.le_of_ble_eq_true rfl⟩) (⟨Nat.le_of_ble_eq_true rfl, Nat.le_of_ble_eq_true rfl⟩) rfl rfl (Nat.le_of_ble_eq_true rfl) dL_writeCharge_4 (fun _ => ?_) (fun q => absurd rfl q)
    refine g_i2l X dL_writeCharge_7 ?_
    refine g_last X (D := D2) (f := (D2.2.2.2.1 0)) (i := (0 : Int32)) (x := r5.toInt64) (D' := (setB D2 0 (vp_updL (D2.2.2.2.1 0) (0 : Int32).toNatClampNeg r5.toInt64))) 99 (wg_99 E _) (inB_vp (by decide)) (ws_B_0 E _ _) dL_writeCharge_8 ?_
    refine g_goto X (tgt := 15) dL_writeCharge_9 (by decide) ?_
    refine g_iconst X (v := (0 : Int32)) dL_writeCharge_15 (by decide) ?_
    exact g_iret X hr rfl dL_writeCharge_16 (Option.some.inj h)
  · by_cases u7 : n4 = 4
    · have hh := (ite_s h).1 u7
      clear h
      subst u7
      have h := hh
      clear hh
      refine gx_V X (As := [.int a1]) (rest := [.int (0 : Int32), .ref (E.1 99)]) (c_X12_writeCharge l hfl G E a1 _ _ e1) 0 (wg_0 E _) rfl rfl kv_L_100 ⟨rfl, rfl⟩ ⟨rfl, hd_X12_writeCharge⟩ (⟨Nat.le_of_ble_eq_true rfl, Nat.le_of_ble_eq_true rfl⟩) (⟨Nat.le_of_ble_eq_true rfl, Nat.le_of_ble_eq_true rfl⟩) rfl rfl (Nat.le_of_ble_eq_true rfl) dL_writeCharge_4 (fun q => absurd q (show ¬ (4 : Nat) = 0 by decide)) (fun _ => ⟨[], ⟨0, 9, 12, 44⟩, [], "java/lang/IndexOutOfBoundsException", htab, (fun z hz => absurd hz List.not_mem_nil), by decide, by decide, wcl_L_44, wca_4, fun z8 => ?_⟩)
      refine g_astore_n X (i0 := 3) (lv' := [(3, .ref z8), (0, .ref (E.1 0)), (1, .int a1), (2, .ref (E.1 99))]) dL_writeCharge_12 rfl (by decide) rfl ?_
      refine g_iconst X (v := (1 : Int32)) dL_writeCharge_13 (by decide) ?_
      exact g_iret X hr rfl dL_writeCharge_14 (Option.some.inj h)
    have h := (ite_s h).2 u7
    cases h
theorem hd_X12_lineAt : yX12_lineAt.cls ≠ "java/lang/invoke/MethodHandle" ∧ yX12_lineAt.cls ≠ "java/lang/invoke/VarHandle" ∧ (parseMethodDescriptor yX12_lineAt.desc).map (fun d => d.parameters.length) = some 1 := by decide +kernel
theorem wc_X12_lineAt : Cond.code yX12_lineAt cX12_lineAt 2 (some .char) ∈ UT := ut 1156 (by decide +kernel) (by decide +kernel)
theorem we_X12_lineAt : Cond.selects RX12 yX12_lineAt yX12_lineAt ∈ UT := ut 1155 (by decide +kernel) (by decide +kernel)
theorem wm_X12_lineAt : Cond.instanceMethod yX12_lineAt ∈ UT := ut 1154 (by decide +kernel) (by decide +kernel)
theorem kv_L_103 : GoodIn UT (wsV RL 103 RX12 yX12_lineAt (Cond.code yX12_lineAt cX12_lineAt 2 (some .char) :: UT)) := gu_V (ut 1153 (by decide +kernel) (by decide +kernel)) wm_X12_lineAt we_X12_lineAt wi_RX12 wc_X12_lineAt
def S_L_lineAt (a1 : Int32) (D : DD) : Option RT := (cX (S_X12_lineAt a1 D) (fun v3 D2 => (vI v3 (fun r5 => some (0, some (.int (0 : Int32)), (setB D2 0 (vp_updL (D2.2.2.2.1 0) (0 : Int32).toNatClampNeg r5.toInt64)))))) (fun n4 D2 => (if n4 = 4 then some (0, some (.int (1 : Int32)), D2) else none)))
set_option maxRecDepth 100000 in
set_option maxHeartbeats 4000000 in
theorem c_L_lineAt (l : Launch) (hfl : l.stackTraces = false) (G : va_G) (E : EE) (a1 : Int32) (D : DD) (r : RT) (h : S_L_lineAt a1 D = some r) : MW l G E yL_lineAt cL_lineAt 4 (some .int) [(0, 9, 12, 44)] (rmx 7) [.ref (E.1 0), .int a1, .ref (E.1 99)] D r := by
  refine mw_of rfl (Nat.le_of_ble_eq_true rfl) ?_
  intro p e s m args below meth c X hr htab
  unfold S_L_lineAt at h
  refine g_aload_n X 2 (i0 := 2) dL_lineAt_0 rfl rfl ?_
  refine g_iconst X (v := (0 : Int32)) dL_lineAt_1 (by decide) ?_
  refine g_aload_n X 0 (i0 := 0) dL_lineAt_2 rfl rfl ?_
  refine g_iload_n X 1 (i0 := 1) dL_lineAt_3 rfl rfl ?_
  rcases cX_s h with ⟨v3, D2, e1, h⟩ | ⟨n4, v3, D2, e1, e1n, h⟩
  · obtain ⟨r5, e6, h⟩ := vI_s h
    subst e6
    refine gx_V X (As := [.int a1]) (rest := [.int (0 : Int32), .ref (E.1 99)]) (c_X12_lineAt l hfl G E a1 _ _ e1) 0 (wg_0 E _) rfl rfl kv_L_103 ⟨rfl, rfl⟩ ⟨rfl, hd_X12_lineAt⟩ (⟨Nat.le_of_ble_eq_true rfl, Nat.le_of_ble_eq_true rfl⟩) (⟨Nat.le_of_ble_eq_true rfl, Nat.le_of_ble_eq_true rfl⟩) rfl rfl (Nat.le_of_ble_eq_true rfl) dL_lineAt_4 (fun _ => ?_) (fun q => absurd rfl q)
    refine g_i2l X dL_lineAt_7 ?_
    refine g_last X (D := D2) (f := (D2.2.2.2.1 0)) (i := (0 : Int32)) (x := r5.toInt64) (D' := (setB D2 0 (vp_updL (D2.2.2.2.1 0) (0 : Int32).toNatClampNeg r5.toInt64))) 99 (wg_99 E _) (inB_vp (by decide)) (ws_B_0 E _ _) dL_lineAt_8 ?_
    refine g_goto X (tgt := 15) dL_lineAt_9 (by decide) ?_
    refine g_iconst X (v := (0 : Int32)) dL_lineAt_15 (by decide) ?_
    exact g_iret X hr rfl dL_lineAt_16 (Option.some.inj h)
  · by_cases u7 : n4 = 4
    · have hh := (ite_s h).1 u7
      clear h
      subst u7
      have h := hh
      clear hh
      refine gx_V X (As := [.int a1]) (rest := [.int (0 : Int32), .ref (E.1 99)]) (c_X12_lineAt l hfl G E a1 _ _ e1) 0 (wg_0 E _) rfl rfl kv_L_103 ⟨rfl, rfl⟩ ⟨rfl, hd_X12_lineAt⟩ (⟨Nat.le_of_ble_eq_true rfl, Nat.le_of_ble_eq_true rfl⟩) (⟨Nat.le_of_ble_eq_true rfl, Nat.le_of_ble_eq_true rfl⟩) rfl rfl (Nat.le_of_ble_eq_true rfl) dL_lineAt_4 (fun q => absurd q (show ¬ (4 : Nat) = 0 by decide)) (fun _ => ⟨[], ⟨0, 9, 12, 44⟩, [], "java/lang/IndexOutOfBoundsException", htab, (fun z hz => absurd hz List.not_mem_nil), by decide, by decide, wcl_L_44, wca_4, fun z8 => ?_⟩)
      refine g_astore_n X (i0 := 3) (lv' := [(3, .ref z8), (0, .ref (E.1 0)), (1, .int a1), (2, .ref (E.1 99))]) dL_lineAt_12 rfl (by decide) rfl ?_
      refine g_iconst X (v := (1 : Int32)) dL_lineAt_13 (by decide) ?_
      exact g_iret X hr rfl dL_lineAt_14 (Option.some.inj h)
    have h := (ite_s h).2 u7
    cases h
theorem hd_X12_type : yX12_type.cls ≠ "java/lang/invoke/MethodHandle" ∧ yX12_type.cls ≠ "java/lang/invoke/VarHandle" ∧ (parseMethodDescriptor yX12_type.desc).map (fun d => d.parameters.length) = some 1 := by decide +kernel
theorem wc_X12_type : Cond.code yX12_type cX12_type 2 (some .int) ∈ UT := ut 1173 (by decide +kernel) (by decide +kernel)
theorem we_X12_type : Cond.selects RX12 yX12_type yX12_type ∈ UT := ut 1172 (by decide +kernel) (by decide +kernel)
theorem wm_X12_type : Cond.instanceMethod yX12_type ∈ UT := ut 1171 (by decide +kernel) (by decide +kernel)
theorem kv_L_107 : GoodIn UT (wsV RL 107 RX12 yX12_type (Cond.code yX12_type cX12_type 2 (some .int) :: UT)) := gu_V (ut 1170 (by decide +kernel) (by decide +kernel)) wm_X12_type we_X12_type wi_RX12 wc_X12_type
def S_L_type (a1 : Int32) (D : DD) : Option RT := (cX (S_X12_type a1 D) (fun v3 D2 => (vI v3 (fun r5 => some (0, some (.int (0 : Int32)), (setB D2 0 (vp_updL (D2.2.2.2.1 0) (0 : Int32).toNatClampNeg r5.toInt64)))))) (fun n4 D2 => (if n4 = 1 then some (0, some (.int (1 : Int32)), D2) else (if n4 = 2 then some (0, some (.int (2 : Int32)), D2) else none))))
set_option maxRecDepth 100000 in
set_option maxHeartbeats 4000000 in
theorem c_L_type (l : Launch) (hfl : l.stackTraces = false) (G : va_G) (E : EE) (a1 : Int32) (D : DD) (r : RT) (h : S_L_type a1 D = some r) : MW l G E yL_type cL_type 4 (some .int) [(0, 9, 12, 13), (0, 9, 15, 15)] (rmx 7) [.ref (E.1 0), .int a1, .ref (E.1 99)] D r := by
  refine mw_of rfl (Nat.le_of_ble_eq_true rfl) ?_
  intro p e s m args below meth c X hr htab
  unfold S_L_type at h
  refine g_aload_n X 2 (i0 := 2) dL_type_0 rfl rfl ?_
  refine g_iconst X (v := (0 : Int32)) dL_type_1 (by decide) ?_
  refine g_aload_n X 0 (i0 := 0) dL_type_2 rfl rfl ?_
  refine g_iload_n X 1 (i0 := 1) dL_type_3 rfl rfl ?_
  rcases cX_s h with ⟨v3, D2, e1, h⟩ | ⟨n4, v3, D2, e1, e1n, h⟩
  · obtain ⟨r5, e6, h⟩ := vI_s h
    subst e6
    refine gx_V X (As := [.int a1]) (rest := [.int (0 : Int32), .ref (E.1 99)]) (c_X12_type l hfl G E a1 _ _ e1) 0 (wg_0 E _) rfl rfl kv_L_107 ⟨rfl, rfl⟩ ⟨rfl, hd_X12_type⟩ (⟨Nat.le_of_ble_eq_true rfl, Nat.le_of_ble_eq_true rfl⟩) (⟨Nat.le_of_ble_eq_true rfl, Nat.le_of_ble_eq_true rfl⟩) rfl rfl (Nat.le_of_ble_eq_true rfl) dL_type_4 (fun _ => ?_) (fun q => absurd rfl q)
    refine g_i2l X dL_type_7 ?_
    refine g_last X (D := D2) (f := (D2.2.2.2.1 0)) (i := (0 : Int32)) (x := r5.toInt64) (D' := (setB D2 0 (vp_updL (D2.2.2.2.1 0) (0 : Int32).toNatClampNeg r5.toInt64))) 99 (wg_99 E _) (inB_vp (by decide)) (ws_B_0 E _ _) dL_type_8 ?_
    refine g_goto X (tgt := 18) dL_type_9 (by decide) ?_
    refine g_iconst X (v := (0 : Int32)) dL_type_18 (by decide) ?_
    exact g_iret X hr rfl dL_type_19 (Option.some.inj h)
  · by_cases u7 : n4 = 1
    · have hh := (ite_s h).1 u7
      clear h
      subst u7
      have h := hh
      clear hh
      refine gx_V X (As := [.int a1]) (rest := [.int (0 : Int32), .ref (E.1 99)]) (c_X12_type l hfl G E a1 _ _ e1) 0 (wg_0 E _) rfl rfl kv_L_107 ⟨rfl, rfl⟩ ⟨rfl, hd_X12_type⟩ (⟨Nat.le_of_ble_eq_true rfl, Nat.le_of_ble_eq_true rfl⟩) (⟨Nat.le_of_ble_eq_true rfl, Nat.le_of_ble_eq_true rfl⟩) rfl rfl (Nat.le_of_ble_eq_true rfl) dL_type_4 (fun q => absurd q (show ¬ (1 : Nat) = 0 by decide)) (fun _ => ⟨[], ⟨0, 9, 12, 13⟩, [⟨0, 9, 15, 15⟩], "java/lang/IllegalArgumentException", htab, (fun z hz => absurd hz List.not_mem_nil), by decide, by decide, wcl_L_13, wca_1, fun z8 => ?_⟩)
      refine g_astore_n X (i0 := 3) (lv' := [(3, .ref z8), (0, .ref (E.1 0)), (1, .int a1), (2, .ref (E.1 99))]) dL_type_12 rfl (by decide) rfl ?_
      refine g_iconst X (v := (1 : Int32)) dL_type_13 (by decide) ?_
      exact g_iret X hr rfl dL_type_14 (Option.some.inj h)
    have h := (ite_s h).2 u7
    by_cases u9 : n4 = 2
    · have hh := (ite_s h).1 u9
      clear h
      subst u9
      have h := hh
      clear hh
      refine gx_V X (As := [.int a1]) (rest := [.int (0 : Int32), .ref (E.1 99)]) (c_X12_type l hfl G E a1 _ _ e1) 0 (wg_0 E _) rfl rfl kv_L_107 ⟨rfl, rfl⟩ ⟨rfl, hd_X12_type⟩ (⟨Nat.le_of_ble_eq_true rfl, Nat.le_of_ble_eq_true rfl⟩) (⟨Nat.le_of_ble_eq_true rfl, Nat.le_of_ble_eq_true rfl⟩) rfl rfl (Nat.le_of_ble_eq_true rfl) dL_type_4 (fun q => absurd q (show ¬ (2 : Nat) = 0 by decide)) (fun _ => ⟨[⟨0, 9, 12, 13⟩], ⟨0, 9, 15, 15⟩, [], "java/lang/IllegalStateException", htab, (fun z hz => by rw [List.mem_singleton.mp hz]; exact Or.inr ⟨by decide, "java/lang/IllegalArgumentException", wcl_L_13, (show (exN 2, "java/lang/IllegalArgumentException") ∈ NCS by decide +kernel)⟩), by decide, by decide, wcl_L_15, wca_2, fun z10 => ?_⟩)
      refine g_astore_n X (i0 := 3) (lv' := [(3, .ref z10), (0, .ref (E.1 0)), (1, .int a1), (2, .ref (E.1 99))]) dL_type_15 rfl (by decide) rfl ?_
      refine g_iconst X (v := (2 : Int32)) dL_type_16 (by decide) ?_
      exact g_iret X hr rfl dL_type_17 (Option.some.inj h)
    have h := (ite_s h).2 u9
    cases h
theorem hd_X12_undo : yX12_undo.cls ≠ "java/lang/invoke/MethodHandle" ∧ yX12_undo.cls ≠ "java/lang/invoke/VarHandle" ∧ (parseMethodDescriptor yX12_undo.desc).map (fun d => d.parameters.length) = some 0 := by decide +kernel
theorem wc_X12_undo : Cond.code yX12_undo cX12_undo 1 (some .int) ∈ UT := ut 1326 (by decide +kernel) (by decide +kernel)
theorem we_X12_undo : Cond.selects RX12 yX12_undo yX12_undo ∈ UT := ut 1325 (by decide +kernel) (by decide +kernel)
theorem wm_X12_undo : Cond.instanceMethod yX12_undo ∈ UT := ut 1324 (by decide +kernel) (by decide +kernel)
theorem kv_L_120 : GoodIn UT (wsV RL 120 RX12 yX12_undo (Cond.code yX12_undo cX12_undo 1 (some .int) :: UT)) := gu_V (ut 1323 (by decide +kernel) (by decide +kernel)) wm_X12_undo we_X12_undo wi_RX12 wc_X12_undo
def S_L_undo  (D : DD) : Option RT := (cX (S_X12_undo D) (fun v3 D2 => (vI v3 (fun r5 => some (0, some (.int (0 : Int32)), (setB D2 0 (vp_updL (D2.2.2.2.1 0) (0 : Int32).toNatClampNeg r5.toInt64)))))) (fun n4 D2 => (if n4 = 2 then some (0, some (.int (1 : Int32)), D2) else none)))
set_option maxRecDepth 100000 in
set_option maxHeartbeats 4000000 in
theorem c_L_undo (l : Launch) (hfl : l.stackTraces = false) (G : va_G) (E : EE)  (D : DD) (r : RT) (h : S_L_undo  D = some r) : MW l G E yL_undo cL_undo 3 (some .int) [(0, 8, 11, 15)] (rmx 7) [.ref (E.1 0), .ref (E.1 99)] D r := by
  refine mw_of rfl (Nat.le_of_ble_eq_true rfl) ?_
  intro p e s m args below meth c X hr htab
  unfold S_L_undo at h
  refine g_aload_n X 1 (i0 := 1) dL_undo_0 rfl rfl ?_
  refine g_iconst X (v := (0 : Int32)) dL_undo_1 (by decide) ?_
  refine g_aload_n X 0 (i0 := 0) dL_undo_2 rfl rfl ?_
  rcases cX_s h with ⟨v3, D2, e1, h⟩ | ⟨n4, v3, D2, e1, e1n, h⟩
  · obtain ⟨r5, e6, h⟩ := vI_s h
    subst e6
    refine gx_V X (As := []) (rest := [.int (0 : Int32), .ref (E.1 99)]) (c_X12_undo l hfl G E  _ _ e1) 0 (wg_0 E _) rfl rfl kv_L_120 ⟨rfl, rfl⟩ ⟨rfl, hd_X12_undo⟩ (⟨Nat.le_of_ble_eq_true rfl, Nat.le_of_ble_eq_true rfl⟩) (⟨Nat.le_of_ble_eq_true rfl, Nat.le_of_ble_eq_true rfl⟩) rfl rfl (Nat.le_of_ble_eq_true rfl) dL_undo_3 (fun _ => ?_) (fun q => absurd rfl q)
    refine g_i2l X dL_undo_6 ?_
    refine g_last X (D := D2) (f := (D2.2.2.2.1 0)) (i := (0 : Int32)) (x := r5.toInt64) (D' := (setB D2 0 (vp_updL (D2.2.2.2.1 0) (0 : Int32).toNatClampNeg r5.toInt64))) 99 (wg_99 E _) (inB_vp (by decide)) (ws_B_0 E _ _) dL_undo_7 ?_
    refine g_goto X (tgt := 14) dL_undo_8 (by decide) ?_
    refine g_iconst X (v := (0 : Int32)) dL_undo_14 (by decide) ?_
    exact g_iret X hr rfl dL_undo_15 (Option.some.inj h)
  · by_cases u7 : n4 = 2
    · have hh := (ite_s h).1 u7
      clear h
      subst u7
      have h := hh
      clear hh
      refine gx_V X (As := []) (rest := [.int (0 : Int32), .ref (E.1 99)]) (c_X12_undo l hfl G E  _ _ e1) 0 (wg_0 E _) rfl rfl kv_L_120 ⟨rfl, rfl⟩ ⟨rfl, hd_X12_undo⟩ (⟨Nat.le_of_ble_eq_true rfl, Nat.le_of_ble_eq_true rfl⟩) (⟨Nat.le_of_ble_eq_true rfl, Nat.le_of_ble_eq_true rfl⟩) rfl rfl (Nat.le_of_ble_eq_true rfl) dL_undo_3 (fun q => absurd q (show ¬ (2 : Nat) = 0 by decide)) (fun _ => ⟨[], ⟨0, 8, 11, 15⟩, [], "java/lang/IllegalStateException", htab, (fun z hz => absurd hz List.not_mem_nil), by decide, by decide, wcl_L_15, wca_2, fun z8 => ?_⟩)
      refine g_astore_n X (i0 := 2) (lv' := [(2, .ref z8), (0, .ref (E.1 0)), (1, .ref (E.1 99))]) dL_undo_11 rfl (by decide) rfl ?_
      refine g_iconst X (v := (1 : Int32)) dL_undo_12 (by decide) ?_
      exact g_iret X hr rfl dL_undo_13 (Option.some.inj h)
    have h := (ite_s h).2 u7
    cases h
theorem hd_X12_restore : yX12_restore.cls ≠ "java/lang/invoke/MethodHandle" ∧ yX12_restore.cls ≠ "java/lang/invoke/VarHandle" ∧ (parseMethodDescriptor yX12_restore.desc).map (fun d => d.parameters.length) = some 0 := by decide +kernel
theorem wc_X12_restore : Cond.code yX12_restore cX12_restore 1 (some .int) ∈ UT := ut 1338 (by decide +kernel) (by decide +kernel)
theorem we_X12_restore : Cond.selects RX12 yX12_restore yX12_restore ∈ UT := ut 1337 (by decide +kernel) (by decide +kernel)
theorem wm_X12_restore : Cond.instanceMethod yX12_restore ∈ UT := ut 1336 (by decide +kernel) (by decide +kernel)
theorem kv_L_123 : GoodIn UT (wsV RL 123 RX12 yX12_restore (Cond.code yX12_restore cX12_restore 1 (some .int) :: UT)) := gu_V (ut 1335 (by decide +kernel) (by decide +kernel)) wm_X12_restore we_X12_restore wi_RX12 wc_X12_restore
def S_L_restore  (D : DD) : Option RT := (cX (S_X12_restore D) (fun v3 D2 => (vI v3 (fun r5 => some (0, some (.int (0 : Int32)), (setB D2 0 (vp_updL (D2.2.2.2.1 0) (0 : Int32).toNatClampNeg r5.toInt64)))))) (fun n4 D2 => (if n4 = 2 then some (0, some (.int (1 : Int32)), D2) else none)))
set_option maxRecDepth 100000 in
set_option maxHeartbeats 4000000 in
theorem c_L_restore (l : Launch) (hfl : l.stackTraces = false) (G : va_G) (E : EE)  (D : DD) (r : RT) (h : S_L_restore  D = some r) : MW l G E yL_restore cL_restore 3 (some .int) [(0, 8, 11, 15)] (rmx 7) [.ref (E.1 0), .ref (E.1 99)] D r := by
  refine mw_of rfl (Nat.le_of_ble_eq_true rfl) ?_
  intro p e s m args below meth c X hr htab
  unfold S_L_restore at h
  refine g_aload_n X 1 (i0 := 1) dL_restore_0 rfl rfl ?_
  refine g_iconst X (v := (0 : Int32)) dL_restore_1 (by decide) ?_
  refine g_aload_n X 0 (i0 := 0) dL_restore_2 rfl rfl ?_
  rcases cX_s h with ⟨v3, D2, e1, h⟩ | ⟨n4, v3, D2, e1, e1n, h⟩
  · obtain ⟨r5, e6, h⟩ := vI_s h
    subst e6
    refine gx_V X (As := []) (rest := [.int (0 : Int32), .ref (E.1 99)]) (c_X12_restore l hfl G E  _ _ e1) 0 (wg_0 E _) rfl rfl kv_L_123 ⟨rfl, rfl⟩ ⟨rfl, hd_X12_restore⟩ (⟨Nat.le_of_ble_eq_true rfl, Nat.le_of_ble_eq_true rfl⟩) (⟨Nat.le_of_ble_eq_true rfl, Nat.le_of_ble_eq_true rfl⟩) rfl rfl (Nat.le_of_ble_eq_true rfl) dL_restore_3 (fun _ => ?_) (fun q => absurd rfl q)
    refine g_i2l X dL_restore_6 ?_
    refine g_last X (D := D2) (f := (D2.2.2.2.1 0)) (i := (0 : Int32)) (x := r5.toInt64) (D' := (setB D2 0 (vp_updL (D2.2.2.2.1 0) (0 : Int32).toNatClampNeg r5.toInt64))) 99 (wg_99 E _) (inB_vp (by decide)) (ws_B_0 E _ _) dL_restore_7 ?_
    refine g_goto X (tgt := 14) dL_restore_8 (by decide) ?_
    refine g_iconst X (v := (0 : Int32)) dL_restore_14 (by decide) ?_
    exact g_iret X hr rfl dL_restore_15 (Option.some.inj h)
  · by_cases u7 : n4 = 2
    · have hh := (ite_s h).1 u7
      clear h
      subst u7
      have h := hh
      clear hh
      refine gx_V X (As := []) (rest := [.int (0 : Int32), .ref (E.1 99)]) (c_X12_restore l hfl G E  _ _ e1) 0 (wg_0 E _) rfl rfl kv_L_123 ⟨rfl, rfl⟩ ⟨rfl, hd_X12_restore⟩ (⟨Nat.le_of_ble_eq_true rfl, Nat.le_of_ble_eq_true rfl⟩) (⟨Nat.le_of_ble_eq_true rfl, Nat.le_of_ble_eq_true rfl⟩) rfl rfl (Nat.le_of_ble_eq_true rfl) dL_restore_3 (fun q => absurd q (show ¬ (2 : Nat) = 0 by decide)) (fun _ => ⟨[], ⟨0, 8, 11, 15⟩, [], "java/lang/IllegalStateException", htab, (fun z hz => absurd hz List.not_mem_nil), by decide, by decide, wcl_L_15, wca_2, fun z8 => ?_⟩)
      refine g_astore_n X (i0 := 2) (lv' := [(2, .ref z8), (0, .ref (E.1 0)), (1, .ref (E.1 99))]) dL_restore_11 rfl (by decide) rfl ?_
      refine g_iconst X (v := (1 : Int32)) dL_restore_12 (by decide) ?_
      exact g_iret X hr rfl dL_restore_13 (Option.some.inj h)
    have h := (ite_s h).2 u7
    cases h
