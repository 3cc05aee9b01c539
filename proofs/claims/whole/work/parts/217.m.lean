theorem hd_X12_faultOfCommand : yX12_faultOfCommand.cls ≠ "java/lang/invoke/MethodHandle" ∧ yX12_faultOfCommand.cls ≠ "java/lang/invoke/VarHandle" ∧ (parseMethodDescriptor yX12_faultOfCommand.desc).map (fun d => d.parameters.length) = some 4 := by decide +kernel
theorem hd_X4_parameterAt : yX4_parameterAt.cls ≠ "java/lang/invoke/MethodHandle" ∧ yX4_parameterAt.cls ≠ "java/lang/invoke/VarHandle" ∧ (parseMethodDescriptor yX4_parameterAt.desc).map (fun d => d.parameters.length) = some 2 := by decide +kernel
theorem wc_X4_parameterAt : Cond.code yX4_parameterAt cX4_parameterAt 4 (some .int) ∈ UT := ut 1290 (by decide +kernel) (by decide +kernel)
theorem we_X4_parameterAt : Cond.selects RX4 yX4_parameterAt yX4_parameterAt ∈ UT := ut 1289 (by decide +kernel) (by decide +kernel)
theorem wm_X4_parameterAt : Cond.instanceMethod yX4_parameterAt ∈ UT := ut 1288 (by decide +kernel) (by decide +kernel)
theorem kv_X12_371 : GoodIn UT (wsV RX12 371 RX4 yX4_parameterAt (Cond.code yX4_parameterAt cX4_parameterAt 4 (some .int) :: UT)) := gu_V (ut 1287 (by decide +kernel) (by decide +kernel)) wm_X4_parameterAt we_X4_parameterAt wi_RX4 wc_X4_parameterAt
theorem wc_X12_faultOfCommand : Cond.code yX12_faultOfCommand cX12_faultOfCommand 5 (some .int) ∈ UT := ut 1294 (by decide +kernel) (by decide +kernel)
theorem we_X12_faultOfCommand : Cond.selects RX12 yX12_faultOfCommand yX12_faultOfCommand ∈ UT := ut 36 (by decide +kernel) (by decide +kernel)
theorem wm_X12_faultOfCommand : Cond.instanceMethod yX12_faultOfCommand ∈ UT := ut 1293 (by decide +kernel) (by decide +kernel)
theorem kv_X12_374 : GoodIn UT (wsV RX12 374 RX12 yX12_faultOfCommand (Cond.code yX12_faultOfCommand cX12_faultOfCommand 5 (some .int) :: UT)) := gu_V (ut 1291 (by decide +kernel) (by decide +kernel)) wm_X12_faultOfCommand we_X12_faultOfCommand wi_RX12 wc_X12_faultOfCommand
def S_X12_carryOut_x_K0 (a1 : Int32) (D : DD) : Option RT := (cI (S_X4_parameterAt a1 (0 : Int32) D) (fun r3 D2 => (cI (S_X4_parameterAt a1 (1 : Int32) D2) (fun r6 D5 => (cI (S_X4_parameterAt a1 (2 : Int32) D5) (fun r9 D8 => (cI (S_X12_faultOfCommand_x_K0 r3 r6 r9 D8) (fun r12 D11 => (if r12 = 0 then (if (1 : Int32) = (1 : Int32) then (cI (S_X12_cellAt r3 r6 D11) (fun r16 D15 => (cI (S_X8_harden r16 r9 D15) (fun r19 D18 => some (0, some (.int (1 : Int32)), D18))))) else (if (1 : Int32) = (2 : Int32) then (cI (S_X12_cellAt r3 r6 D11) (fun r23 D22 => (cI (S_X8_lay r23 r9 D22) (fun r26 D25 => some (0, some (.int (1 : Int32)), D25))))) else (if (1 : Int32) = (3 : Int32) then (cI (S_X8_takeAway r3 D11) (fun r30 D29 => some (0, some (.int (1 : Int32)), D29))) else (if (1 : Int32) = (4 : Int32) then (cI (S_X12_blowUp r3 D11) (fun r34 D33 => some (0, some (.int (1 : Int32)), D33))) else (if (1 : Int32) = (5 : Int32) then (cI (S_X12_cellAt r3 r6 D11) (fun r38 D37 => (cL (S_X8_digOut r38 D37) (fun r41 D40 => some (0, some (.int (1 : Int32)), D40))))) else (if (1 : Int32) = (6 : Int32) then (cI (S_X8_putPrice r3 r6 D11) (fun r45 D44 => some (0, some (.int (1 : Int32)), D44))) else (cI (S_X12_sellBar r3 D11) (fun r48 D47 => some (0, some (.int (1 : Int32)), D47))))))))) else some (0, some (.int (0 : Int32)), D11))))))))))
set_option maxRecDepth 100000 in
set_option maxHeartbeats 4000000 in
theorem c_X12_carryOut_x_K0 (l : Launch) (G : va_G) (E : EE) (a1 : Int32) (D : DD) (r : RT) (h : S_X12_carryOut_x_K0 a1 D = some r) : MM l G E yX12_carryOut cX12_carryOut 6 (some .boolean) (rmm 5) [.ref (E.1 0), .ref (E.1 1000), .int a1] D r := by
  refine m_of rfl (Nat.le_of_ble_eq_true rfl) ?_
  intro p e s m args below meth c X hr
  unfold S_X12_carryOut_x_K0 at h
  refine g_aload_n X 1 (i0 := 1) dX12_carryOut_0 rfl rfl ?_
  refine g_ifnonnull X (tgt := 6) dX12_carryOut_1 (by decide) ?_
  refine g_aload_n X 0 (i0 := 0) dX12_carryOut_6 rfl rfl ?_
  refine g_get X (D := D) (v := .ref (E.1 80)) (T := TX12) 0 uX12 (wg_0 E _) rfl 11 (by decide) fl_X12_81 rfl rfl dX12_carryOut_7 ?_
  refine g_iload_n X 2 (i0 := 2) dX12_carryOut_10 rfl rfl ?_
  refine g_iconst X (v := (0 : Int32)) dX12_carryOut_11 (by decide) ?_
  obtain ⟨r3, D2, e1, h⟩ := cI_s h
  refine g_V X (As := [.int a1, .int (0 : Int32)]) (rest := []) (c_X4_parameterAt l G E a1 (0 : Int32) _ _ e1) 80 (wg_80 E _) rfl rfl kv_X12_371 ⟨rfl, rfl⟩ ⟨rfl, hd_X4_parameterAt⟩ (⟨Nat.le_of_ble_eq_true rfl, Nat.le_of_ble_eq_true rfl⟩) rfl rfl (Nat.le_of_ble_eq_true rfl) dX12_carryOut_12 ?_
  refine g_istore_n X (i0 := 3) (lv' := [(3, .int r3), (0, .ref (E.1 0)), (1, .ref (E.1 1000)), (2, .int a1)]) dX12_carryOut_15 rfl (by decide) rfl ?_
  refine g_aload_n X 1 (i0 := 0) dX12_carryOut_16 rfl rfl ?_
  refine g_get X (D := D2) (v := .ref (E.1 80)) (T := TX12) 0 uX12 (wg_0 E _) rfl 11 (by decide) fl_X12_81 rfl rfl dX12_carryOut_17 ?_
  refine g_iload_n X 3 (i0 := 2) dX12_carryOut_20 rfl rfl ?_
  refine g_iconst X (v := (1 : Int32)) dX12_carryOut_21 (by decide) ?_
  obtain ⟨r6, D5, e4, h⟩ := cI_s h
  refine g_V X (As := [.int a1, .int (1 : Int32)]) (rest := []) (c_X4_parameterAt l G E a1 (1 : Int32) _ _ e4) 80 (wg_80 E _) rfl rfl kv_X12_371 ⟨rfl, rfl⟩ ⟨rfl, hd_X4_parameterAt⟩ (⟨Nat.le_of_ble_eq_true rfl, Nat.le_of_ble_eq_true rfl⟩) rfl rfl (Nat.le_of_ble_eq_true rfl) dX12_carryOut_22 ?_
  refine g_istore X (lv' := [(4, .int r6), (3, .int r3), (0, .ref (E.1 0)), (1, .ref (E.1 1000)), (2, .int a1)]) dX12_carryOut_25 (by decide) rfl ?_
  refine g_aload_n X 2 (i0 := 0) dX12_carryOut_27 rfl rfl ?_
  refine g_get X (D := D5) (v := .ref (E.1 80)) (T := TX12) 0 uX12 (wg_0 E _) rfl 11 (by decide) fl_X12_81 rfl rfl dX12_carryOut_28 ?_
  refine g_iload_n X 4 (i0 := 2) dX12_carryOut_31 rfl rfl ?_
  refine g_iconst X (v := (2 : Int32)) dX12_carryOut_32 (by decide) ?_
  obtain ⟨r9, D8, e7, h⟩ := cI_s h
  refine g_V X (As := [.int a1, .int (2 : Int32)]) (rest := []) (c_X4_parameterAt l G E a1 (2 : Int32) _ _ e7) 80 (wg_80 E _) rfl rfl kv_X12_371 ⟨rfl, rfl⟩ ⟨rfl, hd_X4_parameterAt⟩ (⟨Nat.le_of_ble_eq_true rfl, Nat.le_of_ble_eq_true rfl⟩) rfl rfl (Nat.le_of_ble_eq_true rfl) dX12_carryOut_33 ?_
  refine g_istore X (lv' := [(5, .int r9), (4, .int r6), (3, .int r3), (0, .ref (E.1 0)), (1, .ref (E.1 1000)), (2, .int a1)]) dX12_carryOut_36 (by decide) rfl ?_
  refine g_aload_n X 3 (i0 := 0) dX12_carryOut_38 rfl rfl ?_
  refine g_aload_n X 4 (i0 := 1) dX12_carryOut_39 rfl rfl ?_
  refine g_iload_n X 2 (i0 := 3) dX12_carryOut_40 rfl rfl ?_
  refine g_iload X 1 dX12_carryOut_41 rfl ?_
  refine g_iload X 0 dX12_carryOut_43 rfl ?_
  obtain ⟨r12, D11, e10, h⟩ := cI_s h
  refine g_V X (As := [.ref (E.1 1000), .int r3, .int r6, .int r9]) (rest := []) (c_X12_faultOfCommand_x_K0 l G E r3 r6 r9 _ _ e10) 0 (wg_0 E _) rfl rfl kv_X12_374 ⟨rfl, rfl⟩ ⟨rfl, hd_X12_faultOfCommand⟩ (⟨Nat.le_of_ble_eq_true rfl, Nat.le_of_ble_eq_true rfl⟩) rfl rfl (Nat.le_of_ble_eq_true rfl) dX12_carryOut_45 ?_
  refine g_if_eq X (tgt := 53) dX12_carryOut_48 (by decide) (fun c49 => ?_) (fun c49 => ?_)
  · have h := (ite_s h).1 c49
    refine g_gets X (v := .ref (E.1 1021)) X.2.2.2.2.2.2.2.2.2.1 fl_X12_378 dX12_carryOut_53 ?_
    refine g_aload_n X 4 (i0 := 1) dX12_carryOut_56 rfl rfl ?_
    refine g_ord X (v := (0 : Int32)) (X.2.2.2.2.2.2.1 0 (by decide)).1 (X.2.2.2.2.2.2.1 0 (by decide)).2.1 wo_link_X12_384 wo_same wo_sel wo_inst wo_code wo_fl (Nat.le_of_ble_eq_true rfl) (Nat.le_of_ble_eq_true rfl) (Nat.le_of_ble_eq_true rfl) dX12_carryOut_57 ?_
    refine g_ti X X.2.2.2.2.2.2.2.2.2.2.1 (i := (0 : Int32)) (v := .int (1 : Int32)) (inB_vp (by decide)) rfl dX12_carryOut_60 ?_
    by_cases w13 : (1 : Int32) = (1 : Int32)
    · have h := (ite_s h).1 w13
      refine g_tswIn X (tgt := 100) dX12_carryOut_61 w13 (by decide) (by decide) rfl (by decide) ?_
      refine g_aload_n X 3 (i0 := 0) dX12_carryOut_100 rfl rfl ?_
      refine g_get X (D := D11) (v := .ref (E.1 1)) (T := TX12) 0 uX12 (wg_0 E _) rfl 0 (by decide) fl_X12_10 rfl rfl dX12_carryOut_101 ?_
      refine g_iload_n X 2 (i0 := 3) dX12_carryOut_104 rfl rfl ?_
      refine g_iload X 1 dX12_carryOut_105 rfl ?_
      obtain ⟨r16, D15, e14, h⟩ := cI_s h
      refine g_S X (As := [.int r3, .int r6]) (rest := [.ref (E.1 1)]) (c_X12_cellAt l G E r3 r6 _ _ e14) ks_X12_112 ⟨rfl, rfl⟩ hd_X12_cellAt (⟨Nat.le_of_ble_eq_true rfl, Nat.le_of_ble_eq_true rfl⟩) rfl rfl (Nat.le_of_ble_eq_true rfl) dX12_carryOut_107 ?_
      refine g_iload X 0 dX12_carryOut_110 rfl ?_
      obtain ⟨r19, D18, e17, h⟩ := cI_s h
      refine g_V X (As := [.int r16, .int r9]) (rest := []) (c_X8_harden l G E r16 r9 _ _ e17) 1 (wg_1 E _) rfl rfl kv_X12_116 ⟨rfl, rfl⟩ ⟨rfl, hd_X8_harden⟩ (⟨Nat.le_of_ble_eq_true rfl, Nat.le_of_ble_eq_true rfl⟩) rfl rfl (Nat.le_of_ble_eq_true rfl) dX12_carryOut_112 ?_
      refine g_pop X dX12_carryOut_115 rfl ?_
      refine g_goto X (tgt := 196) dX12_carryOut_116 (by decide) ?_
      refine g_iconst X (v := (1 : Int32)) dX12_carryOut_196 (by decide) ?_
      exact g_iret X hr rfl dX12_carryOut_197 (Option.some.inj h)
    have h := (ite_s h).2 w13
    by_cases w20 : (1 : Int32) = (2 : Int32)
    · have h := (ite_s h).1 w20
      refine g_tswIn X (tgt := 119) dX12_carryOut_61 w20 (by decide) (by decide) rfl (by decide) ?_
      refine g_aload_n X 3 (i0 := 0) dX12_carryOut_119 rfl rfl ?_
      refine g_get X (D := D11) (v := .ref (E.1 1)) (T := TX12) 0 uX12 (wg_0 E _) rfl 0 (by decide) fl_X12_10 rfl rfl dX12_carryOut_120 ?_
      refine g_iload_n X 2 (i0 := 3) dX12_carryOut_123 rfl rfl ?_
      refine g_iload X 1 dX12_carryOut_124 rfl ?_
      obtain ⟨r23, D22, e21, h⟩ := cI_s h
      refine g_S X (As := [.int r3, .int r6]) (rest := [.ref (E.1 1)]) (c_X12_cellAt l G E r3 r6 _ _ e21) ks_X12_112 ⟨rfl, rfl⟩ hd_X12_cellAt (⟨Nat.le_of_ble_eq_true rfl, Nat.le_of_ble_eq_true rfl⟩) rfl rfl (Nat.le_of_ble_eq_true rfl) dX12_carryOut_126 ?_
      refine g_iload X 0 dX12_carryOut_129 rfl ?_
      obtain ⟨r26, D25, e24, h⟩ := cI_s h
      refine g_V X (As := [.int r23, .int r9]) (rest := []) (c_X8_lay l G E r23 r9 _ _ e24) 1 (wg_1 E _) rfl rfl kv_X12_167 ⟨rfl, rfl⟩ ⟨rfl, hd_X8_lay⟩ (⟨Nat.le_of_ble_eq_true rfl, Nat.le_of_ble_eq_true rfl⟩) rfl rfl (Nat.le_of_ble_eq_true rfl) dX12_carryOut_131 ?_
      refine g_pop X dX12_carryOut_134 rfl ?_
      refine g_goto X (tgt := 196) dX12_carryOut_135 (by decide) ?_
      refine g_iconst X (v := (1 : Int32)) dX12_carryOut_196 (by decide) ?_
      exact g_iret X hr rfl dX12_carryOut_197 (Option.some.inj h)
    have h := (ite_s h).2 w20
    by_cases w27 : (1 : Int32) = (3 : Int32)
    · have h := (ite_s h).1 w27
      refine g_tswIn X (tgt := 138) dX12_carryOut_61 w27 (by decide) (by decide) rfl (by decide) ?_
      refine g_aload_n X 3 (i0 := 0) dX12_carryOut_138 rfl rfl ?_
      refine g_get X (D := D11) (v := .ref (E.1 1)) (T := TX12) 0 uX12 (wg_0 E _) rfl 0 (by decide) fl_X12_10 rfl rfl dX12_carryOut_139 ?_
      refine g_iload_n X 2 (i0 := 3) dX12_carryOut_142 rfl rfl ?_
      obtain ⟨r30, D29, e28, h⟩ := cI_s h
      refine g_V X (As := [.int r3]) (rest := []) (c_X8_takeAway l G E r3 _ _ e28) 1 (wg_1 E _) rfl rfl kv_X12_178 ⟨rfl, rfl⟩ ⟨rfl, hd_X8_takeAway⟩ (⟨Nat.le_of_ble_eq_true rfl, Nat.le_of_ble_eq_true rfl⟩) rfl rfl (Nat.le_of_ble_eq_true rfl) dX12_carryOut_143 ?_
      refine g_pop X dX12_carryOut_146 rfl ?_
      refine g_goto X (tgt := 196) dX12_carryOut_147 (by decide) ?_
      refine g_iconst X (v := (1 : Int32)) dX12_carryOut_196 (by decide) ?_
      exact g_iret X hr rfl dX12_carryOut_197 (Option.some.inj h)
    have h := (ite_s h).2 w27
    by_cases w31 : (1 : Int32) = (4 : Int32)
    · have h := (ite_s h).1 w31
      refine g_tswIn X (tgt := 150) dX12_carryOut_61 w31 (by decide) (by decide) rfl (by decide) ?_
      refine g_aload_n X 3 (i0 := 0) dX12_carryOut_150 rfl rfl ?_
      refine g_iload_n X 2 (i0 := 3) dX12_carryOut_151 rfl rfl ?_
      obtain ⟨r34, D33, e32, h⟩ := cI_s h
      refine g_V X (As := [.int r3]) (rest := []) (c_X12_blowUp l G E r3 _ _ e32) 0 (wg_0 E _) rfl rfl kv_X12_181 ⟨rfl, rfl⟩ ⟨rfl, hd_X12_blowUp⟩ (⟨Nat.le_of_ble_eq_true rfl, Nat.le_of_ble_eq_true rfl⟩) rfl rfl (Nat.le_of_ble_eq_true rfl) dX12_carryOut_152 ?_
      refine g_pop X dX12_carryOut_155 rfl ?_
      refine g_goto X (tgt := 196) dX12_carryOut_156 (by decide) ?_
      refine g_iconst X (v := (1 : Int32)) dX12_carryOut_196 (by decide) ?_
      exact g_iret X hr rfl dX12_carryOut_197 (Option.some.inj h)
    have h := (ite_s h).2 w31
    by_cases w35 : (1 : Int32) = (5 : Int32)
    · have h := (ite_s h).1 w35
      refine g_tswIn X (tgt := 159) dX12_carryOut_61 w35 (by decide) (by decide) rfl (by decide) ?_
      refine g_aload_n X 3 (i0 := 0) dX12_carryOut_159 rfl rfl ?_
      refine g_get X (D := D11) (v := .ref (E.1 1)) (T := TX12) 0 uX12 (wg_0 E _) rfl 0 (by decide) fl_X12_10 rfl rfl dX12_carryOut_160 ?_
      refine g_iload_n X 2 (i0 := 3) dX12_carryOut_163 rfl rfl ?_
      refine g_iload X 1 dX12_carryOut_164 rfl ?_
      obtain ⟨r38, D37, e36, h⟩ := cI_s h
      refine g_S X (As := [.int r3, .int r6]) (rest := [.ref (E.1 1)]) (c_X12_cellAt l G E r3 r6 _ _ e36) ks_X12_112 ⟨rfl, rfl⟩ hd_X12_cellAt (⟨Nat.le_of_ble_eq_true rfl, Nat.le_of_ble_eq_true rfl⟩) rfl rfl (Nat.le_of_ble_eq_true rfl) dX12_carryOut_166 ?_
      obtain ⟨r41, D40, e39, h⟩ := cL_s h
      refine g_V X (As := [.int r38]) (rest := []) (c_X8_digOut l G E r38 _ _ e39) 1 (wg_1 E _) rfl rfl kv_X12_131 ⟨rfl, rfl⟩ ⟨rfl, hd_X8_digOut⟩ (⟨Nat.le_of_ble_eq_true rfl, Nat.le_of_ble_eq_true rfl⟩) rfl rfl (Nat.le_of_ble_eq_true rfl) dX12_carryOut_169 ?_
      refine g_pop2 X dX12_carryOut_172 rfl ?_
      refine g_goto X (tgt := 196) dX12_carryOut_173 (by decide) ?_
      refine g_iconst X (v := (1 : Int32)) dX12_carryOut_196 (by decide) ?_
      exact g_iret X hr rfl dX12_carryOut_197 (Option.some.inj h)
    have h := (ite_s h).2 w35
    by_cases w42 : (1 : Int32) = (6 : Int32)
    · have h := (ite_s h).1 w42
      refine g_tswIn X (tgt := 176) dX12_carryOut_61 w42 (by decide) (by decide) rfl (by decide) ?_
      refine g_aload_n X 3 (i0 := 0) dX12_carryOut_176 rfl rfl ?_
      refine g_get X (D := D11) (v := .ref (E.1 1)) (T := TX12) 0 uX12 (wg_0 E _) rfl 0 (by decide) fl_X12_10 rfl rfl dX12_carryOut_177 ?_
      refine g_iload_n X 2 (i0 := 3) dX12_carryOut_180 rfl rfl ?_
      refine g_iload X 1 dX12_carryOut_181 rfl ?_
      obtain ⟨r45, D44, e43, h⟩ := cI_s h
      refine g_V X (As := [.int r3, .int r6]) (rest := []) (c_X8_putPrice l G E r3 r6 _ _ e43) 1 (wg_1 E _) rfl rfl kv_X12_235 ⟨rfl, rfl⟩ ⟨rfl, hd_X8_putPrice⟩ (⟨Nat.le_of_ble_eq_true rfl, Nat.le_of_ble_eq_true rfl⟩) rfl rfl (Nat.le_of_ble_eq_true rfl) dX12_carryOut_183 ?_
      refine g_pop X dX12_carryOut_186 rfl ?_
      refine g_goto X (tgt := 196) dX12_carryOut_187 (by decide) ?_
      refine g_iconst X (v := (1 : Int32)) dX12_carryOut_196 (by decide) ?_
      exact g_iret X hr rfl dX12_carryOut_197 (Option.some.inj h)
    have h := (ite_s h).2 w42
    have zw13 := lv_neT w13 (show (1 : Int32).toInt = 1 by decide)
    have zw20 := lv_neT w20 (show (2 : Int32).toInt = 2 by decide)
    have zw27 := lv_neT w27 (show (3 : Int32).toInt = 3 by decide)
    have zw31 := lv_neT w31 (show (4 : Int32).toInt = 4 by decide)
    have zw35 := lv_neT w35 (show (5 : Int32).toInt = 5 by decide)
    have zw42 := lv_neT w42 (show (6 : Int32).toInt = 6 by decide)
    refine g_tswOut X (tgt := 190) dX12_carryOut_61 (by omega) (by decide) ?_
    refine g_aload_n X 3 (i0 := 0) dX12_carryOut_190 rfl rfl ?_
    refine g_iload_n X 2 (i0 := 3) dX12_carryOut_191 rfl rfl ?_
    obtain ⟨r48, D47, e46, h⟩ := cI_s h
    refine g_V X (As := [.int r3]) (rest := []) (c_X12_sellBar l G E r3 _ _ e46) 0 (wg_0 E _) rfl rfl kv_X12_257 ⟨rfl, rfl⟩ ⟨rfl, hd_X12_sellBar⟩ (⟨Nat.le_of_ble_eq_true rfl, Nat.le_of_ble_eq_true rfl⟩) rfl rfl (Nat.le_of_ble_eq_true rfl) dX12_carryOut_192 ?_
    refine g_pop X dX12_carryOut_195 rfl ?_
    refine g_iconst X (v := (1 : Int32)) dX12_carryOut_196 (by decide) ?_
    exact g_iret X hr rfl dX12_carryOut_197 (Option.some.inj h)
  · have h := (ite_s h).2 c49
    refine g_iconst X (v := (0 : Int32)) dX12_carryOut_51 (by decide) ?_
    exact g_iret X hr rfl dX12_carryOut_52 (Option.some.inj h)
def S_X12_faultOfCommand_x_K1 (a1 : Int32) (a2 : Int32) (a3 : Int32) (D : DD) : Option RT := (if (2 : Int32) = (1 : Int32) then (cI (S_X8_faultOfHardness a1 a2 a3 D) (fun r4 D3 => some (0, some (.int r4), D3))) else (if (2 : Int32) = (2 : Int32) then (cI (S_X8_faultOfLaying a1 a2 a3 D) (fun r8 D7 => some (0, some (.int r8), D7))) else (if (2 : Int32) = (3 : Int32) then (cI (S_X8_hasCharge a1 D) (fun r12 D11 => (if r12 = 0 then some (0, some (.int (1 : Int32)), D11) else some (0, some (.int (0 : Int32)), D11)))) else (if (2 : Int32) = (4 : Int32) then (cI (S_X8_hasCharge a1 D) (fun r17 D16 => (if r17 = 0 then some (0, some (.int (1 : Int32)), D16) else some (0, some (.int (0 : Int32)), D16)))) else (if (2 : Int32) = (5 : Int32) then (cI (S_X8_faultOfDigging a1 a2 D) (fun r22 D21 => some (0, some (.int r22), D21))) else (if (2 : Int32) = (6 : Int32) then (cI (S_X8_faultOfPrice a1 a2 D) (fun r26 D25 => some (0, some (.int r26), D25))) else (cI (S_X8_faultOfSelling a1 D) (fun r29 D28 => some (0, some (.int r29), D28)))))))))
set_option maxRecDepth 100000 in
set_option maxHeartbeats 4000000 in
theorem c_X12_faultOfCommand_x_K1 (l : Launch) (G : va_G) (E : EE) (a1 : Int32) (a2 : Int32) (a3 : Int32) (D : DD) (r : RT) (h : S_X12_faultOfCommand_x_K1 a1 a2 a3 D = some r) : MM l G E yX12_faultOfCommand cX12_faultOfCommand 5 (some .int) (rmm 4) [.ref (E.1 0), .ref (E.1 1001), .int a1, .int a2, .int a3] D r := by
  refine m_of rfl (Nat.le_of_ble_eq_true rfl) ?_
  intro p e s m args below meth c X hr
  unfold S_X12_faultOfCommand_x_K1 at h
  refine g_gets X (v := .ref (E.1 1021)) X.2.2.2.2.2.2.2.2.2.1 fl_X12_378 dX12_faultOfCommand_0 ?_
  refine g_aload_n X 1 (i0 := 1) dX12_faultOfCommand_3 rfl rfl ?_
  refine g_ord X (v := (1 : Int32)) (X.2.2.2.2.2.2.1 1 (by decide)).1 (X.2.2.2.2.2.2.1 1 (by decide)).2.1 wo_link_X12_384 wo_same wo_sel wo_inst wo_code wo_fl (Nat.le_of_ble_eq_true rfl) (Nat.le_of_ble_eq_true rfl) (Nat.le_of_ble_eq_true rfl) dX12_faultOfCommand_4 ?_
  refine g_ti X X.2.2.2.2.2.2.2.2.2.2.1 (i := (1 : Int32)) (v := .int (2 : Int32)) (inB_vp (by decide)) rfl dX12_faultOfCommand_7 ?_
  by_cases w1 : (2 : Int32) = (1 : Int32)
  · have h := (ite_s h).1 w1
    refine g_tswIn X (tgt := 48) dX12_faultOfCommand_8 w1 (by decide) (by decide) rfl (by decide) ?_
    refine g_aload_n X 0 (i0 := 0) dX12_faultOfCommand_48 rfl rfl ?_
    refine g_get X (D := D) (v := .ref (E.1 1)) (T := TX12) 0 uX12 (wg_0 E _) rfl 0 (by decide) fl_X12_10 rfl rfl dX12_faultOfCommand_49 ?_
    refine g_iload_n X 2 (i0 := 2) dX12_faultOfCommand_52 rfl rfl ?_
    refine g_iload_n X 3 (i0 := 3) dX12_faultOfCommand_53 rfl rfl ?_
    refine g_iload X 4 dX12_faultOfCommand_54 rfl ?_
    obtain ⟨r4, D3, e2, h⟩ := cI_s h
    refine g_V X (As := [.int a1, .int a2, .int a3]) (rest := []) (c_X8_faultOfHardness l G E a1 a2 a3 _ _ e2) 1 (wg_1 E _) rfl rfl kv_X12_92 ⟨rfl, rfl⟩ ⟨rfl, hd_X8_faultOfHardness⟩ (⟨Nat.le_of_ble_eq_true rfl, Nat.le_of_ble_eq_true rfl⟩) rfl rfl (Nat.le_of_ble_eq_true rfl) dX12_faultOfCommand_56 ?_
    exact g_iret X hr rfl dX12_faultOfCommand_59 (Option.some.inj h)
  have h := (ite_s h).2 w1
  by_cases w5 : (2 : Int32) = (2 : Int32)
  · have h := (ite_s h).1 w5
    refine g_tswIn X (tgt := 60) dX12_faultOfCommand_8 w5 (by decide) (by decide) rfl (by decide) ?_
    refine g_aload_n X 0 (i0 := 0) dX12_faultOfCommand_60 rfl rfl ?_
    refine g_get X (D := D) (v := .ref (E.1 1)) (T := TX12) 0 uX12 (wg_0 E _) rfl 0 (by decide) fl_X12_10 rfl rfl dX12_faultOfCommand_61 ?_
    refine g_iload_n X 2 (i0 := 2) dX12_faultOfCommand_64 rfl rfl ?_
    refine g_iload_n X 3 (i0 := 3) dX12_faultOfCommand_65 rfl rfl ?_
    refine g_iload X 4 dX12_faultOfCommand_66 rfl ?_
    obtain ⟨r8, D7, e6, h⟩ := cI_s h
    refine g_V X (As := [.int a1, .int a2, .int a3]) (rest := []) (c_X8_faultOfLaying l G E a1 a2 a3 _ _ e6) 1 (wg_1 E _) rfl rfl kv_X12_160 ⟨rfl, rfl⟩ ⟨rfl, hd_X8_faultOfLaying⟩ (⟨Nat.le_of_ble_eq_true rfl, Nat.le_of_ble_eq_true rfl⟩) rfl rfl (Nat.le_of_ble_eq_true rfl) dX12_faultOfCommand_68 ?_
    exact g_iret X hr rfl dX12_faultOfCommand_71 (Option.some.inj h)
  have h := (ite_s h).2 w5
  by_cases w9 : (2 : Int32) = (3 : Int32)
  · have h := (ite_s h).1 w9
    refine g_tswIn X (tgt := 72) dX12_faultOfCommand_8 w9 (by decide) (by decide) rfl (by decide) ?_
    refine g_aload_n X 0 (i0 := 0) dX12_faultOfCommand_72 rfl rfl ?_
    refine g_get X (D := D) (v := .ref (E.1 1)) (T := TX12) 0 uX12 (wg_0 E _) rfl 0 (by decide) fl_X12_10 rfl rfl dX12_faultOfCommand_73 ?_
    refine g_iload_n X 2 (i0 := 2) dX12_faultOfCommand_76 rfl rfl ?_
    obtain ⟨r12, D11, e10, h⟩ := cI_s h
    refine g_V X (As := [.int a1]) (rest := []) (c_X8_hasCharge l G E a1 _ _ e10) 1 (wg_1 E _) rfl rfl kv_X12_170 ⟨rfl, rfl⟩ ⟨rfl, hd_X8_hasCharge⟩ (⟨Nat.le_of_ble_eq_true rfl, Nat.le_of_ble_eq_true rfl⟩) rfl rfl (Nat.le_of_ble_eq_true rfl) dX12_faultOfCommand_77 ?_
    refine g_if_eq X (tgt := 87) dX12_faultOfCommand_80 (by decide) (fun c13 => ?_) (fun c13 => ?_)
    · have h := (ite_s h).1 c13
      refine g_iconst X (v := (1 : Int32)) dX12_faultOfCommand_87 (by decide) ?_
      exact g_iret X hr rfl dX12_faultOfCommand_88 (Option.some.inj h)
    · have h := (ite_s h).2 c13
      refine g_iconst X (v := (0 : Int32)) dX12_faultOfCommand_83 (by decide) ?_
      refine g_goto X (tgt := 88) dX12_faultOfCommand_84 (by decide) ?_
      exact g_iret X hr rfl dX12_faultOfCommand_88 (Option.some.inj h)
  have h := (ite_s h).2 w9
  by_cases w14 : (2 : Int32) = (4 : Int32)
  · have h := (ite_s h).1 w14
    refine g_tswIn X (tgt := 72) dX12_faultOfCommand_8 w14 (by decide) (by decide) rfl (by decide) ?_
    refine g_aload_n X 0 (i0 := 0) dX12_faultOfCommand_72 rfl rfl ?_
    refine g_get X (D := D) (v := .ref (E.1 1)) (T := TX12) 0 uX12 (wg_0 E _) rfl 0 (by decide) fl_X12_10 rfl rfl dX12_faultOfCommand_73 ?_
    refine g_iload_n X 2 (i0 := 2) dX12_faultOfCommand_76 rfl rfl ?_
    obtain ⟨r17, D16, e15, h⟩ := cI_s h
    refine g_V X (As := [.int a1]) (rest := []) (c_X8_hasCharge l G E a1 _ _ e15) 1 (wg_1 E _) rfl rfl kv_X12_170 ⟨rfl, rfl⟩ ⟨rfl, hd_X8_hasCharge⟩ (⟨Nat.le_of_ble_eq_true rfl, Nat.le_of_ble_eq_true rfl⟩) rfl rfl (Nat.le_of_ble_eq_true rfl) dX12_faultOfCommand_77 ?_
    refine g_if_eq X (tgt := 87) dX12_faultOfCommand_80 (by decide) (fun c18 => ?_) (fun c18 => ?_)
    · have h := (ite_s h).1 c18
      refine g_iconst X (v := (1 : Int32)) dX12_faultOfCommand_87 (by decide) ?_
      exact g_iret X hr rfl dX12_faultOfCommand_88 (Option.some.inj h)
    · have h := (ite_s h).2 c18
      refine g_iconst X (v := (0 : Int32)) dX12_faultOfCommand_83 (by decide) ?_
      refine g_goto X (tgt := 88) dX12_faultOfCommand_84 (by decide) ?_
      exact g_iret X hr rfl dX12_faultOfCommand_88 (Option.some.inj h)
  have h := (ite_s h).2 w14
  by_cases w19 : (2 : Int32) = (5 : Int32)
  · have h := (ite_s h).1 w19
    refine g_tswIn X (tgt := 89) dX12_faultOfCommand_8 w19 (by decide) (by decide) rfl (by decide) ?_
    refine g_aload_n X 0 (i0 := 0) dX12_faultOfCommand_89 rfl rfl ?_
    refine g_get X (D := D) (v := .ref (E.1 1)) (T := TX12) 0 uX12 (wg_0 E _) rfl 0 (by decide) fl_X12_10 rfl rfl dX12_faultOfCommand_90 ?_
    refine g_iload_n X 2 (i0 := 2) dX12_faultOfCommand_93 rfl rfl ?_
    refine g_iload_n X 3 (i0 := 3) dX12_faultOfCommand_94 rfl rfl ?_
    obtain ⟨r22, D21, e20, h⟩ := cI_s h
    refine g_V X (As := [.int a1, .int a2]) (rest := []) (c_X8_faultOfDigging l G E a1 a2 _ _ e20) 1 (wg_1 E _) rfl rfl kv_X12_119 ⟨rfl, rfl⟩ ⟨rfl, hd_X8_faultOfDigging⟩ (⟨Nat.le_of_ble_eq_true rfl, Nat.le_of_ble_eq_true rfl⟩) rfl rfl (Nat.le_of_ble_eq_true rfl) dX12_faultOfCommand_95 ?_
    exact g_iret X hr rfl dX12_faultOfCommand_98 (Option.some.inj h)
  have h := (ite_s h).2 w19
  by_cases w23 : (2 : Int32) = (6 : Int32)
  · have h := (ite_s h).1 w23
    refine g_tswIn X (tgt := 99) dX12_faultOfCommand_8 w23 (by decide) (by decide) rfl (by decide) ?_
    refine g_aload_n X 0 (i0 := 0) dX12_faultOfCommand_99 rfl rfl ?_
    refine g_get X (D := D) (v := .ref (E.1 1)) (T := TX12) 0 uX12 (wg_0 E _) rfl 0 (by decide) fl_X12_10 rfl rfl dX12_faultOfCommand_100 ?_
    refine g_iload_n X 2 (i0 := 2) dX12_faultOfCommand_103 rfl rfl ?_
    refine g_iload_n X 3 (i0 := 3) dX12_faultOfCommand_104 rfl rfl ?_
    obtain ⟨r26, D25, e24, h⟩ := cI_s h
    refine g_V X (As := [.int a1, .int a2]) (rest := []) (c_X8_faultOfPrice l G E a1 a2 _ _ e24) 1 (wg_1 E _) rfl rfl kv_X12_230 ⟨rfl, rfl⟩ ⟨rfl, hd_X8_faultOfPrice⟩ (⟨Nat.le_of_ble_eq_true rfl, Nat.le_of_ble_eq_true rfl⟩) rfl rfl (Nat.le_of_ble_eq_true rfl) dX12_faultOfCommand_105 ?_
    exact g_iret X hr rfl dX12_faultOfCommand_108 (Option.some.inj h)
  have h := (ite_s h).2 w23
  have zw1 := lv_neT w1 (show (1 : Int32).toInt = 1 by decide)
  have zw5 := lv_neT w5 (show (2 : Int32).toInt = 2 by decide)
  have zw9 := lv_neT w9 (show (3 : Int32).toInt = 3 by decide)
  have zw14 := lv_neT w14 (show (4 : Int32).toInt = 4 by decide)
  have zw19 := lv_neT w19 (show (5 : Int32).toInt = 5 by decide)
  have zw23 := lv_neT w23 (show (6 : Int32).toInt = 6 by decide)
  refine g_tswOut X (tgt := 109) dX12_faultOfCommand_8 (by omega) (by decide) ?_
  refine g_aload_n X 0 (i0 := 0) dX12_faultOfCommand_109 rfl rfl ?_
  refine g_get X (D := D) (v := .ref (E.1 1)) (T := TX12) 0 uX12 (wg_0 E _) rfl 0 (by decide) fl_X12_10 rfl rfl dX12_faultOfCommand_110 ?_
  refine g_iload_n X 2 (i0 := 2) dX12_faultOfCommand_113 rfl rfl ?_
  obtain ⟨r29, D28, e27, h⟩ := cI_s h
  refine g_V X (As := [.int a1]) (rest := []) (c_X8_faultOfSelling l G E a1 _ _ e27) 1 (wg_1 E _) rfl rfl kv_X12_252 ⟨rfl, rfl⟩ ⟨rfl, hd_X8_faultOfSelling⟩ (⟨Nat.le_of_ble_eq_true rfl, Nat.le_of_ble_eq_true rfl⟩) rfl rfl (Nat.le_of_ble_eq_true rfl) dX12_faultOfCommand_114 ?_
  exact g_iret X hr rfl dX12_faultOfCommand_117 (Option.some.inj h)
def S_X12_carryOut_x_K1 (a1 : Int32) (D : DD) : Option RT := (cI (S_X4_parameterAt a1 (0 : Int32) D) (fun r3 D2 => (cI (S_X4_parameterAt a1 (1 : Int32) D2) (fun r6 D5 => (cI (S_X4_parameterAt a1 (2 : Int32) D5) (fun r9 D8 => (cI (S_X12_faultOfCommand_x_K1 r3 r6 r9 D8) (fun r12 D11 => (if r12 = 0 then (if (2 : Int32) = (1 : Int32) then (cI (S_X12_cellAt r3 r6 D11) (fun r16 D15 => (cI (S_X8_harden r16 r9 D15) (fun r19 D18 => some (0, some (.int (1 : Int32)), D18))))) else (if (2 : Int32) = (2 : Int32) then (cI (S_X12_cellAt r3 r6 D11) (fun r23 D22 => (cI (S_X8_lay r23 r9 D22) (fun r26 D25 => some (0, some (.int (1 : Int32)), D25))))) else (if (2 : Int32) = (3 : Int32) then (cI (S_X8_takeAway r3 D11) (fun r30 D29 => some (0, some (.int (1 : Int32)), D29))) else (if (2 : Int32) = (4 : Int32) then (cI (S_X12_blowUp r3 D11) (fun r34 D33 => some (0, some (.int (1 : Int32)), D33))) else (if (2 : Int32) = (5 : Int32) then (cI (S_X12_cellAt r3 r6 D11) (fun r38 D37 => (cL (S_X8_digOut r38 D37) (fun r41 D40 => some (0, some (.int (1 : Int32)), D40))))) else (if (2 : Int32) = (6 : Int32) then (cI (S_X8_putPrice r3 r6 D11) (fun r45 D44 => some (0, some (.int (1 : Int32)), D44))) else (cI (S_X12_sellBar r3 D11) (fun r48 D47 => some (0, some (.int (1 : Int32)), D47))))))))) else some (0, some (.int (0 : Int32)), D11))))))))))
set_option maxRecDepth 100000 in
set_option maxHeartbeats 4000000 in
theorem c_X12_carryOut_x_K1 (l : Launch) (G : va_G) (E : EE) (a1 : Int32) (D : DD) (r : RT) (h : S_X12_carryOut_x_K1 a1 D = some r) : MM l G E yX12_carryOut cX12_carryOut 6 (some .boolean) (rmm 5) [.ref (E.1 0), .ref (E.1 1001), .int a1] D r := by
  refine m_of rfl (Nat.le_of_ble_eq_true rfl) ?_
  intro p e s m args below meth c X hr
  unfold S_X12_carryOut_x_K1 at h
  refine g_aload_n X 1 (i0 := 1) dX12_carryOut_0 rfl rfl ?_
  refine g_ifnonnull X (tgt := 6) dX12_carryOut_1 (by decide) ?_
  refine g_aload_n X 0 (i0 := 0) dX12_carryOut_6 rfl rfl ?_
  refine g_get X (D := D) (v := .ref (E.1 80)) (T := TX12) 0 uX12 (wg_0 E _) rfl 11 (by decide) fl_X12_81 rfl rfl dX12_carryOut_7 ?_
  refine g_iload_n X 2 (i0 := 2) dX12_carryOut_10 rfl rfl ?_
  refine g_iconst X (v := (0 : Int32)) dX12_carryOut_11 (by decide) ?_
  obtain ⟨r3, D2, e1, h⟩ := cI_s h
  refine g_V X (As := [.int a1, .int (0 : Int32)]) (rest := []) (c_X4_parameterAt l G E a1 (0 : Int32) _ _ e1) 80 (wg_80 E _) rfl rfl kv_X12_371 ⟨rfl, rfl⟩ ⟨rfl, hd_X4_parameterAt⟩ (⟨Nat.le_of_ble_eq_true rfl, Nat.le_of_ble_eq_true rfl⟩) rfl rfl (Nat.le_of_ble_eq_true rfl) dX12_carryOut_12 ?_
  refine g_istore_n X (i0 := 3) (lv' := [(3, .int r3), (0, .ref (E.1 0)), (1, .ref (E.1 1001)), (2, .int a1)]) dX12_carryOut_15 rfl (by decide) rfl ?_
  refine g_aload_n X 1 (i0 := 0) dX12_carryOut_16 rfl rfl ?_
  refine g_get X (D := D2) (v := .ref (E.1 80)) (T := TX12) 0 uX12 (wg_0 E _) rfl 11 (by decide) fl_X12_81 rfl rfl dX12_carryOut_17 ?_
  refine g_iload_n X 3 (i0 := 2) dX12_carryOut_20 rfl rfl ?_
  refine g_iconst X (v := (1 : Int32)) dX12_carryOut_21 (by decide) ?_
  obtain ⟨r6, D5, e4, h⟩ := cI_s h
  refine g_V X (As := [.int a1, .int (1 : Int32)]) (rest := []) (c_X4_parameterAt l G E a1 (1 : Int32) _ _ e4) 80 (wg_80 E _) rfl rfl kv_X12_371 ⟨rfl, rfl⟩ ⟨rfl, hd_X4_parameterAt⟩ (⟨Nat.le_of_ble_eq_true rfl, Nat.le_of_ble_eq_true rfl⟩) rfl rfl (Nat.le_of_ble_eq_true rfl) dX12_carryOut_22 ?_
  refine g_istore X (lv' := [(4, .int r6), (3, .int r3), (0, .ref (E.1 0)), (1, .ref (E.1 1001)), (2, .int a1)]) dX12_carryOut_25 (by decide) rfl ?_
  refine g_aload_n X 2 (i0 := 0) dX12_carryOut_27 rfl rfl ?_
  refine g_get X (D := D5) (v := .ref (E.1 80)) (T := TX12) 0 uX12 (wg_0 E _) rfl 11 (by decide) fl_X12_81 rfl rfl dX12_carryOut_28 ?_
  refine g_iload_n X 4 (i0 := 2) dX12_carryOut_31 rfl rfl ?_
  refine g_iconst X (v := (2 : Int32)) dX12_carryOut_32 (by decide) ?_
  obtain ⟨r9, D8, e7, h⟩ := cI_s h
  refine g_V X (As := [.int a1, .int (2 : Int32)]) (rest := []) (c_X4_parameterAt l G E a1 (2 : Int32) _ _ e7) 80 (wg_80 E _) rfl rfl kv_X12_371 ⟨rfl, rfl⟩ ⟨rfl, hd_X4_parameterAt⟩ (⟨Nat.le_of_ble_eq_true rfl, Nat.le_of_ble_eq_true rfl⟩) rfl rfl (Nat.le_of_ble_eq_true rfl) dX12_carryOut_33 ?_
  refine g_istore X (lv' := [(5, .int r9), (4, .int r6), (3, .int r3), (0, .ref (E.1 0)), (1, .ref (E.1 1001)), (2, .int a1)]) dX12_carryOut_36 (by decide) rfl ?_
  refine g_aload_n X 3 (i0 := 0) dX12_carryOut_38 rfl rfl ?_
  refine g_aload_n X 4 (i0 := 1) dX12_carryOut_39 rfl rfl ?_
  refine g_iload_n X 2 (i0 := 3) dX12_carryOut_40 rfl rfl ?_
  refine g_iload X 1 dX12_carryOut_41 rfl ?_
  refine g_iload X 0 dX12_carryOut_43 rfl ?_
  obtain ⟨r12, D11, e10, h⟩ := cI_s h
  refine g_V X (As := [.ref (E.1 1001), .int r3, .int r6, .int r9]) (rest := []) (c_X12_faultOfCommand_x_K1 l G E r3 r6 r9 _ _ e10) 0 (wg_0 E _) rfl rfl kv_X12_374 ⟨rfl, rfl⟩ ⟨rfl, hd_X12_faultOfCommand⟩ (⟨Nat.le_of_ble_eq_true rfl, Nat.le_of_ble_eq_true rfl⟩) rfl rfl (Nat.le_of_ble_eq_true rfl) dX12_carryOut_45 ?_
  refine g_if_eq X (tgt := 53) dX12_carryOut_48 (by decide) (fun c49 => ?_) (fun c49 => ?_)
  · have h := (ite_s h).1 c49
    refine g_gets X (v := .ref (E.1 1021)) X.2.2.2.2.2.2.2.2.2.1 fl_X12_378 dX12_carryOut_53 ?_
    refine g_aload_n X 4 (i0 := 1) dX12_carryOut_56 rfl rfl ?_
    refine g_ord X (v := (1 : Int32)) (X.2.2.2.2.2.2.1 1 (by decide)).1 (X.2.2.2.2.2.2.1 1 (by decide)).2.1 wo_link_X12_384 wo_same wo_sel wo_inst wo_code wo_fl (Nat.le_of_ble_eq_true rfl) (Nat.le_of_ble_eq_true rfl) (Nat.le_of_ble_eq_true rfl) dX12_carryOut_57 ?_
    refine g_ti X X.2.2.2.2.2.2.2.2.2.2.1 (i := (1 : Int32)) (v := .int (2 : Int32)) (inB_vp (by decide)) rfl dX12_carryOut_60 ?_
    by_cases w13 : (2 : Int32) = (1 : Int32)
    · have h := (ite_s h).1 w13
      refine g_tswIn X (tgt := 100) dX12_carryOut_61 w13 (by decide) (by decide) rfl (by decide) ?_
      refine g_aload_n X 3 (i0 := 0) dX12_carryOut_100 rfl rfl ?_
      refine g_get X (D := D11) (v := .ref (E.1 1)) (T := TX12) 0 uX12 (wg_0 E _) rfl 0 (by decide) fl_X12_10 rfl rfl dX12_carryOut_101 ?_
      refine g_iload_n X 2 (i0 := 3) dX12_carryOut_104 rfl rfl ?_
      refine g_iload X 1 dX12_carryOut_105 rfl ?_
      obtain ⟨r16, D15, e14, h⟩ := cI_s h
      refine g_S X (As := [.int r3, .int r6]) (rest := [.ref (E.1 1)]) (c_X12_cellAt l G E r3 r6 _ _ e14) ks_X12_112 ⟨rfl, rfl⟩ hd_X12_cellAt (⟨Nat.le_of_ble_eq_true rfl, Nat.le_of_ble_eq_true rfl⟩) rfl rfl (Nat.le_of_ble_eq_true rfl) dX12_carryOut_107 ?_
      refine g_iload X 0 dX12_carryOut_110 rfl ?_
      obtain ⟨r19, D18, e17, h⟩ := cI_s h
      refine g_V X (As := [.int r16, .int r9]) (rest := []) (c_X8_harden l G E r16 r9 _ _ e17) 1 (wg_1 E _) rfl rfl kv_X12_116 ⟨rfl, rfl⟩ ⟨rfl, hd_X8_harden⟩ (⟨Nat.le_of_ble_eq_true rfl, Nat.le_of_ble_eq_true rfl⟩) rfl rfl (Nat.le_of_ble_eq_true rfl) dX12_carryOut_112 ?_
      refine g_pop X dX12_carryOut_115 rfl ?_
      refine g_goto X (tgt := 196) dX12_carryOut_116 (by decide) ?_
      refine g_iconst X (v := (1 : Int32)) dX12_carryOut_196 (by decide) ?_
      exact g_iret X hr rfl dX12_carryOut_197 (Option.some.inj h)
    have h := (ite_s h).2 w13
    by_cases w20 : (2 : Int32) = (2 : Int32)
    · have h := (ite_s h).1 w20
      refine g_tswIn X (tgt := 119) dX12_carryOut_61 w20 (by decide) (by decide) rfl (by decide) ?_
      refine g_aload_n X 3 (i0 := 0) dX12_carryOut_119 rfl rfl ?_
      refine g_get X (D := D11) (v := .ref (E.1 1)) (T := TX12) 0 uX12 (wg_0 E _) rfl 0 (by decide) fl_X12_10 rfl rfl dX12_carryOut_120 ?_
      refine g_iload_n X 2 (i0 := 3) dX12_carryOut_123 rfl rfl ?_
      refine g_iload X 1 dX12_carryOut_124 rfl ?_
      obtain ⟨r23, D22, e21, h⟩ := cI_s h
      refine g_S X (As := [.int r3, .int r6]) (rest := [.ref (E.1 1)]) (c_X12_cellAt l G E r3 r6 _ _ e21) ks_X12_112 ⟨rfl, rfl⟩ hd_X12_cellAt (⟨Nat.le_of_ble_eq_true rfl, Nat.le_of_ble_eq_true rfl⟩) rfl rfl (Nat.le_of_ble_eq_true rfl) dX12_carryOut_126 ?_
      refine g_iload X 0 dX12_carryOut_129 rfl ?_
      obtain ⟨r26, D25, e24, h⟩ := cI_s h
      refine g_V X (As := [.int r23, .int r9]) (rest := []) (c_X8_lay l G E r23 r9 _ _ e24) 1 (wg_1 E _) rfl rfl kv_X12_167 ⟨rfl, rfl⟩ ⟨rfl, hd_X8_lay⟩ (⟨Nat.le_of_ble_eq_true rfl, Nat.le_of_ble_eq_true rfl⟩) rfl rfl (Nat.le_of_ble_eq_true rfl) dX12_carryOut_131 ?_
      refine g_pop X dX12_carryOut_134 rfl ?_
      refine g_goto X (tgt := 196) dX12_carryOut_135 (by decide) ?_
      refine g_iconst X (v := (1 : Int32)) dX12_carryOut_196 (by decide) ?_
      exact g_iret X hr rfl dX12_carryOut_197 (Option.some.inj h)
    have h := (ite_s h).2 w20
    by_cases w27 : (2 : Int32) = (3 : Int32)
    · have h := (ite_s h).1 w27
      refine g_tswIn X (tgt := 138) dX12_carryOut_61 w27 (by decide) (by decide) rfl (by decide) ?_
      refine g_aload_n X 3 (i0 := 0) dX12_carryOut_138 rfl rfl ?_
      refine g_get X (D := D11) (v := .ref (E.1 1)) (T := TX12) 0 uX12 (wg_0 E _) rfl 0 (by decide) fl_X12_10 rfl rfl dX12_carryOut_139 ?_
      refine g_iload_n X 2 (i0 := 3) dX12_carryOut_142 rfl rfl ?_
      obtain ⟨r30, D29, e28, h⟩ := cI_s h
      refine g_V X (As := [.int r3]) (rest := []) (c_X8_takeAway l G E r3 _ _ e28) 1 (wg_1 E _) rfl rfl kv_X12_178 ⟨rfl, rfl⟩ ⟨rfl, hd_X8_takeAway⟩ (⟨Nat.le_of_ble_eq_true rfl, Nat.le_of_ble_eq_true rfl⟩) rfl rfl (Nat.le_of_ble_eq_true rfl) dX12_carryOut_143 ?_
      refine g_pop X dX12_carryOut_146 rfl ?_
      refine g_goto X (tgt := 196) dX12_carryOut_147 (by decide) ?_
      refine g_iconst X (v := (1 : Int32)) dX12_carryOut_196 (by decide) ?_
      exact g_iret X hr rfl dX12_carryOut_197 (Option.some.inj h)
    have h := (ite_s h).2 w27
    by_cases w31 : (2 : Int32) = (4 : Int32)
    · have h := (ite_s h).1 w31
      refine g_tswIn X (tgt := 150) dX12_carryOut_61 w31 (by decide) (by decide) rfl (by decide) ?_
      refine g_aload_n X 3 (i0 := 0) dX12_carryOut_150 rfl rfl ?_
      refine g_iload_n X 2 (i0 := 3) dX12_carryOut_151 rfl rfl ?_
      obtain ⟨r34, D33, e32, h⟩ := cI_s h
      refine g_V X (As := [.int r3]) (rest := []) (c_X12_blowUp l G E r3 _ _ e32) 0 (wg_0 E _) rfl rfl kv_X12_181 ⟨rfl, rfl⟩ ⟨rfl, hd_X12_blowUp⟩ (⟨Nat.le_of_ble_eq_true rfl, Nat.le_of_ble_eq_true rfl⟩) rfl rfl (Nat.le_of_ble_eq_true rfl) dX12_carryOut_152 ?_
      refine g_pop X dX12_carryOut_155 rfl ?_
      refine g_goto X (tgt := 196) dX12_carryOut_156 (by decide) ?_
      refine g_iconst X (v := (1 : Int32)) dX12_carryOut_196 (by decide) ?_
      exact g_iret X hr rfl dX12_carryOut_197 (Option.some.inj h)
    have h := (ite_s h).2 w31
    by_cases w35 : (2 : Int32) = (5 : Int32)
    · have h := (ite_s h).1 w35
      refine g_tswIn X (tgt := 159) dX12_carryOut_61 w35 (by decide) (by decide) rfl (by decide) ?_
      refine g_aload_n X 3 (i0 := 0) dX12_carryOut_159 rfl rfl ?_
      refine g_get X (D := D11) (v := .ref (E.1 1)) (T := TX12) 0 uX12 (wg_0 E _) rfl 0 (by decide) fl_X12_10 rfl rfl dX12_carryOut_160 ?_
      refine g_iload_n X 2 (i0 := 3) dX12_carryOut_163 rfl rfl ?_
      refine g_iload X 1 dX12_carryOut_164 rfl ?_
      obtain ⟨r38, D37, e36, h⟩ := cI_s h
      refine g_S X (As := [.int r3, .int r6]) (rest := [.ref (E.1 1)]) (c_X12_cellAt l G E r3 r6 _ _ e36) ks_X12_112 ⟨rfl, rfl⟩ hd_X12_cellAt (⟨Nat.le_of_ble_eq_true rfl, Nat.le_of_ble_eq_true rfl⟩) rfl rfl (Nat.le_of_ble_eq_true rfl) dX12_carryOut_166 ?_
      obtain ⟨r41, D40, e39, h⟩ := cL_s h
      refine g_V X (As := [.int r38]) (rest := []) (c_X8_digOut l G E r38 _ _ e39) 1 (wg_1 E _) rfl rfl kv_X12_131 ⟨rfl, rfl⟩ ⟨rfl, hd_X8_digOut⟩ (⟨Nat.le_of_ble_eq_true rfl, Nat.le_of_ble_eq_true rfl⟩) rfl rfl (Nat.le_of_ble_eq_true rfl) dX12_carryOut_169 ?_
      refine g_pop2 X dX12_carryOut_172 rfl ?_
      refine g_goto X (tgt := 196) dX12_carryOut_173 (by decide) ?_
      refine g_iconst X (v := (1 : Int32)) dX12_carryOut_196 (by decide) ?_
      exact g_iret X hr rfl dX12_carryOut_197 (Option.some.inj h)
    have h := (ite_s h).2 w35
    by_cases w42 : (2 : Int32) = (6 : Int32)
    · have h := (ite_s h).1 w42
      refine g_tswIn X (tgt := 176) dX12_carryOut_61 w42 (by decide) (by decide) rfl (by decide) ?_
      refine g_aload_n X 3 (i0 := 0) dX12_carryOut_176 rfl rfl ?_
      refine g_get X (D := D11) (v := .ref (E.1 1)) (T := TX12) 0 uX12 (wg_0 E _) rfl 0 (by decide) fl_X12_10 rfl rfl dX12_carryOut_177 ?_
      refine g_iload_n X 2 (i0 := 3) dX12_carryOut_180 rfl rfl ?_
      refine g_iload X 1 dX12_carryOut_181 rfl ?_
      obtain ⟨r45, D44, e43, h⟩ := cI_s h
      refine g_V X (As := [.int r3, .int r6]) (rest := []) (c_X8_putPrice l G E r3 r6 _ _ e43) 1 (wg_1 E _) rfl rfl kv_X12_235 ⟨rfl, rfl⟩ ⟨rfl, hd_X8_putPrice⟩ (⟨Nat.le_of_ble_eq_true rfl, Nat.le_of_ble_eq_true rfl⟩) rfl rfl (Nat.le_of_ble_eq_true rfl) dX12_carryOut_183 ?_
      refine g_pop X dX12_carryOut_186 rfl ?_
      refine g_goto X (tgt := 196) dX12_carryOut_187 (by decide) ?_
      refine g_iconst X (v := (1 : Int32)) dX12_carryOut_196 (by decide) ?_
      exact g_iret X hr rfl dX12_carryOut_197 (Option.some.inj h)
    have h := (ite_s h).2 w42
    have zw13 := lv_neT w13 (show (1 : Int32).toInt = 1 by decide)
    have zw20 := lv_neT w20 (show (2 : Int32).toInt = 2 by decide)
    have zw27 := lv_neT w27 (show (3 : Int32).toInt = 3 by decide)
    have zw31 := lv_neT w31 (show (4 : Int32).toInt = 4 by decide)
    have zw35 := lv_neT w35 (show (5 : Int32).toInt = 5 by decide)
    have zw42 := lv_neT w42 (show (6 : Int32).toInt = 6 by decide)
    refine g_tswOut X (tgt := 190) dX12_carryOut_61 (by omega) (by decide) ?_
    refine g_aload_n X 3 (i0 := 0) dX12_carryOut_190 rfl rfl ?_
    refine g_iload_n X 2 (i0 := 3) dX12_carryOut_191 rfl rfl ?_
    obtain ⟨r48, D47, e46, h⟩ := cI_s h
    refine g_V X (As := [.int r3]) (rest := []) (c_X12_sellBar l G E r3 _ _ e46) 0 (wg_0 E _) rfl rfl kv_X12_257 ⟨rfl, rfl⟩ ⟨rfl, hd_X12_sellBar⟩ (⟨Nat.le_of_ble_eq_true rfl, Nat.le_of_ble_eq_true rfl⟩) rfl rfl (Nat.le_of_ble_eq_true rfl) dX12_carryOut_192 ?_
    refine g_pop X dX12_carryOut_195 rfl ?_
    refine g_iconst X (v := (1 : Int32)) dX12_carryOut_196 (by decide) ?_
    exact g_iret X hr rfl dX12_carryOut_197 (Option.some.inj h)
  · have h := (ite_s h).2 c49
    refine g_iconst X (v := (0 : Int32)) dX12_carryOut_51 (by decide) ?_
    exact g_iret X hr rfl dX12_carryOut_52 (Option.some.inj h)
def S_X12_faultOfCommand_x_K2 (a1 : Int32) (a2 : Int32) (a3 : Int32) (D : DD) : Option RT := (if (3 : Int32) = (1 : Int32) then (cI (S_X8_faultOfHardness a1 a2 a3 D) (fun r4 D3 => some (0, some (.int r4), D3))) else (if (3 : Int32) = (2 : Int32) then (cI (S_X8_faultOfLaying a1 a2 a3 D) (fun r8 D7 => some (0, some (.int r8), D7))) else (if (3 : Int32) = (3 : Int32) then (cI (S_X8_hasCharge a1 D) (fun r12 D11 => (if r12 = 0 then some (0, some (.int (1 : Int32)), D11) else some (0, some (.int (0 : Int32)), D11)))) else (if (3 : Int32) = (4 : Int32) then (cI (S_X8_hasCharge a1 D) (fun r17 D16 => (if r17 = 0 then some (0, some (.int (1 : Int32)), D16) else some (0, some (.int (0 : Int32)), D16)))) else (if (3 : Int32) = (5 : Int32) then (cI (S_X8_faultOfDigging a1 a2 D) (fun r22 D21 => some (0, some (.int r22), D21))) else (if (3 : Int32) = (6 : Int32) then (cI (S_X8_faultOfPrice a1 a2 D) (fun r26 D25 => some (0, some (.int r26), D25))) else (cI (S_X8_faultOfSelling a1 D) (fun r29 D28 => some (0, some (.int r29), D28)))))))))
set_option maxRecDepth 100000 in
set_option maxHeartbeats 4000000 in
theorem c_X12_faultOfCommand_x_K2 (l : Launch) (G : va_G) (E : EE) (a1 : Int32) (a2 : Int32) (a3 : Int32) (D : DD) (r : RT) (h : S_X12_faultOfCommand_x_K2 a1 a2 a3 D = some r) : MM l G E yX12_faultOfCommand cX12_faultOfCommand 5 (some .int) (rmm 4) [.ref (E.1 0), .ref (E.1 1002), .int a1, .int a2, .int a3] D r := by
  refine m_of rfl (Nat.le_of_ble_eq_true rfl) ?_
  intro p e s m args below meth c X hr
  unfold S_X12_faultOfCommand_x_K2 at h
  refine g_gets X (v := .ref (E.1 1021)) X.2.2.2.2.2.2.2.2.2.1 fl_X12_378 dX12_faultOfCommand_0 ?_
  refine g_aload_n X 1 (i0 := 1) dX12_faultOfCommand_3 rfl rfl ?_
  refine g_ord X (v := (2 : Int32)) (X.2.2.2.2.2.2.1 2 (by decide)).1 (X.2.2.2.2.2.2.1 2 (by decide)).2.1 wo_link_X12_384 wo_same wo_sel wo_inst wo_code wo_fl (Nat.le_of_ble_eq_true rfl) (Nat.le_of_ble_eq_true rfl) (Nat.le_of_ble_eq_true rfl) dX12_faultOfCommand_4 ?_
  refine g_ti X X.2.2.2.2.2.2.2.2.2.2.1 (i := (2 : Int32)) (v := .int (3 : Int32)) (inB_vp (by decide)) rfl dX12_faultOfCommand_7 ?_
  by_cases w1 : (3 : Int32) = (1 : Int32)
  · have h := (ite_s h).1 w1
    refine g_tswIn X (tgt := 48) dX12_faultOfCommand_8 w1 (by decide) (by decide) rfl (by decide) ?_
    refine g_aload_n X 0 (i0 := 0) dX12_faultOfCommand_48 rfl rfl ?_
    refine g_get X (D := D) (v := .ref (E.1 1)) (T := TX12) 0 uX12 (wg_0 E _) rfl 0 (by decide) fl_X12_10 rfl rfl dX12_faultOfCommand_49 ?_
    refine g_iload_n X 2 (i0 := 2) dX12_faultOfCommand_52 rfl rfl ?_
    refine g_iload_n X 3 (i0 := 3) dX12_faultOfCommand_53 rfl rfl ?_
    refine g_iload X 4 dX12_faultOfCommand_54 rfl ?_
    obtain ⟨r4, D3, e2, h⟩ := cI_s h
    refine g_V X (As := [.int a1, .int a2, .int a3]) (rest := []) (c_X8_faultOfHardness l G E a1 a2 a3 _ _ e2) 1 (wg_1 E _) rfl rfl kv_X12_92 ⟨rfl, rfl⟩ ⟨rfl, hd_X8_faultOfHardness⟩ (⟨Nat.le_of_ble_eq_true rfl, Nat.le_of_ble_eq_true rfl⟩) rfl rfl (Nat.le_of_ble_eq_true rfl) dX12_faultOfCommand_56 ?_
    exact g_iret X hr rfl dX12_faultOfCommand_59 (Option.some.inj h)
  have h := (ite_s h).2 w1
  by_cases w5 : (3 : Int32) = (2 : Int32)
  · have h := (ite_s h).1 w5
    refine g_tswIn X (tgt := 60) dX12_faultOfCommand_8 w5 (by decide) (by decide) rfl (by decide) ?_
    refine g_aload_n X 0 (i0 := 0) dX12_faultOfCommand_60 rfl rfl ?_
    refine g_get X (D := D) (v := .ref (E.1 1)) (T := TX12) 0 uX12 (wg_0 E _) rfl 0 (by decide) fl_X12_10 rfl rfl dX12_faultOfCommand_61 ?_
    refine g_iload_n X 2 (i0 := 2) dX12_faultOfCommand_64 rfl rfl ?_
    refine g_iload_n X 3 (i0 := 3) dX12_faultOfCommand_65 rfl rfl ?_
    refine g_iload X 4 dX12_faultOfCommand_66 rfl ?_
    obtain ⟨r8, D7, e6, h⟩ := cI_s h
    refine g_V X (As := [.int a1, .int a2, .int a3]) (rest := []) (c_X8_faultOfLaying l G E a1 a2 a3 _ _ e6) 1 (wg_1 E _) rfl rfl kv_X12_160 ⟨rfl, rfl⟩ ⟨rfl, hd_X8_faultOfLaying⟩ (⟨Nat.le_of_ble_eq_true rfl, Nat.le_of_ble_eq_true rfl⟩) rfl rfl (Nat.le_of_ble_eq_true rfl) dX12_faultOfCommand_68 ?_
    exact g_iret X hr rfl dX12_faultOfCommand_71 (Option.some.inj h)
  have h := (ite_s h).2 w5
  by_cases w9 : (3 : Int32) = (3 : Int32)
  · have h := (ite_s h).1 w9
    refine g_tswIn X (tgt := 72) dX12_faultOfCommand_8 w9 (by decide) (by decide) rfl (by decide) ?_
    refine g_aload_n X 0 (i0 := 0) dX12_faultOfCommand_72 rfl rfl ?_
    refine g_get X (D := D) (v := .ref (E.1 1)) (T := TX12) 0 uX12 (wg_0 E _) rfl 0 (by decide) fl_X12_10 rfl rfl dX12_faultOfCommand_73 ?_
    refine g_iload_n X 2 (i0 := 2) dX12_faultOfCommand_76 rfl rfl ?_
    obtain ⟨r12, D11, e10, h⟩ := cI_s h
    refine g_V X (As := [.int a1]) (rest := []) (c_X8_hasCharge l G E a1 _ _ e10) 1 (wg_1 E _) rfl rfl kv_X12_170 ⟨rfl, rfl⟩ ⟨rfl, hd_X8_hasCharge⟩ (⟨Nat.le_of_ble_eq_true rfl, Nat.le_of_ble_eq_true rfl⟩) rfl rfl (Nat.le_of_ble_eq_true rfl) dX12_faultOfCommand_77 ?_
    refine g_if_eq X (tgt := 87) dX12_faultOfCommand_80 (by decide) (fun c13 => ?_) (fun c13 => ?_)
    · have h := (ite_s h).1 c13
      refine g_iconst X (v := (1 : Int32)) dX12_faultOfCommand_87 (by decide) ?_
      exact g_iret X hr rfl dX12_faultOfCommand_88 (Option.some.inj h)
    · have h := (ite_s h).2 c13
      refine g_iconst X (v := (0 : Int32)) dX12_faultOfCommand_83 (by decide) ?_
      refine g_goto X (tgt := 88) dX12_faultOfCommand_84 (by decide) ?_
      exact g_iret X hr rfl dX12_faultOfCommand_88 (Option.some.inj h)
  have h := (ite_s h).2 w9
  by_cases w14 : (3 : Int32) = (4 : Int32)
  · have h := (ite_s h).1 w14
    refine g_tswIn X (tgt := 72) dX12_faultOfCommand_8 w14 (by decide) (by decide) rfl (by decide) ?_
    refine g_aload_n X 0 (i0 := 0) dX12_faultOfCommand_72 rfl rfl ?_
    refine g_get X (D := D) (v := .ref (E.1 1)) (T := TX12) 0 uX12 (wg_0 E _) rfl 0 (by decide) fl_X12_10 rfl rfl dX12_faultOfCommand_73 ?_
    refine g_iload_n X 2 (i0 := 2) dX12_faultOfCommand_76 rfl rfl ?_
    obtain ⟨r17, D16, e15, h⟩ := cI_s h
    refine g_V X (As := [.int a1]) (rest := []) (c_X8_hasCharge l G E a1 _ _ e15) 1 (wg_1 E _) rfl rfl kv_X12_170 ⟨rfl, rfl⟩ ⟨rfl, hd_X8_hasCharge⟩ (⟨Nat.le_of_ble_eq_true rfl, Nat.le_of_ble_eq_true rfl⟩) rfl rfl (Nat.le_of_ble_eq_true rfl) dX12_faultOfCommand_77 ?_
    refine g_if_eq X (tgt := 87) dX12_faultOfCommand_80 (by decide) (fun c18 => ?_) (fun c18 => ?_)
    · have h := (ite_s h).1 c18
      refine g_iconst X (v := (1 : Int32)) dX12_faultOfCommand_87 (by decide) ?_
      exact g_iret X hr rfl dX12_faultOfCommand_88 (Option.some.inj h)
    · have h := (ite_s h).2 c18
      refine g_iconst X (v := (0 : Int32)) dX12_faultOfCommand_83 (by decide) ?_
      refine g_goto X (tgt := 88) dX12_faultOfCommand_84 (by decide) ?_
      exact g_iret X hr rfl dX12_faultOfCommand_88 (Option.some.inj h)
  have h := (ite_s h).2 w14
  by_cases w19 : (3 : Int32) = (5 : Int32)
  · have h := (ite_s h).1 w19
    refine g_tswIn X (tgt := 89) dX12_faultOfCommand_8 w19 (by decide) (by decide) rfl (by decide) ?_
    refine g_aload_n X 0 (i0 := 0) dX12_faultOfCommand_89 rfl rfl ?_
    refine g_get X (D := D) (v := .ref (E.1 1)) (T := TX12) 0 uX12 (wg_0 E _) rfl 0 (by decide) fl_X12_10 rfl rfl dX12_faultOfCommand_90 ?_
    refine g_iload_n X 2 (i0 := 2) dX12_faultOfCommand_93 rfl rfl ?_
    refine g_iload_n X 3 (i0 := 3) dX12_faultOfCommand_94 rfl rfl ?_
    obtain ⟨r22, D21, e20, h⟩ := cI_s h
    refine g_V X (As := [.int a1, .int a2]) (rest := []) (c_X8_faultOfDigging l G E a1 a2 _ _ e20) 1 (wg_1 E _) rfl rfl kv_X12_119 ⟨rfl, rfl⟩ ⟨rfl, hd_X8_faultOfDigging⟩ (⟨Nat.le_of_ble_eq_true rfl, Nat.le_of_ble_eq_true rfl⟩) rfl rfl (Nat.le_of_ble_eq_true rfl) dX12_faultOfCommand_95 ?_
    exact g_iret X hr rfl dX12_faultOfCommand_98 (Option.some.inj h)
  have h := (ite_s h).2 w19
  by_cases w23 : (3 : Int32) = (6 : Int32)
  · have h := (ite_s h).1 w23
    refine g_tswIn X (tgt := 99) dX12_faultOfCommand_8 w23 (by decide) (by decide) rfl (by decide) ?_
    refine g_aload_n X 0 (i0 := 0) dX12_faultOfCommand_99 rfl rfl ?_
    refine g_get X (D := D) (v := .ref (E.1 1)) (T := TX12) 0 uX12 (wg_0 E _) rfl 0 (by decide) fl_X12_10 rfl rfl dX12_faultOfCommand_100 ?_
    refine g_iload_n X 2 (i0 := 2) dX12_faultOfCommand_103 rfl rfl ?_
    refine g_iload_n X 3 (i0 := 3) dX12_faultOfCommand_104 rfl rfl ?_
    obtain ⟨r26, D25, e24, h⟩ := cI_s h
    refine g_V X (As := [.int a1, .int a2]) (rest := []) (c_X8_faultOfPrice l G E a1 a2 _ _ e24) 1 (wg_1 E _) rfl rfl kv_X12_230 ⟨rfl, rfl⟩ ⟨rfl, hd_X8_faultOfPrice⟩ (⟨Nat.le_of_ble_eq_true rfl, Nat.le_of_ble_eq_true rfl⟩) rfl rfl (Nat.le_of_ble_eq_true rfl) dX12_faultOfCommand_105 ?_
    exact g_iret X hr rfl dX12_faultOfCommand_108 (Option.some.inj h)
  have h := (ite_s h).2 w23
  have zw1 := lv_neT w1 (show (1 : Int32).toInt = 1 by decide)
  have zw5 := lv_neT w5 (show (2 : Int32).toInt = 2 by decide)
  have zw9 := lv_neT w9 (show (3 : Int32).toInt = 3 by decide)
  have zw14 := lv_neT w14 (show (4 : Int32).toInt = 4 by decide)
  have zw19 := lv_neT w19 (show (5 : Int32).toInt = 5 by decide)
  have zw23 := lv_neT w23 (show (6 : Int32).toInt = 6 by decide)
  refine g_tswOut X (tgt := 109) dX12_faultOfCommand_8 (by omega) (by decide) ?_
  refine g_aload_n X 0 (i0 := 0) dX12_faultOfCommand_109 rfl rfl ?_
  refine g_get X (D := D) (v := .ref (E.1 1)) (T := TX12) 0 uX12 (wg_0 E _) rfl 0 (by decide) fl_X12_10 rfl rfl dX12_faultOfCommand_110 ?_
  refine g_iload_n X 2 (i0 := 2) dX12_faultOfCommand_113 rfl rfl ?_
  obtain ⟨r29, D28, e27, h⟩ := cI_s h
  refine g_V X (As := [.int a1]) (rest := []) (c_X8_faultOfSelling l G E a1 _ _ e27) 1 (wg_1 E _) rfl rfl kv_X12_252 ⟨rfl, rfl⟩ ⟨rfl, hd_X8_faultOfSelling⟩ (⟨Nat.le_of_ble_eq_true rfl, Nat.le_of_ble_eq_true rfl⟩) rfl rfl (Nat.le_of_ble_eq_true rfl) dX12_faultOfCommand_114 ?_
  exact g_iret X hr rfl dX12_faultOfCommand_117 (Option.some.inj h)
def S_X12_carryOut_x_K2 (a1 : Int32) (D : DD) : Option RT := (cI (S_X4_parameterAt a1 (0 : Int32) D) (fun r3 D2 => (cI (S_X4_parameterAt a1 (1 : Int32) D2) (fun r6 D5 => (cI (S_X4_parameterAt a1 (2 : Int32) D5) (fun r9 D8 => (cI (S_X12_faultOfCommand_x_K2 r3 r6 r9 D8) (fun r12 D11 => (if r12 = 0 then (if (3 : Int32) = (1 : Int32) then (cI (S_X12_cellAt r3 r6 D11) (fun r16 D15 => (cI (S_X8_harden r16 r9 D15) (fun r19 D18 => some (0, some (.int (1 : Int32)), D18))))) else (if (3 : Int32) = (2 : Int32) then (cI (S_X12_cellAt r3 r6 D11) (fun r23 D22 => (cI (S_X8_lay r23 r9 D22) (fun r26 D25 => some (0, some (.int (1 : Int32)), D25))))) else (if (3 : Int32) = (3 : Int32) then (cI (S_X8_takeAway r3 D11) (fun r30 D29 => some (0, some (.int (1 : Int32)), D29))) else (if (3 : Int32) = (4 : Int32) then (cI (S_X12_blowUp r3 D11) (fun r34 D33 => some (0, some (.int (1 : Int32)), D33))) else (if (3 : Int32) = (5 : Int32) then (cI (S_X12_cellAt r3 r6 D11) (fun r38 D37 => (cL (S_X8_digOut r38 D37) (fun r41 D40 => some (0, some (.int (1 : Int32)), D40))))) else (if (3 : Int32) = (6 : Int32) then (cI (S_X8_putPrice r3 r6 D11) (fun r45 D44 => some (0, some (.int (1 : Int32)), D44))) else (cI (S_X12_sellBar r3 D11) (fun r48 D47 => some (0, some (.int (1 : Int32)), D47))))))))) else some (0, some (.int (0 : Int32)), D11))))))))))
set_option maxRecDepth 100000 in
set_option maxHeartbeats 4000000 in
theorem c_X12_carryOut_x_K2 (l : Launch) (G : va_G) (E : EE) (a1 : Int32) (D : DD) (r : RT) (h : S_X12_carryOut_x_K2 a1 D = some r) : MM l G E yX12_carryOut cX12_carryOut 6 (some .boolean) (rmm 5) [.ref (E.1 0), .ref (E.1 1002), .int a1] D r := by
  refine m_of rfl (Nat.le_of_ble_eq_true rfl) ?_
  intro p e s m args below meth c X hr
  unfold S_X12_carryOut_x_K2 at h
  refine g_aload_n X 1 (i0 := 1) dX12_carryOut_0 rfl rfl ?_
  refine g_ifnonnull X (tgt := 6) dX12_carryOut_1 (by decide) ?_
  refine g_aload_n X 0 (i0 := 0) dX12_carryOut_6 rfl rfl ?_
  refine g_get X (D := D) (v := .ref (E.1 80)) (T := TX12) 0 uX12 (wg_0 E _) rfl 11 (by decide) fl_X12_81 rfl rfl dX12_carryOut_7 ?_
  refine g_iload_n X 2 (i0 := 2) dX12_carryOut_10 rfl rfl ?_
  refine g_iconst X (v := (0 : Int32)) dX12_carryOut_11 (by decide) ?_
  obtain ⟨r3, D2, e1, h⟩ := cI_s h
  refine g_V X (As := [.int a1, .int (0 : Int32)]) (rest := []) (c_X4_parameterAt l G E a1 (0 : Int32) _ _ e1) 80 (wg_80 E _) rfl rfl kv_X12_371 ⟨rfl, rfl⟩ ⟨rfl, hd_X4_parameterAt⟩ (⟨Nat.le_of_ble_eq_true rfl, Nat.le_of_ble_eq_true rfl⟩) rfl rfl (Nat.le_of_ble_eq_true rfl) dX12_carryOut_12 ?_
  refine g_istore_n X (i0 := 3) (lv' := [(3, .int r3), (0, .ref (E.1 0)), (1, .ref (E.1 1002)), (2, .int a1)]) dX12_carryOut_15 rfl (by decide) rfl ?_
  refine g_aload_n X 1 (i0 := 0) dX12_carryOut_16 rfl rfl ?_
  refine g_get X (D := D2) (v := .ref (E.1 80)) (T := TX12) 0 uX12 (wg_0 E _) rfl 11 (by decide) fl_X12_81 rfl rfl dX12_carryOut_17 ?_
  refine g_iload_n X 3 (i0 := 2) dX12_carryOut_20 rfl rfl ?_
  refine g_iconst X (v := (1 : Int32)) dX12_carryOut_21 (by decide) ?_
  obtain ⟨r6, D5, e4, h⟩ := cI_s h
  refine g_V X (As := [.int a1, .int (1 : Int32)]) (rest := []) (c_X4_parameterAt l G E a1 (1 : Int32) _ _ e4) 80 (wg_80 E _) rfl rfl kv_X12_371 ⟨rfl, rfl⟩ ⟨rfl, hd_X4_parameterAt⟩ (⟨Nat.le_of_ble_eq_true rfl, Nat.le_of_ble_eq_true rfl⟩) rfl rfl (Nat.le_of_ble_eq_true rfl) dX12_carryOut_22 ?_
  refine g_istore X (lv' := [(4, .int r6), (3, .int r3), (0, .ref (E.1 0)), (1, .ref (E.1 1002)), (2, .int a1)]) dX12_carryOut_25 (by decide) rfl ?_
  refine g_aload_n X 2 (i0 := 0) dX12_carryOut_27 rfl rfl ?_
  refine g_get X (D := D5) (v := .ref (E.1 80)) (T := TX12) 0 uX12 (wg_0 E _) rfl 11 (by decide) fl_X12_81 rfl rfl dX12_carryOut_28 ?_
  refine g_iload_n X 4 (i0 := 2) dX12_carryOut_31 rfl rfl ?_
  refine g_iconst X (v := (2 : Int32)) dX12_carryOut_32 (by decide) ?_
  obtain ⟨r9, D8, e7, h⟩ := cI_s h
  refine g_V X (As := [.int a1, .int (2 : Int32)]) (rest := []) (c_X4_parameterAt l G E a1 (2 : Int32) _ _ e7) 80 (wg_80 E _) rfl rfl kv_X12_371 ⟨rfl, rfl⟩ ⟨rfl, hd_X4_parameterAt⟩ (⟨Nat.le_of_ble_eq_true rfl, Nat.le_of_ble_eq_true rfl⟩) rfl rfl (Nat.le_of_ble_eq_true rfl) dX12_carryOut_33 ?_
  refine g_istore X (lv' := [(5, .int r9), (4, .int r6), (3, .int r3), (0, .ref (E.1 0)), (1, .ref (E.1 1002)), (2, .int a1)]) dX12_carryOut_36 (by decide) rfl ?_
  refine g_aload_n X 3 (i0 := 0) dX12_carryOut_38 rfl rfl ?_
  refine g_aload_n X 4 (i0 := 1) dX12_carryOut_39 rfl rfl ?_
  refine g_iload_n X 2 (i0 := 3) dX12_carryOut_40 rfl rfl ?_
  refine g_iload X 1 dX12_carryOut_41 rfl ?_
  refine g_iload X 0 dX12_carryOut_43 rfl ?_
  obtain ⟨r12, D11, e10, h⟩ := cI_s h
  refine g_V X (As := [.ref (E.1 1002), .int r3, .int r6, .int r9]) (rest := []) (c_X12_faultOfCommand_x_K2 l G E r3 r6 r9 _ _ e10) 0 (wg_0 E _) rfl rfl kv_X12_374 ⟨rfl, rfl⟩ ⟨rfl, hd_X12_faultOfCommand⟩ (⟨Nat.le_of_ble_eq_true rfl, Nat.le_of_ble_eq_true rfl⟩) rfl rfl (Nat.le_of_ble_eq_true rfl) dX12_carryOut_45 ?_
  refine g_if_eq X (tgt := 53) dX12_carryOut_48 (by decide) (fun c49 => ?_) (fun c49 => ?_)
  · have h := (ite_s h).1 c49
    refine g_gets X (v := .ref (E.1 1021)) X.2.2.2.2.2.2.2.2.2.1 fl_X12_378 dX12_carryOut_53 ?_
    refine g_aload_n X 4 (i0 := 1) dX12_carryOut_56 rfl rfl ?_
    refine g_ord X (v := (2 : Int32)) (X.2.2.2.2.2.2.1 2 (by decide)).1 (X.2.2.2.2.2.2.1 2 (by decide)).2.1 wo_link_X12_384 wo_same wo_sel wo_inst wo_code wo_fl (Nat.le_of_ble_eq_true rfl) (Nat.le_of_ble_eq_true rfl) (Nat.le_of_ble_eq_true rfl) dX12_carryOut_57 ?_
    refine g_ti X X.2.2.2.2.2.2.2.2.2.2.1 (i := (2 : Int32)) (v := .int (3 : Int32)) (inB_vp (by decide)) rfl dX12_carryOut_60 ?_
    by_cases w13 : (3 : Int32) = (1 : Int32)
    · have h := (ite_s h).1 w13
      refine g_tswIn X (tgt := 100) dX12_carryOut_61 w13 (by decide) (by decide) rfl (by decide) ?_
      refine g_aload_n X 3 (i0 := 0) dX12_carryOut_100 rfl rfl ?_
      refine g_get X (D := D11) (v := .ref (E.1 1)) (T := TX12) 0 uX12 (wg_0 E _) rfl 0 (by decide) fl_X12_10 rfl rfl dX12_carryOut_101 ?_
      refine g_iload_n X 2 (i0 := 3) dX12_carryOut_104 rfl rfl ?_
      refine g_iload X 1 dX12_carryOut_105 rfl ?_
      obtain ⟨r16, D15, e14, h⟩ := cI_s h
      refine g_S X (As := [.int r3, .int r6]) (rest := [.ref (E.1 1)]) (c_X12_cellAt l G E r3 r6 _ _ e14) ks_X12_112 ⟨rfl, rfl⟩ hd_X12_cellAt (⟨Nat.le_of_ble_eq_true rfl, Nat.le_of_ble_eq_true rfl⟩) rfl rfl (Nat.le_of_ble_eq_true rfl) dX12_carryOut_107 ?_
      refine g_iload X 0 dX12_carryOut_110 rfl ?_
      obtain ⟨r19, D18, e17, h⟩ := cI_s h
      refine g_V X (As := [.int r16, .int r9]) (rest := []) (c_X8_harden l G E r16 r9 _ _ e17) 1 (wg_1 E _) rfl rfl kv_X12_116 ⟨rfl, rfl⟩ ⟨rfl, hd_X8_harden⟩ (⟨Nat.le_of_ble_eq_true rfl, Nat.le_of_ble_eq_true rfl⟩) rfl rfl (Nat.le_of_ble_eq_true rfl) dX12_carryOut_112 ?_
      refine g_pop X dX12_carryOut_115 rfl ?_
      refine g_goto X (tgt := 196) dX12_carryOut_116 (by decide) ?_
      refine g_iconst X (v := (1 : Int32)) dX12_carryOut_196 (by decide) ?_
      exact g_iret X hr rfl dX12_carryOut_197 (Option.some.inj h)
    have h := (ite_s h).2 w13
    by_cases w20 : (3 : Int32) = (2 : Int32)
    · have h := (ite_s h).1 w20
      refine g_tswIn X (tgt := 119) dX12_carryOut_61 w20 (by decide) (by decide) rfl (by decide) ?_
      refine g_aload_n X 3 (i0 := 0) dX12_carryOut_119 rfl rfl ?_
      refine g_get X (D := D11) (v := .ref (E.1 1)) (T := TX12) 0 uX12 (wg_0 E _) rfl 0 (by decide) fl_X12_10 rfl rfl dX12_carryOut_120 ?_
      refine g_iload_n X 2 (i0 := 3) dX12_carryOut_123 rfl rfl ?_
      refine g_iload X 1 dX12_carryOut_124 rfl ?_
      obtain ⟨r23, D22, e21, h⟩ := cI_s h
      refine g_S X (As := [.int r3, .int r6]) (rest := [.ref (E.1 1)]) (c_X12_cellAt l G E r3 r6 _ _ e21) ks_X12_112 ⟨rfl, rfl⟩ hd_X12_cellAt (⟨Nat.le_of_ble_eq_true rfl, Nat.le_of_ble_eq_true rfl⟩) rfl rfl (Nat.le_of_ble_eq_true rfl) dX12_carryOut_126 ?_
      refine g_iload X 0 dX12_carryOut_129 rfl ?_
      obtain ⟨r26, D25, e24, h⟩ := cI_s h
      refine g_V X (As := [.int r23, .int r9]) (rest := []) (c_X8_lay l G E r23 r9 _ _ e24) 1 (wg_1 E _) rfl rfl kv_X12_167 ⟨rfl, rfl⟩ ⟨rfl, hd_X8_lay⟩ (⟨Nat.le_of_ble_eq_true rfl, Nat.le_of_ble_eq_true rfl⟩) rfl rfl (Nat.le_of_ble_eq_true rfl) dX12_carryOut_131 ?_
      refine g_pop X dX12_carryOut_134 rfl ?_
      refine g_goto X (tgt := 196) dX12_carryOut_135 (by decide) ?_
      refine g_iconst X (v := (1 : Int32)) dX12_carryOut_196 (by decide) ?_
      exact g_iret X hr rfl dX12_carryOut_197 (Option.some.inj h)
    have h := (ite_s h).2 w20
    by_cases w27 : (3 : Int32) = (3 : Int32)
    · have h := (ite_s h).1 w27
      refine g_tswIn X (tgt := 138) dX12_carryOut_61 w27 (by decide) (by decide) rfl (by decide) ?_
      refine g_aload_n X 3 (i0 := 0) dX12_carryOut_138 rfl rfl ?_
      refine g_get X (D := D11) (v := .ref (E.1 1)) (T := TX12) 0 uX12 (wg_0 E _) rfl 0 (by decide) fl_X12_10 rfl rfl dX12_carryOut_139 ?_
      refine g_iload_n X 2 (i0 := 3) dX12_carryOut_142 rfl rfl ?_
      obtain ⟨r30, D29, e28, h⟩ := cI_s h
      refine g_V X (As := [.int r3]) (rest := []) (c_X8_takeAway l G E r3 _ _ e28) 1 (wg_1 E _) rfl rfl kv_X12_178 ⟨rfl, rfl⟩ ⟨rfl, hd_X8_takeAway⟩ (⟨Nat.le_of_ble_eq_true rfl, Nat.le_of_ble_eq_true rfl⟩) rfl rfl (Nat.le_of_ble_eq_true rfl) dX12_carryOut_143 ?_
      refine g_pop X dX12_carryOut_146 rfl ?_
      refine g_goto X (tgt := 196) dX12_carryOut_147 (by decide) ?_
      refine g_iconst X (v := (1 : Int32)) dX12_carryOut_196 (by decide) ?_
      exact g_iret X hr rfl dX12_carryOut_197 (Option.some.inj h)
    have h := (ite_s h).2 w27
    by_cases w31 : (3 : Int32) = (4 : Int32)
    · have h := (ite_s h).1 w31
      refine g_tswIn X (tgt := 150) dX12_carryOut_61 w31 (by decide) (by decide) rfl (by decide) ?_
      refine g_aload_n X 3 (i0 := 0) dX12_carryOut_150 rfl rfl ?_
      refine g_iload_n X 2 (i0 := 3) dX12_carryOut_151 rfl rfl ?_
      obtain ⟨r34, D33, e32, h⟩ := cI_s h
      refine g_V X (As := [.int r3]) (rest := []) (c_X12_blowUp l G E r3 _ _ e32) 0 (wg_0 E _) rfl rfl kv_X12_181 ⟨rfl, rfl⟩ ⟨rfl, hd_X12_blowUp⟩ (⟨Nat.le_of_ble_eq_true rfl, Nat.le_of_ble_eq_true rfl⟩) rfl rfl (Nat.le_of_ble_eq_true rfl) dX12_carryOut_152 ?_
      refine g_pop X dX12_carryOut_155 rfl ?_
      refine g_goto X (tgt := 196) dX12_carryOut_156 (by decide) ?_
      refine g_iconst X (v := (1 : Int32)) dX12_carryOut_196 (by decide) ?_
      exact g_iret X hr rfl dX12_carryOut_197 (Option.some.inj h)
    have h := (ite_s h).2 w31
    by_cases w35 : (3 : Int32) = (5 : Int32)
    · have h := (ite_s h).1 w35
      refine g_tswIn X (tgt := 159) dX12_carryOut_61 w35 (by decide) (by decide) rfl (by decide) ?_
      refine g_aload_n X 3 (i0 := 0) dX12_carryOut_159 rfl rfl ?_
      refine g_get X (D := D11) (v := .ref (E.1 1)) (T := TX12) 0 uX12 (wg_0 E _) rfl 0 (by decide) fl_X12_10 rfl rfl dX12_carryOut_160 ?_
      refine g_iload_n X 2 (i0 := 3) dX12_carryOut_163 rfl rfl ?_
      refine g_iload X 1 dX12_carryOut_164 rfl ?_
      obtain ⟨r38, D37, e36, h⟩ := cI_s h
      refine g_S X (As := [.int r3, .int r6]) (rest := [.ref (E.1 1)]) (c_X12_cellAt l G E r3 r6 _ _ e36) ks_X12_112 ⟨rfl, rfl⟩ hd_X12_cellAt (⟨Nat.le_of_ble_eq_true rfl, Nat.le_of_ble_eq_true rfl⟩) rfl rfl (Nat.le_of_ble_eq_true rfl) dX12_carryOut_166 ?_
      obtain ⟨r41, D40, e39, h⟩ := cL_s h
      refine g_V X (As := [.int r38]) (rest := []) (c_X8_digOut l G E r38 _ _ e39) 1 (wg_1 E _) rfl rfl kv_X12_131 ⟨rfl, rfl⟩ ⟨rfl, hd_X8_digOut⟩ (⟨Nat.le_of_ble_eq_true rfl, Nat.le_of_ble_eq_true rfl⟩) rfl rfl (Nat.le_of_ble_eq_true rfl) dX12_carryOut_169 ?_
      refine g_pop2 X dX12_carryOut_172 rfl ?_
      refine g_goto X (tgt := 196) dX12_carryOut_173 (by decide) ?_
      refine g_iconst X (v := (1 : Int32)) dX12_carryOut_196 (by decide) ?_
      exact g_iret X hr rfl dX12_carryOut_197 (Option.some.inj h)
    have h := (ite_s h).2 w35
    by_cases w42 : (3 : Int32) = (6 : Int32)
    · have h := (ite_s h).1 w42
      refine g_tswIn X (tgt := 176) dX12_carryOut_61 w42 (by decide) (by decide) rfl (by decide) ?_
      refine g_aload_n X 3 (i0 := 0) dX12_carryOut_176 rfl rfl ?_
      refine g_get X (D := D11) (v := .ref (E.1 1)) (T := TX12) 0 uX12 (wg_0 E _) rfl 0 (by decide) fl_X12_10 rfl rfl dX12_carryOut_177 ?_
      refine g_iload_n X 2 (i0 := 3) dX12_carryOut_180 rfl rfl ?_
      refine g_iload X 1 dX12_carryOut_181 rfl ?_
      obtain ⟨r45, D44, e43, h⟩ := cI_s h
      refine g_V X (As := [.int r3, .int r6]) (rest := []) (c_X8_putPrice l G E r3 r6 _ _ e43) 1 (wg_1 E _) rfl rfl kv_X12_235 ⟨rfl, rfl⟩ ⟨rfl, hd_X8_putPrice⟩ (⟨Nat.le_of_ble_eq_true rfl, Nat.le_of_ble_eq_true rfl⟩) rfl rfl (Nat.le_of_ble_eq_true rfl) dX12_carryOut_183 ?_
      refine g_pop X dX12_carryOut_186 rfl ?_
      refine g_goto X (tgt := 196) dX12_carryOut_187 (by decide) ?_
      refine g_iconst X (v := (1 : Int32)) dX12_carryOut_196 (by decide) ?_
      exact g_iret X hr rfl dX12_carryOut_197 (Option.some.inj h)
    have h := (ite_s h).2 w42
    have zw13 := lv_neT w13 (show (1 : Int32).toInt = 1 by decide)
    have zw20 := lv_neT w20 (show (2 : Int32).toInt = 2 by decide)
    have zw27 := lv_neT w27 (show (3 : Int32).toInt = 3 by decide)
    have zw31 := lv_neT w31 (show (4 : Int32).toInt = 4 by decide)
    have zw35 := lv_neT w35 (show (5 : Int32).toInt = 5 by decide)
    have zw42 := lv_neT w42 (show (6 : Int32).toInt = 6 by decide)
    refine g_tswOut X (tgt := 190) dX12_carryOut_61 (by omega) (by decide) ?_
    refine g_aload_n X 3 (i0 := 0) dX12_carryOut_190 rfl rfl ?_
    refine g_iload_n X 2 (i0 := 3) dX12_carryOut_191 rfl rfl ?_
    obtain ⟨r48, D47, e46, h⟩ := cI_s h
    refine g_V X (As := [.int r3]) (rest := []) (c_X12_sellBar l G E r3 _ _ e46) 0 (wg_0 E _) rfl rfl kv_X12_257 ⟨rfl, rfl⟩ ⟨rfl, hd_X12_sellBar⟩ (⟨Nat.le_of_ble_eq_true rfl, Nat.le_of_ble_eq_true rfl⟩) rfl rfl (Nat.le_of_ble_eq_true rfl) dX12_carryOut_192 ?_
    refine g_pop X dX12_carryOut_195 rfl ?_
    refine g_iconst X (v := (1 : Int32)) dX12_carryOut_196 (by decide) ?_
    exact g_iret X hr rfl dX12_carryOut_197 (Option.some.inj h)
  · have h := (ite_s h).2 c49
    refine g_iconst X (v := (0 : Int32)) dX12_carryOut_51 (by decide) ?_
    exact g_iret X hr rfl dX12_carryOut_52 (Option.some.inj h)
def S_X12_faultOfCommand_x_K3 (a1 : Int32) (a2 : Int32) (a3 : Int32) (D : DD) : Option RT := (if (4 : Int32) = (1 : Int32) then (cI (S_X8_faultOfHardness a1 a2 a3 D) (fun r4 D3 => some (0, some (.int r4), D3))) else (if (4 : Int32) = (2 : Int32) then (cI (S_X8_faultOfLaying a1 a2 a3 D) (fun r8 D7 => some (0, some (.int r8), D7))) else (if (4 : Int32) = (3 : Int32) then (cI (S_X8_hasCharge a1 D) (fun r12 D11 => (if r12 = 0 then some (0, some (.int (1 : Int32)), D11) else some (0, some (.int (0 : Int32)), D11)))) else (if (4 : Int32) = (4 : Int32) then (cI (S_X8_hasCharge a1 D) (fun r17 D16 => (if r17 = 0 then some (0, some (.int (1 : Int32)), D16) else some (0, some (.int (0 : Int32)), D16)))) else (if (4 : Int32) = (5 : Int32) then (cI (S_X8_faultOfDigging a1 a2 D) (fun r22 D21 => some (0, some (.int r22), D21))) else (if (4 : Int32) = (6 : Int32) then (cI (S_X8_faultOfPrice a1 a2 D) (fun r26 D25 => some (0, some (.int r26), D25))) else (cI (S_X8_faultOfSelling a1 D) (fun r29 D28 => some (0, some (.int r29), D28)))))))))
set_option maxRecDepth 100000 in
set_option maxHeartbeats 4000000 in
theorem c_X12_faultOfCommand_x_K3 (l : Launch) (G : va_G) (E : EE) (a1 : Int32) (a2 : Int32) (a3 : Int32) (D : DD) (r : RT) (h : S_X12_faultOfCommand_x_K3 a1 a2 a3 D = some r) : MM l G E yX12_faultOfCommand cX12_faultOfCommand 5 (some .int) (rmm 4) [.ref (E.1 0), .ref (E.1 1003), .int a1, .int a2, .int a3] D r := by
  refine m_of rfl (Nat.le_of_ble_eq_true rfl) ?_
  intro p e s m args below meth c X hr
  unfold S_X12_faultOfCommand_x_K3 at h
  refine g_gets X (v := .ref (E.1 1021)) X.2.2.2.2.2.2.2.2.2.1 fl_X12_378 dX12_faultOfCommand_0 ?_
  refine g_aload_n X 1 (i0 := 1) dX12_faultOfCommand_3 rfl rfl ?_
  refine g_ord X (v := (3 : Int32)) (X.2.2.2.2.2.2.1 3 (by decide)).1 (X.2.2.2.2.2.2.1 3 (by decide)).2.1 wo_link_X12_384 wo_same wo_sel wo_inst wo_code wo_fl (Nat.le_of_ble_eq_true rfl) (Nat.le_of_ble_eq_true rfl) (Nat.le_of_ble_eq_true rfl) dX12_faultOfCommand_4 ?_
  refine g_ti X X.2.2.2.2.2.2.2.2.2.2.1 (i := (3 : Int32)) (v := .int (4 : Int32)) (inB_vp (by decide)) rfl dX12_faultOfCommand_7 ?_
  by_cases w1 : (4 : Int32) = (1 : Int32)
  · have h := (ite_s h).1 w1
    refine g_tswIn X (tgt := 48) dX12_faultOfCommand_8 w1 (by decide) (by decide) rfl (by decide) ?_
    refine g_aload_n X 0 (i0 := 0) dX12_faultOfCommand_48 rfl rfl ?_
    refine g_get X (D := D) (v := .ref (E.1 1)) (T := TX12) 0 uX12 (wg_0 E _) rfl 0 (by decide) fl_X12_10 rfl rfl dX12_faultOfCommand_49 ?_
    refine g_iload_n X 2 (i0 := 2) dX12_faultOfCommand_52 rfl rfl ?_
    refine g_iload_n X 3 (i0 := 3) dX12_faultOfCommand_53 rfl rfl ?_
    refine g_iload X 4 dX12_faultOfCommand_54 rfl ?_
    obtain ⟨r4, D3, e2, h⟩ := cI_s h
    refine g_V X (As := [.int a1, .int a2, .int a3]) (rest := []) (c_X8_faultOfHardness l G E a1 a2 a3 _ _ e2) 1 (wg_1 E _) rfl rfl kv_X12_92 ⟨rfl, rfl⟩ ⟨rfl, hd_X8_faultOfHardness⟩ (⟨Nat.le_of_ble_eq_true rfl, Nat.le_of_ble_eq_true rfl⟩) rfl rfl (Nat.le_of_ble_eq_true rfl) dX12_faultOfCommand_56 ?_
    exact g_iret X hr rfl dX12_faultOfCommand_59 (Option.some.inj h)
  have h := (ite_s h).2 w1
  by_cases w5 : (4 : Int32) = (2 : Int32)
  · have h := (ite_s h).1 w5
    refine g_tswIn X (tgt := 60) dX12_faultOfCommand_8 w5 (by decide) (by decide) rfl (by decide) ?_
    refine g_aload_n X 0 (i0 := 0) dX12_faultOfCommand_60 rfl rfl ?_
    refine g_get X (D := D) (v := .ref (E.1 1)) (T := TX12) 0 uX12 (wg_0 E _) rfl 0 (by decide) fl_X12_10 rfl rfl dX12_faultOfCommand_61 ?_
    refine g_iload_n X 2 (i0 := 2) dX12_faultOfCommand_64 rfl rfl ?_
    refine g_iload_n X 3 (i0 := 3) dX12_faultOfCommand_65 rfl rfl ?_
    refine g_iload X 4 dX12_faultOfCommand_66 rfl ?_
    obtain ⟨r8, D7, e6, h⟩ := cI_s h
    refine g_V X (As := [.int a1, .int a2, .int a3]) (rest := []) (c_X8_faultOfLaying l G E a1 a2 a3 _ _ e6) 1 (wg_1 E _) rfl rfl kv_X12_160 ⟨rfl, rfl⟩ ⟨rfl, hd_X8_faultOfLaying⟩ (⟨Nat.le_of_ble_eq_true rfl, Nat.le_of_ble_eq_true rfl⟩) rfl rfl (Nat.le_of_ble_eq_true rfl) dX12_faultOfCommand_68 ?_
    exact g_iret X hr rfl dX12_faultOfCommand_71 (Option.some.inj h)
  have h := (ite_s h).2 w5
  by_cases w9 : (4 : Int32) = (3 : Int32)
  · have h := (ite_s h).1 w9
    refine g_tswIn X (tgt := 72) dX12_faultOfCommand_8 w9 (by decide) (by decide) rfl (by decide) ?_
    refine g_aload_n X 0 (i0 := 0) dX12_faultOfCommand_72 rfl rfl ?_
    refine g_get X (D := D) (v := .ref (E.1 1)) (T := TX12) 0 uX12 (wg_0 E _) rfl 0 (by decide) fl_X12_10 rfl rfl dX12_faultOfCommand_73 ?_
    refine g_iload_n X 2 (i0 := 2) dX12_faultOfCommand_76 rfl rfl ?_
    obtain ⟨r12, D11, e10, h⟩ := cI_s h
    refine g_V X (As := [.int a1]) (rest := []) (c_X8_hasCharge l G E a1 _ _ e10) 1 (wg_1 E _) rfl rfl kv_X12_170 ⟨rfl, rfl⟩ ⟨rfl, hd_X8_hasCharge⟩ (⟨Nat.le_of_ble_eq_true rfl, Nat.le_of_ble_eq_true rfl⟩) rfl rfl (Nat.le_of_ble_eq_true rfl) dX12_faultOfCommand_77 ?_
    refine g_if_eq X (tgt := 87) dX12_faultOfCommand_80 (by decide) (fun c13 => ?_) (fun c13 => ?_)
    · have h := (ite_s h).1 c13
      refine g_iconst X (v := (1 : Int32)) dX12_faultOfCommand_87 (by decide) ?_
      exact g_iret X hr rfl dX12_faultOfCommand_88 (Option.some.inj h)
    · have h := (ite_s h).2 c13
      refine g_iconst X (v := (0 : Int32)) dX12_faultOfCommand_83 (by decide) ?_
      refine g_goto X (tgt := 88) dX12_faultOfCommand_84 (by decide) ?_
      exact g_iret X hr rfl dX12_faultOfCommand_88 (Option.some.inj h)
  have h := (ite_s h).2 w9
  by_cases w14 : (4 : Int32) = (4 : Int32)
  · have h := (ite_s h).1 w14
    refine g_tswIn X (tgt := 72) dX12_faultOfCommand_8 w14 (by decide) (by decide) rfl (by decide) ?_
    refine g_aload_n X 0 (i0 := 0) dX12_faultOfCommand_72 rfl rfl ?_
    refine g_get X (D := D) (v := .ref (E.1 1)) (T := TX12) 0 uX12 (wg_0 E _) rfl 0 (by decide) fl_X12_10 rfl rfl dX12_faultOfCommand_73 ?_
    refine g_iload_n X 2 (i0 := 2) dX12_faultOfCommand_76 rfl rfl ?_
    obtain ⟨r17, D16, e15, h⟩ := cI_s h
    refine g_V X (As := [.int a1]) (rest := []) (c_X8_hasCharge l G E a1 _ _ e15) 1 (wg_1 E _) rfl rfl kv_X12_170 ⟨rfl, rfl⟩ ⟨rfl, hd_X8_hasCharge⟩ (⟨Nat.le_of_ble_eq_true rfl, Nat.le_of_ble_eq_true rfl⟩) rfl rfl (Nat.le_of_ble_eq_true rfl) dX12_faultOfCommand_77 ?_
    refine g_if_eq X (tgt := 87) dX12_faultOfCommand_80 (by decide) (fun c18 => ?_) (fun c18 => ?_)
    · have h := (ite_s h).1 c18
      refine g_iconst X (v := (1 : Int32)) dX12_faultOfCommand_87 (by decide) ?_
      exact g_iret X hr rfl dX12_faultOfCommand_88 (Option.some.inj h)
    · have h := (ite_s h).2 c18
      refine g_iconst X (v := (0 : Int32)) dX12_faultOfCommand_83 (by decide) ?_
      refine g_goto X (tgt := 88) dX12_faultOfCommand_84 (by decide) ?_
      exact g_iret X hr rfl dX12_faultOfCommand_88 (Option.some.inj h)
  have h := (ite_s h).2 w14
  by_cases w19 : (4 : Int32) = (5 : Int32)
  · have h := (ite_s h).1 w19
    refine g_tswIn X (tgt := 89) dX12_faultOfCommand_8 w19 (by decide) (by decide) rfl (by decide) ?_
    refine g_aload_n X 0 (i0 := 0) dX12_faultOfCommand_89 rfl rfl ?_
    refine g_get X (D := D) (v := .ref (E.1 1)) (T := TX12) 0 uX12 (wg_0 E _) rfl 0 (by decide) fl_X12_10 rfl rfl dX12_faultOfCommand_90 ?_
    refine g_iload_n X 2 (i0 := 2) dX12_faultOfCommand_93 rfl rfl ?_
    refine g_iload_n X 3 (i0 := 3) dX12_faultOfCommand_94 rfl rfl ?_
    obtain ⟨r22, D21, e20, h⟩ := cI_s h
    refine g_V X (As := [.int a1, .int a2]) (rest := []) (c_X8_faultOfDigging l G E a1 a2 _ _ e20) 1 (wg_1 E _) rfl rfl kv_X12_119 ⟨rfl, rfl⟩ ⟨rfl, hd_X8_faultOfDigging⟩ (⟨Nat.le_of_ble_eq_true rfl, Nat.le_of_ble_eq_true rfl⟩) rfl rfl (Nat.le_of_ble_eq_true rfl) dX12_faultOfCommand_95 ?_
    exact g_iret X hr rfl dX12_faultOfCommand_98 (Option.some.inj h)
  have h := (ite_s h).2 w19
  by_cases w23 : (4 : Int32) = (6 : Int32)
  · have h := (ite_s h).1 w23
    refine g_tswIn X (tgt := 99) dX12_faultOfCommand_8 w23 (by decide) (by decide) rfl (by decide) ?_
    refine g_aload_n X 0 (i0 := 0) dX12_faultOfCommand_99 rfl rfl ?_
    refine g_get X (D := D) (v := .ref (E.1 1)) (T := TX12) 0 uX12 (wg_0 E _) rfl 0 (by decide) fl_X12_10 rfl rfl dX12_faultOfCommand_100 ?_
    refine g_iload_n X 2 (i0 := 2) dX12_faultOfCommand_103 rfl rfl ?_
    refine g_iload_n X 3 (i0 := 3) dX12_faultOfCommand_104 rfl rfl ?_
    obtain ⟨r26, D25, e24, h⟩ := cI_s h
    refine g_V X (As := [.int a1, .int a2]) (rest := []) (c_X8_faultOfPrice l G E a1 a2 _ _ e24) 1 (wg_1 E _) rfl rfl kv_X12_230 ⟨rfl, rfl⟩ ⟨rfl, hd_X8_faultOfPrice⟩ (⟨Nat.le_of_ble_eq_true rfl, Nat.le_of_ble_eq_true rfl⟩) rfl rfl (Nat.le_of_ble_eq_true rfl) dX12_faultOfCommand_105 ?_
    exact g_iret X hr rfl dX12_faultOfCommand_108 (Option.some.inj h)
  have h := (ite_s h).2 w23
  have zw1 := lv_neT w1 (show (1 : Int32).toInt = 1 by decide)
  have zw5 := lv_neT w5 (show (2 : Int32).toInt = 2 by decide)
  have zw9 := lv_neT w9 (show (3 : Int32).toInt = 3 by decide)
  have zw14 := lv_neT w14 (show (4 : Int32).toInt = 4 by decide)
  have zw19 := lv_neT w19 (show (5 : Int32).toInt = 5 by decide)
  have zw23 := lv_neT w23 (show (6 : Int32).toInt = 6 by decide)
  refine g_tswOut X (tgt := 109) dX12_faultOfCommand_8 (by omega) (by decide) ?_
  refine g_aload_n X 0 (i0 := 0) dX12_faultOfCommand_109 rfl rfl ?_
  refine g_get X (D := D) (v := .ref (E.1 1)) (T := TX12) 0 uX12 (wg_0 E _) rfl 0 (by decide) fl_X12_10 rfl rfl dX12_faultOfCommand_110 ?_
  refine g_iload_n X 2 (i0 := 2) dX12_faultOfCommand_113 rfl rfl ?_
  obtain ⟨r29, D28, e27, h⟩ := cI_s h
  refine g_V X (As := [.int a1]) (rest := []) (c_X8_faultOfSelling l G E a1 _ _ e27) 1 (wg_1 E _) rfl rfl kv_X12_252 ⟨rfl, rfl⟩ ⟨rfl, hd_X8_faultOfSelling⟩ (⟨Nat.le_of_ble_eq_true rfl, Nat.le_of_ble_eq_true rfl⟩) rfl rfl (Nat.le_of_ble_eq_true rfl) dX12_faultOfCommand_114 ?_
  exact g_iret X hr rfl dX12_faultOfCommand_117 (Option.some.inj h)
def S_X12_carryOut_x_K3 (a1 : Int32) (D : DD) : Option RT := (cI (S_X4_parameterAt a1 (0 : Int32) D) (fun r3 D2 => (cI (S_X4_parameterAt a1 (1 : Int32) D2) (fun r6 D5 => (cI (S_X4_parameterAt a1 (2 : Int32) D5) (fun r9 D8 => (cI (S_X12_faultOfCommand_x_K3 r3 r6 r9 D8) (fun r12 D11 => (if r12 = 0 then (if (4 : Int32) = (1 : Int32) then (cI (S_X12_cellAt r3 r6 D11) (fun r16 D15 => (cI (S_X8_harden r16 r9 D15) (fun r19 D18 => some (0, some (.int (1 : Int32)), D18))))) else (if (4 : Int32) = (2 : Int32) then (cI (S_X12_cellAt r3 r6 D11) (fun r23 D22 => (cI (S_X8_lay r23 r9 D22) (fun r26 D25 => some (0, some (.int (1 : Int32)), D25))))) else (if (4 : Int32) = (3 : Int32) then (cI (S_X8_takeAway r3 D11) (fun r30 D29 => some (0, some (.int (1 : Int32)), D29))) else (if (4 : Int32) = (4 : Int32) then (cI (S_X12_blowUp r3 D11) (fun r34 D33 => some (0, some (.int (1 : Int32)), D33))) else (if (4 : Int32) = (5 : Int32) then (cI (S_X12_cellAt r3 r6 D11) (fun r38 D37 => (cL (S_X8_digOut r38 D37) (fun r41 D40 => some (0, some (.int (1 : Int32)), D40))))) else (if (4 : Int32) = (6 : Int32) then (cI (S_X8_putPrice r3 r6 D11) (fun r45 D44 => some (0, some (.int (1 : Int32)), D44))) else (cI (S_X12_sellBar r3 D11) (fun r48 D47 => some (0, some (.int (1 : Int32)), D47))))))))) else some (0, some (.int (0 : Int32)), D11))))))))))
set_option maxRecDepth 100000 in
set_option maxHeartbeats 4000000 in
theorem c_X12_carryOut_x_K3 (l : Launch) (G : va_G) (E : EE) (a1 : Int32) (D : DD) (r : RT) (h : S_X12_carryOut_x_K3 a1 D = some r) : MM l G E yX12_carryOut cX12_carryOut 6 (some .boolean) (rmm 5) [.ref (E.1 0), .ref (E.1 1003), .int a1] D r := by
  refine m_of rfl (Nat.le_of_ble_eq_true rfl) ?_
  intro p e s m args below meth c X hr
  unfold S_X12_carryOut_x_K3 at h
  refine g_aload_n X 1 (i0 := 1) dX12_carryOut_0 rfl rfl ?_
  refine g_ifnonnull X (tgt := 6) dX12_carryOut_1 (by decide) ?_
  refine g_aload_n X 0 (i0 := 0) dX12_carryOut_6 rfl rfl ?_
  refine g_get X (D := D) (v := .ref (E.1 80)) (T := TX12) 0 uX12 (wg_0 E _) rfl 11 (by decide) fl_X12_81 rfl rfl dX12_carryOut_7 ?_
  refine g_iload_n X 2 (i0 := 2) dX12_carryOut_10 rfl rfl ?_
  refine g_iconst X (v := (0 : Int32)) dX12_carryOut_11 (by decide) ?_
  obtain ⟨r3, D2, e1, h⟩ := cI_s h
  refine g_V X (As := [.int a1, .int (0 : Int32)]) (rest := []) (c_X4_parameterAt l G E a1 (0 : Int32) _ _ e1) 80 (wg_80 E _) rfl rfl kv_X12_371 ⟨rfl, rfl⟩ ⟨rfl, hd_X4_parameterAt⟩ (⟨Nat.le_of_ble_eq_true rfl, Nat.le_of_ble_eq_true rfl⟩) rfl rfl (Nat.le_of_ble_eq_true rfl) dX12_carryOut_12 ?_
  refine g_istore_n X (i0 := 3) (lv' := [(3, .int r3), (0, .ref (E.1 0)), (1, .ref (E.1 1003)), (2, .int a1)]) dX12_carryOut_15 rfl (by decide) rfl ?_
  refine g_aload_n X 1 (i0 := 0) dX12_carryOut_16 rfl rfl ?_
  refine g_get X (D := D2) (v := .ref (E.1 80)) (T := TX12) 0 uX12 (wg_0 E _) rfl 11 (by decide) fl_X12_81 rfl rfl dX12_carryOut_17 ?_
  refine g_iload_n X 3 (i0 := 2) dX12_carryOut_20 rfl rfl ?_
  refine g_iconst X (v := (1 : Int32)) dX12_carryOut_21 (by decide) ?_
  obtain ⟨r6, D5, e4, h⟩ := cI_s h
  refine g_V X (As := [.int a1, .int (1 : Int32)]) (rest := []) (c_X4_parameterAt l G E a1 (1 : Int32) _ _ e4) 80 (wg_80 E _) rfl rfl kv_X12_371 ⟨rfl, rfl⟩ ⟨rfl, hd_X4_parameterAt⟩ (⟨Nat.le_of_ble_eq_true rfl, Nat.le_of_ble_eq_true rfl⟩) rfl rfl (Nat.le_of_ble_eq_true rfl) dX12_carryOut_22 ?_
  refine g_istore X (lv' := [(4, .int r6), (3, .int r3), (0, .ref (E.1 0)), (1, .ref (E.1 1003)), (2, .int a1)]) dX12_carryOut_25 (by decide) rfl ?_
  refine g_aload_n X 2 (i0 := 0) dX12_carryOut_27 rfl rfl ?_
  refine g_get X (D := D5) (v := .ref (E.1 80)) (T := TX12) 0 uX12 (wg_0 E _) rfl 11 (by decide) fl_X12_81 rfl rfl dX12_carryOut_28 ?_
  refine g_iload_n X 4 (i0 := 2) dX12_carryOut_31 rfl rfl ?_
  refine g_iconst X (v := (2 : Int32)) dX12_carryOut_32 (by decide) ?_
  obtain ⟨r9, D8, e7, h⟩ := cI_s h
  refine g_V X (As := [.int a1, .int (2 : Int32)]) (rest := []) (c_X4_parameterAt l G E a1 (2 : Int32) _ _ e7) 80 (wg_80 E _) rfl rfl kv_X12_371 ⟨rfl, rfl⟩ ⟨rfl, hd_X4_parameterAt⟩ (⟨Nat.le_of_ble_eq_true rfl, Nat.le_of_ble_eq_true rfl⟩) rfl rfl (Nat.le_of_ble_eq_true rfl) dX12_carryOut_33 ?_
  refine g_istore X (lv' := [(5, .int r9), (4, .int r6), (3, .int r3), (0, .ref (E.1 0)), (1, .ref (E.1 1003)), (2, .int a1)]) dX12_carryOut_36 (by decide) rfl ?_
  refine g_aload_n X 3 (i0 := 0) dX12_carryOut_38 rfl rfl ?_
  refine g_aload_n X 4 (i0 := 1) dX12_carryOut_39 rfl rfl ?_
  refine g_iload_n X 2 (i0 := 3) dX12_carryOut_40 rfl rfl ?_
  refine g_iload X 1 dX12_carryOut_41 rfl ?_
  refine g_iload X 0 dX12_carryOut_43 rfl ?_
  obtain ⟨r12, D11, e10, h⟩ := cI_s h
  refine g_V X (As := [.ref (E.1 1003), .int r3, .int r6, .int r9]) (rest := []) (c_X12_faultOfCommand_x_K3 l G E r3 r6 r9 _ _ e10) 0 (wg_0 E _) rfl rfl kv_X12_374 ⟨rfl, rfl⟩ ⟨rfl, hd_X12_faultOfCommand⟩ (⟨Nat.le_of_ble_eq_true rfl, Nat.le_of_ble_eq_true rfl⟩) rfl rfl (Nat.le_of_ble_eq_true rfl) dX12_carryOut_45 ?_
  refine g_if_eq X (tgt := 53) dX12_carryOut_48 (by decide) (fun c49 => ?_) (fun c49 => ?_)
  · have h := (ite_s h).1 c49
    refine g_gets X (v := .ref (E.1 1021)) X.2.2.2.2.2.2.2.2.2.1 fl_X12_378 dX12_carryOut_53 ?_
    refine g_aload_n X 4 (i0 := 1) dX12_carryOut_56 rfl rfl ?_
    refine g_ord X (v := (3 : Int32)) (X.2.2.2.2.2.2.1 3 (by decide)).1 (X.2.2.2.2.2.2.1 3 (by decide)).2.1 wo_link_X12_384 wo_same wo_sel wo_inst wo_code wo_fl (Nat.le_of_ble_eq_true rfl) (Nat.le_of_ble_eq_true rfl) (Nat.le_of_ble_eq_true rfl) dX12_carryOut_57 ?_
    refine g_ti X X.2.2.2.2.2.2.2.2.2.2.1 (i := (3 : Int32)) (v := .int (4 : Int32)) (inB_vp (by decide)) rfl dX12_carryOut_60 ?_
    by_cases w13 : (4 : Int32) = (1 : Int32)
    · have h := (ite_s h).1 w13
      refine g_tswIn X (tgt := 100) dX12_carryOut_61 w13 (by decide) (by decide) rfl (by decide) ?_
      refine g_aload_n X 3 (i0 := 0) dX12_carryOut_100 rfl rfl ?_
      refine g_get X (D := D11) (v := .ref (E.1 1)) (T := TX12) 0 uX12 (wg_0 E _) rfl 0 (by decide) fl_X12_10 rfl rfl dX12_carryOut_101 ?_
      refine g_iload_n X 2 (i0 := 3) dX12_carryOut_104 rfl rfl ?_
      refine g_iload X 1 dX12_carryOut_105 rfl ?_
      obtain ⟨r16, D15, e14, h⟩ := cI_s h
      refine g_S X (As := [.int r3, .int r6]) (rest := [.ref (E.1 1)]) (c_X12_cellAt l G E r3 r6 _ _ e14) ks_X12_112 ⟨rfl, rfl⟩ hd_X12_cellAt (⟨Nat.le_of_ble_eq_true rfl, Nat.le_of_ble_eq_true rfl⟩) rfl rfl (Nat.le_of_ble_eq_true rfl) dX12_carryOut_107 ?_
      refine g_iload X 0 dX12_carryOut_110 rfl ?_
      obtain ⟨r19, D18, e17, h⟩ := cI_s h
      refine g_V X (As := [.int r16, .int r9]) (rest := []) (c_X8_harden l G E r16 r9 _ _ e17) 1 (wg_1 E _) rfl rfl kv_X12_116 ⟨rfl, rfl⟩ ⟨rfl, hd_X8_harden⟩ (⟨Nat.le_of_ble_eq_true rfl, Nat.le_of_ble_eq_true rfl⟩) rfl rfl (Nat.le_of_ble_eq_true rfl) dX12_carryOut_112 ?_
      refine g_pop X dX12_carryOut_115 rfl ?_
      refine g_goto X (tgt := 196) dX12_carryOut_116 (by decide) ?_
      refine g_iconst X (v := (1 : Int32)) dX12_carryOut_196 (by decide) ?_
      exact g_iret X hr rfl dX12_carryOut_197 (Option.some.inj h)
    have h := (ite_s h).2 w13
    by_cases w20 : (4 : Int32) = (2 : Int32)
    · have h := (ite_s h).1 w20
      refine g_tswIn X (tgt := 119) dX12_carryOut_61 w20 (by decide) (by decide) rfl (by decide) ?_
      refine g_aload_n X 3 (i0 := 0) dX12_carryOut_119 rfl rfl ?_
      refine g_get X (D := D11) (v := .ref (E.1 1)) (T := TX12) 0 uX12 (wg_0 E _) rfl 0 (by decide) fl_X12_10 rfl rfl dX12_carryOut_120 ?_
      refine g_iload_n X 2 (i0 := 3) dX12_carryOut_123 rfl rfl ?_
      refine g_iload X 1 dX12_carryOut_124 rfl ?_
      obtain ⟨r23, D22, e21, h⟩ := cI_s h
      refine g_S X (As := [.int r3, .int r6]) (rest := [.ref (E.1 1)]) (c_X12_cellAt l G E r3 r6 _ _ e21) ks_X12_112 ⟨rfl, rfl⟩ hd_X12_cellAt (⟨Nat.le_of_ble_eq_true rfl, Nat.le_of_ble_eq_true rfl⟩) rfl rfl (Nat.le_of_ble_eq_true rfl) dX12_carryOut_126 ?_
      refine g_iload X 0 dX12_carryOut_129 rfl ?_
      obtain ⟨r26, D25, e24, h⟩ := cI_s h
      refine g_V X (As := [.int r23, .int r9]) (rest := []) (c_X8_lay l G E r23 r9 _ _ e24) 1 (wg_1 E _) rfl rfl kv_X12_167 ⟨rfl, rfl⟩ ⟨rfl, hd_X8_lay⟩ (⟨Nat.le_of_ble_eq_true rfl, Nat.le_of_ble_eq_true rfl⟩) rfl rfl (Nat.le_of_ble_eq_true rfl) dX12_carryOut_131 ?_
      refine g_pop X dX12_carryOut_134 rfl ?_
      refine g_goto X (tgt := 196) dX12_carryOut_135 (by decide) ?_
      refine g_iconst X (v := (1 : Int32)) dX12_carryOut_196 (by decide) ?_
      exact g_iret X hr rfl dX12_carryOut_197 (Option.some.inj h)
    have h := (ite_s h).2 w20
    by_cases w27 : (4 : Int32) = (3 : Int32)
    · have h := (ite_s h).1 w27
      refine g_tswIn X (tgt := 138) dX12_carryOut_61 w27 (by decide) (by decide) rfl (by decide) ?_
      refine g_aload_n X 3 (i0 := 0) dX12_carryOut_138 rfl rfl ?_
      refine g_get X (D := D11) (v := .ref (E.1 1)) (T := TX12) 0 uX12 (wg_0 E _) rfl 0 (by decide) fl_X12_10 rfl rfl dX12_carryOut_139 ?_
      refine g_iload_n X 2 (i0 := 3) dX12_carryOut_142 rfl rfl ?_
      obtain ⟨r30, D29, e28, h⟩ := cI_s h
      refine g_V X (As := [.int r3]) (rest := []) (c_X8_takeAway l G E r3 _ _ e28) 1 (wg_1 E _) rfl rfl kv_X12_178 ⟨rfl, rfl⟩ ⟨rfl, hd_X8_takeAway⟩ (⟨Nat.le_of_ble_eq_true rfl, Nat.le_of_ble_eq_true rfl⟩) rfl rfl (Nat.le_of_ble_eq_true rfl) dX12_carryOut_143 ?_
      refine g_pop X dX12_carryOut_146 rfl ?_
      refine g_goto X (tgt := 196) dX12_carryOut_147 (by decide) ?_
      refine g_iconst X (v := (1 : Int32)) dX12_carryOut_196 (by decide) ?_
      exact g_iret X hr rfl dX12_carryOut_197 (Option.some.inj h)
    have h := (ite_s h).2 w27
    by_cases w31 : (4 : Int32) = (4 : Int32)
    · have h := (ite_s h).1 w31
      refine g_tswIn X (tgt := 150) dX12_carryOut_61 w31 (by decide) (by decide) rfl (by decide) ?_
      refine g_aload_n X 3 (i0 := 0) dX12_carryOut_150 rfl rfl ?_
      refine g_iload_n X 2 (i0 := 3) dX12_carryOut_151 rfl rfl ?_
      obtain ⟨r34, D33, e32, h⟩ := cI_s h
      refine g_V X (As := [.int r3]) (rest := []) (c_X12_blowUp l G E r3 _ _ e32) 0 (wg_0 E _) rfl rfl kv_X12_181 ⟨rfl, rfl⟩ ⟨rfl, hd_X12_blowUp⟩ (⟨Nat.le_of_ble_eq_true rfl, Nat.le_of_ble_eq_true rfl⟩) rfl rfl (Nat.le_of_ble_eq_true rfl) dX12_carryOut_152 ?_
      refine g_pop X dX12_carryOut_155 rfl ?_
      refine g_goto X (tgt := 196) dX12_carryOut_156 (by decide) ?_
      refine g_iconst X (v := (1 : Int32)) dX12_carryOut_196 (by decide) ?_
      exact g_iret X hr rfl dX12_carryOut_197 (Option.some.inj h)
    have h := (ite_s h).2 w31
    by_cases w35 : (4 : Int32) = (5 : Int32)
    · have h := (ite_s h).1 w35
      refine g_tswIn X (tgt := 159) dX12_carryOut_61 w35 (by decide) (by decide) rfl (by decide) ?_
      refine g_aload_n X 3 (i0 := 0) dX12_carryOut_159 rfl rfl ?_
      refine g_get X (D := D11) (v := .ref (E.1 1)) (T := TX12) 0 uX12 (wg_0 E _) rfl 0 (by decide) fl_X12_10 rfl rfl dX12_carryOut_160 ?_
      refine g_iload_n X 2 (i0 := 3) dX12_carryOut_163 rfl rfl ?_
      refine g_iload X 1 dX12_carryOut_164 rfl ?_
      obtain ⟨r38, D37, e36, h⟩ := cI_s h
      refine g_S X (As := [.int r3, .int r6]) (rest := [.ref (E.1 1)]) (c_X12_cellAt l G E r3 r6 _ _ e36) ks_X12_112 ⟨rfl, rfl⟩ hd_X12_cellAt (⟨Nat.le_of_ble_eq_true rfl, Nat.le_of_ble_eq_true rfl⟩) rfl rfl (Nat.le_of_ble_eq_true rfl) dX12_carryOut_166 ?_
      obtain ⟨r41, D40, e39, h⟩ := cL_s h
      refine g_V X (As := [.int r38]) (rest := []) (c_X8_digOut l G E r38 _ _ e39) 1 (wg_1 E _) rfl rfl kv_X12_131 ⟨rfl, rfl⟩ ⟨rfl, hd_X8_digOut⟩ (⟨Nat.le_of_ble_eq_true rfl, Nat.le_of_ble_eq_true rfl⟩) rfl rfl (Nat.le_of_ble_eq_true rfl) dX12_carryOut_169 ?_
      refine g_pop2 X dX12_carryOut_172 rfl ?_
      refine g_goto X (tgt := 196) dX12_carryOut_173 (by decide) ?_
      refine g_iconst X (v := (1 : Int32)) dX12_carryOut_196 (by decide) ?_
      exact g_iret X hr rfl dX12_carryOut_197 (Option.some.inj h)
    have h := (ite_s h).2 w35
    by_cases w42 : (4 : Int32) = (6 : Int32)
    · have h := (ite_s h).1 w42
      refine g_tswIn X (tgt := 176) dX12_carryOut_61 w42 (by decide) (by decide) rfl (by decide) ?_
      refine g_aload_n X 3 (i0 := 0) dX12_carryOut_176 rfl rfl ?_
      refine g_get X (D := D11) (v := .ref (E.1 1)) (T := TX12) 0 uX12 (wg_0 E _) rfl 0 (by decide) fl_X12_10 rfl rfl dX12_carryOut_177 ?_
      refine g_iload_n X 2 (i0 := 3) dX12_carryOut_180 rfl rfl ?_
      refine g_iload X 1 dX12_carryOut_181 rfl ?_
      obtain ⟨r45, D44, e43, h⟩ := cI_s h
      refine g_V X (As := [.int r3, .int r6]) (rest := []) (c_X8_putPrice l G E r3 r6 _ _ e43) 1 (wg_1 E _) rfl rfl kv_X12_235 ⟨rfl, rfl⟩ ⟨rfl, hd_X8_putPrice⟩ (⟨Nat.le_of_ble_eq_true rfl, Nat.le_of_ble_eq_true rfl⟩) rfl rfl (Nat.le_of_ble_eq_true rfl) dX12_carryOut_183 ?_
      refine g_pop X dX12_carryOut_186 rfl ?_
      refine g_goto X (tgt := 196) dX12_carryOut_187 (by decide) ?_
      refine g_iconst X (v := (1 : Int32)) dX12_carryOut_196 (by decide) ?_
      exact g_iret X hr rfl dX12_carryOut_197 (Option.some.inj h)
    have h := (ite_s h).2 w42
    have zw13 := lv_neT w13 (show (1 : Int32).toInt = 1 by decide)
    have zw20 := lv_neT w20 (show (2 : Int32).toInt = 2 by decide)
    have zw27 := lv_neT w27 (show (3 : Int32).toInt = 3 by decide)
    have zw31 := lv_neT w31 (show (4 : Int32).toInt = 4 by decide)
    have zw35 := lv_neT w35 (show (5 : Int32).toInt = 5 by decide)
    have zw42 := lv_neT w42 (show (6 : Int32).toInt = 6 by decide)
    refine g_tswOut X (tgt := 190) dX12_carryOut_61 (by omega) (by decide) ?_
    refine g_aload_n X 3 (i0 := 0) dX12_carryOut_190 rfl rfl ?_
    refine g_iload_n X 2 (i0 := 3) dX12_carryOut_191 rfl rfl ?_
    obtain ⟨r48, D47, e46, h⟩ := cI_s h
    refine g_V X (As := [.int r3]) (rest := []) (c_X12_sellBar l G E r3 _ _ e46) 0 (wg_0 E _) rfl rfl kv_X12_257 ⟨rfl, rfl⟩ ⟨rfl, hd_X12_sellBar⟩ (⟨Nat.le_of_ble_eq_true rfl, Nat.le_of_ble_eq_true rfl⟩) rfl rfl (Nat.le_of_ble_eq_true rfl) dX12_carryOut_192 ?_
    refine g_pop X dX12_carryOut_195 rfl ?_
    refine g_iconst X (v := (1 : Int32)) dX12_carryOut_196 (by decide) ?_
    exact g_iret X hr rfl dX12_carryOut_197 (Option.some.inj h)
  · have h := (ite_s h).2 c49
    refine g_iconst X (v := (0 : Int32)) dX12_carryOut_51 (by decide) ?_
    exact g_iret X hr rfl dX12_carryOut_52 (Option.some.inj h)
def S_X12_faultOfCommand_x_K4 (a1 : Int32) (a2 : Int32) (a3 : Int32) (D : DD) : Option RT := (if (5 : Int32) = (1 : Int32) then (cI (S_X8_faultOfHardness a1 a2 a3 D) (fun r4 D3 => some (0, some (.int r4), D3))) else (if (5 : Int32) = (2 : Int32) then (cI (S_X8_faultOfLaying a1 a2 a3 D) (fun r8 D7 => some (0, some (.int r8), D7))) else (if (5 : Int32) = (3 : Int32) then (cI (S_X8_hasCharge a1 D) (fun r12 D11 => (if r12 = 0 then some (0, some (.int (1 : Int32)), D11) else some (0, some (.int (0 : Int32)), D11)))) else (if (5 : Int32) = (4 : Int32) then (cI (S_X8_hasCharge a1 D) (fun r17 D16 => (if r17 = 0 then some (0, some (.int (1 : Int32)), D16) else some (0, some (.int (0 : Int32)), D16)))) else (if (5 : Int32) = (5 : Int32) then (cI (S_X8_faultOfDigging a1 a2 D) (fun r22 D21 => some (0, some (.int r22), D21))) else (if (5 : Int32) = (6 : Int32) then (cI (S_X8_faultOfPrice a1 a2 D) (fun r26 D25 => some (0, some (.int r26), D25))) else (cI (S_X8_faultOfSelling a1 D) (fun r29 D28 => some (0, some (.int r29), D28)))))))))
set_option maxRecDepth 100000 in
set_option maxHeartbeats 4000000 in
theorem c_X12_faultOfCommand_x_K4 (l : Launch) (G : va_G) (E : EE) (a1 : Int32) (a2 : Int32) (a3 : Int32) (D : DD) (r : RT) (h : S_X12_faultOfCommand_x_K4 a1 a2 a3 D = some r) : MM l G E yX12_faultOfCommand cX12_faultOfCommand 5 (some .int) (rmm 4) [.ref (E.1 0), .ref (E.1 1004), .int a1, .int a2, .int a3] D r := by
  refine m_of rfl (Nat.le_of_ble_eq_true rfl) ?_
  intro p e s m args below meth c X hr
  unfold S_X12_faultOfCommand_x_K4 at h
  refine g_gets X (v := .ref (E.1 1021)) X.2.2.2.2.2.2.2.2.2.1 fl_X12_378 dX12_faultOfCommand_0 ?_
  refine g_aload_n X 1 (i0 := 1) dX12_faultOfCommand_3 rfl rfl ?_
  refine g_ord X (v := (4 : Int32)) (X.2.2.2.2.2.2.1 4 (by decide)).1 (X.2.2.2.2.2.2.1 4 (by decide)).2.1 wo_link_X12_384 wo_same wo_sel wo_inst wo_code wo_fl (Nat.le_of_ble_eq_true rfl) (Nat.le_of_ble_eq_true rfl) (Nat.le_of_ble_eq_true rfl) dX12_faultOfCommand_4 ?_
  refine g_ti X X.2.2.2.2.2.2.2.2.2.2.1 (i := (4 : Int32)) (v := .int (5 : Int32)) (inB_vp (by decide)) rfl dX12_faultOfCommand_7 ?_
  by_cases w1 : (5 : Int32) = (1 : Int32)
  · have h := (ite_s h).1 w1
    refine g_tswIn X (tgt := 48) dX12_faultOfCommand_8 w1 (by decide) (by decide) rfl (by decide) ?_
    refine g_aload_n X 0 (i0 := 0) dX12_faultOfCommand_48 rfl rfl ?_
    refine g_get X (D := D) (v := .ref (E.1 1)) (T := TX12) 0 uX12 (wg_0 E _) rfl 0 (by decide) fl_X12_10 rfl rfl dX12_faultOfCommand_49 ?_
    refine g_iload_n X 2 (i0 := 2) dX12_faultOfCommand_52 rfl rfl ?_
    refine g_iload_n X 3 (i0 := 3) dX12_faultOfCommand_53 rfl rfl ?_
    refine g_iload X 4 dX12_faultOfCommand_54 rfl ?_
    obtain ⟨r4, D3, e2, h⟩ := cI_s h
    refine g_V X (As := [.int a1, .int a2, .int a3]) (rest := []) (c_X8_faultOfHardness l G E a1 a2 a3 _ _ e2) 1 (wg_1 E _) rfl rfl kv_X12_92 ⟨rfl, rfl⟩ ⟨rfl, hd_X8_faultOfHardness⟩ (⟨Nat.le_of_ble_eq_true rfl, Nat.le_of_ble_eq_true rfl⟩) rfl rfl (Nat.le_of_ble_eq_true rfl) dX12_faultOfCommand_56 ?_
    exact g_iret X hr rfl dX12_faultOfCommand_59 (Option.some.inj h)
  have h := (ite_s h).2 w1
  by_cases w5 : (5 : Int32) = (2 : Int32)
  · have h := (ite_s h).1 w5
    refine g_tswIn X (tgt := 60) dX12_faultOfCommand_8 w5 (by decide) (by decide) rfl (by decide) ?_
    refine g_aload_n X 0 (i0 := 0) dX12_faultOfCommand_60 rfl rfl ?_
    refine g_get X (D := D) (v := .ref (E.1 1)) (T := TX12) 0 uX12 (wg_0 E _) rfl 0 (by decide) fl_X12_10 rfl rfl dX12_faultOfCommand_61 ?_
    refine g_iload_n X 2 (i0 := 2) dX12_faultOfCommand_64 rfl rfl ?_
    refine g_iload_n X 3 (i0 := 3) dX12_faultOfCommand_65 rfl rfl ?_
    refine g_iload X 4 dX12_faultOfCommand_66 rfl ?_
    obtain ⟨r8, D7, e6, h⟩ := cI_s h
    refine g_V X (As := [.int a1, .int a2, .int a3]) (rest := []) (c_X8_faultOfLaying l G E a1 a2 a3 _ _ e6) 1 (wg_1 E _) rfl rfl kv_X12_160 ⟨rfl, rfl⟩ ⟨rfl, hd_X8_faultOfLaying⟩ (⟨Nat.le_of_ble_eq_true rfl, Nat.le_of_ble_eq_true rfl⟩) rfl rfl (Nat.le_of_ble_eq_true rfl) dX12_faultOfCommand_68 ?_
    exact g_iret X hr rfl dX12_faultOfCommand_71 (Option.some.inj h)
  have h := (ite_s h).2 w5
  by_cases w9 : (5 : Int32) = (3 : Int32)
  · have h := (ite_s h).1 w9
    refine g_tswIn X (tgt := 72) dX12_faultOfCommand_8 w9 (by decide) (by decide) rfl (by decide) ?_
    refine g_aload_n X 0 (i0 := 0) dX12_faultOfCommand_72 rfl rfl ?_
    refine g_get X (D := D) (v := .ref (E.1 1)) (T := TX12) 0 uX12 (wg_0 E _) rfl 0 (by decide) fl_X12_10 rfl rfl dX12_faultOfCommand_73 ?_
    refine g_iload_n X 2 (i0 := 2) dX12_faultOfCommand_76 rfl rfl ?_
    obtain ⟨r12, D11, e10, h⟩ := cI_s h
    refine g_V X (As := [.int a1]) (rest := []) (c_X8_hasCharge l G E a1 _ _ e10) 1 (wg_1 E _) rfl rfl kv_X12_170 ⟨rfl, rfl⟩ ⟨rfl, hd_X8_hasCharge⟩ (⟨Nat.le_of_ble_eq_true rfl, Nat.le_of_ble_eq_true rfl⟩) rfl rfl (Nat.le_of_ble_eq_true rfl) dX12_faultOfCommand_77 ?_
    refine g_if_eq X (tgt := 87) dX12_faultOfCommand_80 (by decide) (fun c13 => ?_) (fun c13 => ?_)
    · have h := (ite_s h).1 c13
      refine g_iconst X (v := (1 : Int32)) dX12_faultOfCommand_87 (by decide) ?_
      exact g_iret X hr rfl dX12_faultOfCommand_88 (Option.some.inj h)
    · have h := (ite_s h).2 c13
      refine g_iconst X (v := (0 : Int32)) dX12_faultOfCommand_83 (by decide) ?_
      refine g_goto X (tgt := 88) dX12_faultOfCommand_84 (by decide) ?_
      exact g_iret X hr rfl dX12_faultOfCommand_88 (Option.some.inj h)
  have h := (ite_s h).2 w9
  by_cases w14 : (5 : Int32) = (4 : Int32)
  · have h := (ite_s h).1 w14
    refine g_tswIn X (tgt := 72) dX12_faultOfCommand_8 w14 (by decide) (by decide) rfl (by decide) ?_
    refine g_aload_n X 0 (i0 := 0) dX12_faultOfCommand_72 rfl rfl ?_
    refine g_get X (D := D) (v := .ref (E.1 1)) (T := TX12) 0 uX12 (wg_0 E _) rfl 0 (by decide) fl_X12_10 rfl rfl dX12_faultOfCommand_73 ?_
    refine g_iload_n X 2 (i0 := 2) dX12_faultOfCommand_76 rfl rfl ?_
    obtain ⟨r17, D16, e15, h⟩ := cI_s h
    refine g_V X (As := [.int a1]) (rest := []) (c_X8_hasCharge l G E a1 _ _ e15) 1 (wg_1 E _) rfl rfl kv_X12_170 ⟨rfl, rfl⟩ ⟨rfl, hd_X8_hasCharge⟩ (⟨Nat.le_of_ble_eq_true rfl, Nat.le_of_ble_eq_true rfl⟩) rfl rfl (Nat.le_of_ble_eq_true rfl) dX12_faultOfCommand_77 ?_
    refine g_if_eq X (tgt := 87) dX12_faultOfCommand_80 (by decide) (fun c18 => ?_) (fun c18 => ?_)
    · have h := (ite_s h).1 c18
      refine g_iconst X (v := (1 : Int32)) dX12_faultOfCommand_87 (by decide) ?_
      exact g_iret X hr rfl dX12_faultOfCommand_88 (Option.some.inj h)
    · have h := (ite_s h).2 c18
      refine g_iconst X (v := (0 : Int32)) dX12_faultOfCommand_83 (by decide) ?_
      refine g_goto X (tgt := 88) dX12_faultOfCommand_84 (by decide) ?_
      exact g_iret X hr rfl dX12_faultOfCommand_88 (Option.some.inj h)
  have h := (ite_s h).2 w14
  by_cases w19 : (5 : Int32) = (5 : Int32)
  · have h := (ite_s h).1 w19
    refine g_tswIn X (tgt := 89) dX12_faultOfCommand_8 w19 (by decide) (by decide) rfl (by decide) ?_
    refine g_aload_n X 0 (i0 := 0) dX12_faultOfCommand_89 rfl rfl ?_
    refine g_get X (D := D) (v := .ref (E.1 1)) (T := TX12) 0 uX12 (wg_0 E _) rfl 0 (by decide) fl_X12_10 rfl rfl dX12_faultOfCommand_90 ?_
    refine g_iload_n X 2 (i0 := 2) dX12_faultOfCommand_93 rfl rfl ?_
    refine g_iload_n X 3 (i0 := 3) dX12_faultOfCommand_94 rfl rfl ?_
    obtain ⟨r22, D21, e20, h⟩ := cI_s h
    refine g_V X (As := [.int a1, .int a2]) (rest := []) (c_X8_faultOfDigging l G E a1 a2 _ _ e20) 1 (wg_1 E _) rfl rfl kv_X12_119 ⟨rfl, rfl⟩ ⟨rfl, hd_X8_faultOfDigging⟩ (⟨Nat.le_of_ble_eq_true rfl, Nat.le_of_ble_eq_true rfl⟩) rfl rfl (Nat.le_of_ble_eq_true rfl) dX12_faultOfCommand_95 ?_
    exact g_iret X hr rfl dX12_faultOfCommand_98 (Option.some.inj h)
  have h := (ite_s h).2 w19
  by_cases w23 : (5 : Int32) = (6 : Int32)
  · have h := (ite_s h).1 w23
    refine g_tswIn X (tgt := 99) dX12_faultOfCommand_8 w23 (by decide) (by decide) rfl (by decide) ?_
    refine g_aload_n X 0 (i0 := 0) dX12_faultOfCommand_99 rfl rfl ?_
    refine g_get X (D := D) (v := .ref (E.1 1)) (T := TX12) 0 uX12 (wg_0 E _) rfl 0 (by decide) fl_X12_10 rfl rfl dX12_faultOfCommand_100 ?_
    refine g_iload_n X 2 (i0 := 2) dX12_faultOfCommand_103 rfl rfl ?_
    refine g_iload_n X 3 (i0 := 3) dX12_faultOfCommand_104 rfl rfl ?_
    obtain ⟨r26, D25, e24, h⟩ := cI_s h
    refine g_V X (As := [.int a1, .int a2]) (rest := []) (c_X8_faultOfPrice l G E a1 a2 _ _ e24) 1 (wg_1 E _) rfl rfl kv_X12_230 ⟨rfl, rfl⟩ ⟨rfl, hd_X8_faultOfPrice⟩ (⟨Nat.le_of_ble_eq_true rfl, Nat.le_of_ble_eq_true rfl⟩) rfl rfl (Nat.le_of_ble_eq_true rfl) dX12_faultOfCommand_105 ?_
    exact g_iret X hr rfl dX12_faultOfCommand_108 (Option.some.inj h)
  have h := (ite_s h).2 w23
  have zw1 := lv_neT w1 (show (1 : Int32).toInt = 1 by decide)
  have zw5 := lv_neT w5 (show (2 : Int32).toInt = 2 by decide)
  have zw9 := lv_neT w9 (show (3 : Int32).toInt = 3 by decide)
  have zw14 := lv_neT w14 (show (4 : Int32).toInt = 4 by decide)
  have zw19 := lv_neT w19 (show (5 : Int32).toInt = 5 by decide)
  have zw23 := lv_neT w23 (show (6 : Int32).toInt = 6 by decide)
  refine g_tswOut X (tgt := 109) dX12_faultOfCommand_8 (by omega) (by decide) ?_
  refine g_aload_n X 0 (i0 := 0) dX12_faultOfCommand_109 rfl rfl ?_
  refine g_get X (D := D) (v := .ref (E.1 1)) (T := TX12) 0 uX12 (wg_0 E _) rfl 0 (by decide) fl_X12_10 rfl rfl dX12_faultOfCommand_110 ?_
  refine g_iload_n X 2 (i0 := 2) dX12_faultOfCommand_113 rfl rfl ?_
  obtain ⟨r29, D28, e27, h⟩ := cI_s h
  refine g_V X (As := [.int a1]) (rest := []) (c_X8_faultOfSelling l G E a1 _ _ e27) 1 (wg_1 E _) rfl rfl kv_X12_252 ⟨rfl, rfl⟩ ⟨rfl, hd_X8_faultOfSelling⟩ (⟨Nat.le_of_ble_eq_true rfl, Nat.le_of_ble_eq_true rfl⟩) rfl rfl (Nat.le_of_ble_eq_true rfl) dX12_faultOfCommand_114 ?_
  exact g_iret X hr rfl dX12_faultOfCommand_117 (Option.some.inj h)
def S_X12_carryOut_x_K4 (a1 : Int32) (D : DD) : Option RT := (cI (S_X4_parameterAt a1 (0 : Int32) D) (fun r3 D2 => (cI (S_X4_parameterAt a1 (1 : Int32) D2) (fun r6 D5 => (cI (S_X4_parameterAt a1 (2 : Int32) D5) (fun r9 D8 => (cI (S_X12_faultOfCommand_x_K4 r3 r6 r9 D8) (fun r12 D11 => (if r12 = 0 then (if (5 : Int32) = (1 : Int32) then (cI (S_X12_cellAt r3 r6 D11) (fun r16 D15 => (cI (S_X8_harden r16 r9 D15) (fun r19 D18 => some (0, some (.int (1 : Int32)), D18))))) else (if (5 : Int32) = (2 : Int32) then (cI (S_X12_cellAt r3 r6 D11) (fun r23 D22 => (cI (S_X8_lay r23 r9 D22) (fun r26 D25 => some (0, some (.int (1 : Int32)), D25))))) else (if (5 : Int32) = (3 : Int32) then (cI (S_X8_takeAway r3 D11) (fun r30 D29 => some (0, some (.int (1 : Int32)), D29))) else (if (5 : Int32) = (4 : Int32) then (cI (S_X12_blowUp r3 D11) (fun r34 D33 => some (0, some (.int (1 : Int32)), D33))) else (if (5 : Int32) = (5 : Int32) then (cI (S_X12_cellAt r3 r6 D11) (fun r38 D37 => (cL (S_X8_digOut r38 D37) (fun r41 D40 => some (0, some (.int (1 : Int32)), D40))))) else (if (5 : Int32) = (6 : Int32) then (cI (S_X8_putPrice r3 r6 D11) (fun r45 D44 => some (0, some (.int (1 : Int32)), D44))) else (cI (S_X12_sellBar r3 D11) (fun r48 D47 => some (0, some (.int (1 : Int32)), D47))))))))) else some (0, some (.int (0 : Int32)), D11))))))))))
set_option maxRecDepth 100000 in
set_option maxHeartbeats 4000000 in
theorem c_X12_carryOut_x_K4 (l : Launch) (G : va_G) (E : EE) (a1 : Int32) (D : DD) (r : RT) (h : S_X12_carryOut_x_K4 a1 D = some r) : MM l G E yX12_carryOut cX12_carryOut 6 (some .boolean) (rmm 5) [.ref (E.1 0), .ref (E.1 1004), .int a1] D r := by
  refine m_of rfl (Nat.le_of_ble_eq_true rfl) ?_
  intro p e s m args below meth c X hr
  unfold S_X12_carryOut_x_K4 at h
  refine g_aload_n X 1 (i0 := 1) dX12_carryOut_0 rfl rfl ?_
  refine g_ifnonnull X (tgt := 6) dX12_carryOut_1 (by decide) ?_
  refine g_aload_n X 0 (i0 := 0) dX12_carryOut_6 rfl rfl ?_
  refine g_get X (D := D) (v := .ref (E.1 80)) (T := TX12) 0 uX12 (wg_0 E _) rfl 11 (by decide) fl_X12_81 rfl rfl dX12_carryOut_7 ?_
  refine g_iload_n X 2 (i0 := 2) dX12_carryOut_10 rfl rfl ?_
  refine g_iconst X (v := (0 : Int32)) dX12_carryOut_11 (by decide) ?_
  obtain ⟨r3, D2, e1, h⟩ := cI_s h
  refine g_V X (As := [.int a1, .int (0 : Int32)]) (rest := []) (c_X4_parameterAt l G E a1 (0 : Int32) _ _ e1) 80 (wg_80 E _) rfl rfl kv_X12_371 ⟨rfl, rfl⟩ ⟨rfl, hd_X4_parameterAt⟩ (⟨Nat.le_of_ble_eq_true rfl, Nat.le_of_ble_eq_true rfl⟩) rfl rfl (Nat.le_of_ble_eq_true rfl) dX12_carryOut_12 ?_
  refine g_istore_n X (i0 := 3) (lv' := [(3, .int r3), (0, .ref (E.1 0)), (1, .ref (E.1 1004)), (2, .int a1)]) dX12_carryOut_15 rfl (by decide) rfl ?_
  refine g_aload_n X 1 (i0 := 0) dX12_carryOut_16 rfl rfl ?_
  refine g_get X (D := D2) (v := .ref (E.1 80)) (T := TX12) 0 uX12 (wg_0 E _) rfl 11 (by decide) fl_X12_81 rfl rfl dX12_carryOut_17 ?_
  refine g_iload_n X 3 (i0 := 2) dX12_carryOut_20 rfl rfl ?_
  refine g_iconst X (v := (1 : Int32)) dX12_carryOut_21 (by decide) ?_
  obtain ⟨r6, D5, e4, h⟩ := cI_s h
  refine g_V X (As := [.int a1, .int (1 : Int32)]) (rest := []) (c_X4_parameterAt l G E a1 (1 : Int32) _ _ e4) 80 (wg_80 E _) rfl rfl kv_X12_371 ⟨rfl, rfl⟩ ⟨rfl, hd_X4_parameterAt⟩ (⟨Nat.le_of_ble_eq_true rfl, Nat.le_of_ble_eq_true rfl⟩) rfl rfl (Nat.le_of_ble_eq_true rfl) dX12_carryOut_22 ?_
  refine g_istore X (lv' := [(4, .int r6), (3, .int r3), (0, .ref (E.1 0)), (1, .ref (E.1 1004)), (2, .int a1)]) dX12_carryOut_25 (by decide) rfl ?_
  refine g_aload_n X 2 (i0 := 0) dX12_carryOut_27 rfl rfl ?_
  refine g_get X (D := D5) (v := .ref (E.1 80)) (T := TX12) 0 uX12 (wg_0 E _) rfl 11 (by decide) fl_X12_81 rfl rfl dX12_carryOut_28 ?_
  refine g_iload_n X 4 (i0 := 2) dX12_carryOut_31 rfl rfl ?_
  refine g_iconst X (v := (2 : Int32)) dX12_carryOut_32 (by decide) ?_
  obtain ⟨r9, D8, e7, h⟩ := cI_s h
  refine g_V X (As := [.int a1, .int (2 : Int32)]) (rest := []) (c_X4_parameterAt l G E a1 (2 : Int32) _ _ e7) 80 (wg_80 E _) rfl rfl kv_X12_371 ⟨rfl, rfl⟩ ⟨rfl, hd_X4_parameterAt⟩ (⟨Nat.le_of_ble_eq_true rfl, Nat.le_of_ble_eq_true rfl⟩) rfl rfl (Nat.le_of_ble_eq_true rfl) dX12_carryOut_33 ?_
  refine g_istore X (lv' := [(5, .int r9), (4, .int r6), (3, .int r3), (0, .ref (E.1 0)), (1, .ref (E.1 1004)), (2, .int a1)]) dX12_carryOut_36 (by decide) rfl ?_
  refine g_aload_n X 3 (i0 := 0) dX12_carryOut_38 rfl rfl ?_
  refine g_aload_n X 4 (i0 := 1) dX12_carryOut_39 rfl rfl ?_
  refine g_iload_n X 2 (i0 := 3) dX12_carryOut_40 rfl rfl ?_
  refine g_iload X 1 dX12_carryOut_41 rfl ?_
  refine g_iload X 0 dX12_carryOut_43 rfl ?_
  obtain ⟨r12, D11, e10, h⟩ := cI_s h
  refine g_V X (As := [.ref (E.1 1004), .int r3, .int r6, .int r9]) (rest := []) (c_X12_faultOfCommand_x_K4 l G E r3 r6 r9 _ _ e10) 0 (wg_0 E _) rfl rfl kv_X12_374 ⟨rfl, rfl⟩ ⟨rfl, hd_X12_faultOfCommand⟩ (⟨Nat.le_of_ble_eq_true rfl, Nat.le_of_ble_eq_true rfl⟩) rfl rfl (Nat.le_of_ble_eq_true rfl) dX12_carryOut_45 ?_
  refine g_if_eq X (tgt := 53) dX12_carryOut_48 (by decide) (fun c49 => ?_) (fun c49 => ?_)
  · have h := (ite_s h).1 c49
    refine g_gets X (v := .ref (E.1 1021)) X.2.2.2.2.2.2.2.2.2.1 fl_X12_378 dX12_carryOut_53 ?_
    refine g_aload_n X 4 (i0 := 1) dX12_carryOut_56 rfl rfl ?_
    refine g_ord X (v := (4 : Int32)) (X.2.2.2.2.2.2.1 4 (by decide)).1 (X.2.2.2.2.2.2.1 4 (by decide)).2.1 wo_link_X12_384 wo_same wo_sel wo_inst wo_code wo_fl (Nat.le_of_ble_eq_true rfl) (Nat.le_of_ble_eq_true rfl) (Nat.le_of_ble_eq_true rfl) dX12_carryOut_57 ?_
    refine g_ti X X.2.2.2.2.2.2.2.2.2.2.1 (i := (4 : Int32)) (v := .int (5 : Int32)) (inB_vp (by decide)) rfl dX12_carryOut_60 ?_
    by_cases w13 : (5 : Int32) = (1 : Int32)
    · have h := (ite_s h).1 w13
      refine g_tswIn X (tgt := 100) dX12_carryOut_61 w13 (by decide) (by decide) rfl (by decide) ?_
      refine g_aload_n X 3 (i0 := 0) dX12_carryOut_100 rfl rfl ?_
      refine g_get X (D := D11) (v := .ref (E.1 1)) (T := TX12) 0 uX12 (wg_0 E _) rfl 0 (by decide) fl_X12_10 rfl rfl dX12_carryOut_101 ?_
      refine g_iload_n X 2 (i0 := 3) dX12_carryOut_104 rfl rfl ?_
      refine g_iload X 1 dX12_carryOut_105 rfl ?_
      obtain ⟨r16, D15, e14, h⟩ := cI_s h
      refine g_S X (As := [.int r3, .int r6]) (rest := [.ref (E.1 1)]) (c_X12_cellAt l G E r3 r6 _ _ e14) ks_X12_112 ⟨rfl, rfl⟩ hd_X12_cellAt (⟨Nat.le_of_ble_eq_true rfl, Nat.le_of_ble_eq_true rfl⟩) rfl rfl (Nat.le_of_ble_eq_true rfl) dX12_carryOut_107 ?_
      refine g_iload X 0 dX12_carryOut_110 rfl ?_
      obtain ⟨r19, D18, e17, h⟩ := cI_s h
      refine g_V X (As := [.int r16, .int r9]) (rest := []) (c_X8_harden l G E r16 r9 _ _ e17) 1 (wg_1 E _) rfl rfl kv_X12_116 ⟨rfl, rfl⟩ ⟨rfl, hd_X8_harden⟩ (⟨Nat.le_of_ble_eq_true rfl, Nat.le_of_ble_eq_true rfl⟩) rfl rfl (Nat.le_of_ble_eq_true rfl) dX12_carryOut_112 ?_
      refine g_pop X dX12_carryOut_115 rfl ?_
      refine g_goto X (tgt := 196) dX12_carryOut_116 (by decide) ?_
      refine g_iconst X (v := (1 : Int32)) dX12_carryOut_196 (by decide) ?_
      exact g_iret X hr rfl dX12_carryOut_197 (Option.some.inj h)
    have h := (ite_s h).2 w13
    by_cases w20 : (5 : Int32) = (2 : Int32)
    · have h := (ite_s h).1 w20
      refine g_tswIn X (tgt := 119) dX12_carryOut_61 w20 (by decide) (by decide) rfl (by decide) ?_
      refine g_aload_n X 3 (i0 := 0) dX12_carryOut_119 rfl rfl ?_
      refine g_get X (D := D11) (v := .ref (E.1 1)) (T := TX12) 0 uX12 (wg_0 E _) rfl 0 (by decide) fl_X12_10 rfl rfl dX12_carryOut_120 ?_
      refine g_iload_n X 2 (i0 := 3) dX12_carryOut_123 rfl rfl ?_
      refine g_iload X 1 dX12_carryOut_124 rfl ?_
      obtain ⟨r23, D22, e21, h⟩ := cI_s h
      refine g_S X (As := [.int r3, .int r6]) (rest := [.ref (E.1 1)]) (c_X12_cellAt l G E r3 r6 _ _ e21) ks_X12_112 ⟨rfl, rfl⟩ hd_X12_cellAt (⟨Nat.le_of_ble_eq_true rfl, Nat.le_of_ble_eq_true rfl⟩) rfl rfl (Nat.le_of_ble_eq_true rfl) dX12_carryOut_126 ?_
      refine g_iload X 0 dX12_carryOut_129 rfl ?_
      obtain ⟨r26, D25, e24, h⟩ := cI_s h
      refine g_V X (As := [.int r23, .int r9]) (rest := []) (c_X8_lay l G E r23 r9 _ _ e24) 1 (wg_1 E _) rfl rfl kv_X12_167 ⟨rfl, rfl⟩ ⟨rfl, hd_X8_lay⟩ (⟨Nat.le_of_ble_eq_true rfl, Nat.le_of_ble_eq_true rfl⟩) rfl rfl (Nat.le_of_ble_eq_true rfl) dX12_carryOut_131 ?_
      refine g_pop X dX12_carryOut_134 rfl ?_
      refine g_goto X (tgt := 196) dX12_carryOut_135 (by decide) ?_
      refine g_iconst X (v := (1 : Int32)) dX12_carryOut_196 (by decide) ?_
      exact g_iret X hr rfl dX12_carryOut_197 (Option.some.inj h)
    have h := (ite_s h).2 w20
    by_cases w27 : (5 : Int32) = (3 : Int32)
    · have h := (ite_s h).1 w27
      refine g_tswIn X (tgt := 138) dX12_carryOut_61 w27 (by decide) (by decide) rfl (by decide) ?_
      refine g_aload_n X 3 (i0 := 0) dX12_carryOut_138 rfl rfl ?_
      refine g_get X (D := D11) (v := .ref (E.1 1)) (T := TX12) 0 uX12 (wg_0 E _) rfl 0 (by decide) fl_X12_10 rfl rfl dX12_carryOut_139 ?_
      refine g_iload_n X 2 (i0 := 3) dX12_carryOut_142 rfl rfl ?_
      obtain ⟨r30, D29, e28, h⟩ := cI_s h
      refine g_V X (As := [.int r3]) (rest := []) (c_X8_takeAway l G E r3 _ _ e28) 1 (wg_1 E _) rfl rfl kv_X12_178 ⟨rfl, rfl⟩ ⟨rfl, hd_X8_takeAway⟩ (⟨Nat.le_of_ble_eq_true rfl, Nat.le_of_ble_eq_true rfl⟩) rfl rfl (Nat.le_of_ble_eq_true rfl) dX12_carryOut_143 ?_
      refine g_pop X dX12_carryOut_146 rfl ?_
      refine g_goto X (tgt := 196) dX12_carryOut_147 (by decide) ?_
      refine g_iconst X (v := (1 : Int32)) dX12_carryOut_196 (by decide) ?_
      exact g_iret X hr rfl dX12_carryOut_197 (Option.some.inj h)
    have h := (ite_s h).2 w27
    by_cases w31 : (5 : Int32) = (4 : Int32)
    · have h := (ite_s h).1 w31
      refine g_tswIn X (tgt := 150) dX12_carryOut_61 w31 (by decide) (by decide) rfl (by decide) ?_
      refine g_aload_n X 3 (i0 := 0) dX12_carryOut_150 rfl rfl ?_
      refine g_iload_n X 2 (i0 := 3) dX12_carryOut_151 rfl rfl ?_
      obtain ⟨r34, D33, e32, h⟩ := cI_s h
      refine g_V X (As := [.int r3]) (rest := []) (c_X12_blowUp l G E r3 _ _ e32) 0 (wg_0 E _) rfl rfl kv_X12_181 ⟨rfl, rfl⟩ ⟨rfl, hd_X12_blowUp⟩ (⟨Nat.le_of_ble_eq_true rfl, Nat.le_of_ble_eq_true rfl⟩) rfl rfl (Nat.le_of_ble_eq_true rfl) dX12_carryOut_152 ?_
      refine g_pop X dX12_carryOut_155 rfl ?_
      refine g_goto X (tgt := 196) dX12_carryOut_156 (by decide) ?_
      refine g_iconst X (v := (1 : Int32)) dX12_carryOut_196 (by decide) ?_
      exact g_iret X hr rfl dX12_carryOut_197 (Option.some.inj h)
    have h := (ite_s h).2 w31
    by_cases w35 : (5 : Int32) = (5 : Int32)
    · have h := (ite_s h).1 w35
      refine g_tswIn X (tgt := 159) dX12_carryOut_61 w35 (by decide) (by decide) rfl (by decide) ?_
      refine g_aload_n X 3 (i0 := 0) dX12_carryOut_159 rfl rfl ?_
      refine g_get X (D := D11) (v := .ref (E.1 1)) (T := TX12) 0 uX12 (wg_0 E _) rfl 0 (by decide) fl_X12_10 rfl rfl dX12_carryOut_160 ?_
      refine g_iload_n X 2 (i0 := 3) dX12_carryOut_163 rfl rfl ?_
      refine g_iload X 1 dX12_carryOut_164 rfl ?_
      obtain ⟨r38, D37, e36, h⟩ := cI_s h
      refine g_S X (As := [.int r3, .int r6]) (rest := [.ref (E.1 1)]) (c_X12_cellAt l G E r3 r6 _ _ e36) ks_X12_112 ⟨rfl, rfl⟩ hd_X12_cellAt (⟨Nat.le_of_ble_eq_true rfl, Nat.le_of_ble_eq_true rfl⟩) rfl rfl (Nat.le_of_ble_eq_true rfl) dX12_carryOut_166 ?_
      obtain ⟨r41, D40, e39, h⟩ := cL_s h
      refine g_V X (As := [.int r38]) (rest := []) (c_X8_digOut l G E r38 _ _ e39) 1 (wg_1 E _) rfl rfl kv_X12_131 ⟨rfl, rfl⟩ ⟨rfl, hd_X8_digOut⟩ (⟨Nat.le_of_ble_eq_true rfl, Nat.le_of_ble_eq_true rfl⟩) rfl rfl (Nat.le_of_ble_eq_true rfl) dX12_carryOut_169 ?_
      refine g_pop2 X dX12_carryOut_172 rfl ?_
      refine g_goto X (tgt := 196) dX12_carryOut_173 (by decide) ?_
      refine g_iconst X (v := (1 : Int32)) dX12_carryOut_196 (by decide) ?_
      exact g_iret X hr rfl dX12_carryOut_197 (Option.some.inj h)
    have h := (ite_s h).2 w35
    by_cases w42 : (5 : Int32) = (6 : Int32)
    · have h := (ite_s h).1 w42
      refine g_tswIn X (tgt := 176) dX12_carryOut_61 w42 (by decide) (by decide) rfl (by decide) ?_
      refine g_aload_n X 3 (i0 := 0) dX12_carryOut_176 rfl rfl ?_
      refine g_get X (D := D11) (v := .ref (E.1 1)) (T := TX12) 0 uX12 (wg_0 E _) rfl 0 (by decide) fl_X12_10 rfl rfl dX12_carryOut_177 ?_
      refine g_iload_n X 2 (i0 := 3) dX12_carryOut_180 rfl rfl ?_
      refine g_iload X 1 dX12_carryOut_181 rfl ?_
      obtain ⟨r45, D44, e43, h⟩ := cI_s h
      refine g_V X (As := [.int r3, .int r6]) (rest := []) (c_X8_putPrice l G E r3 r6 _ _ e43) 1 (wg_1 E _) rfl rfl kv_X12_235 ⟨rfl, rfl⟩ ⟨rfl, hd_X8_putPrice⟩ (⟨Nat.le_of_ble_eq_true rfl, Nat.le_of_ble_eq_true rfl⟩) rfl rfl (Nat.le_of_ble_eq_true rfl) dX12_carryOut_183 ?_
      refine g_pop X dX12_carryOut_186 rfl ?_
      refine g_goto X (tgt := 196) dX12_carryOut_187 (by decide) ?_
      refine g_iconst X (v := (1 : Int32)) dX12_carryOut_196 (by decide) ?_
      exact g_iret X hr rfl dX12_carryOut_197 (Option.some.inj h)
    have h := (ite_s h).2 w42
    have zw13 := lv_neT w13 (show (1 : Int32).toInt = 1 by decide)
    have zw20 := lv_neT w20 (show (2 : Int32).toInt = 2 by decide)
    have zw27 := lv_neT w27 (show (3 : Int32).toInt = 3 by decide)
    have zw31 := lv_neT w31 (show (4 : Int32).toInt = 4 by decide)
    have zw35 := lv_neT w35 (show (5 : Int32).toInt = 5 by decide)
    have zw42 := lv_neT w42 (show (6 : Int32).toInt = 6 by decide)
    refine g_tswOut X (tgt := 190) dX12_carryOut_61 (by omega) (by decide) ?_
    refine g_aload_n X 3 (i0 := 0) dX12_carryOut_190 rfl rfl ?_
    refine g_iload_n X 2 (i0 := 3) dX12_carryOut_191 rfl rfl ?_
    obtain ⟨r48, D47, e46, h⟩ := cI_s h
    refine g_V X (As := [.int r3]) (rest := []) (c_X12_sellBar l G E r3 _ _ e46) 0 (wg_0 E _) rfl rfl kv_X12_257 ⟨rfl, rfl⟩ ⟨rfl, hd_X12_sellBar⟩ (⟨Nat.le_of_ble_eq_true rfl, Nat.le_of_ble_eq_true rfl⟩) rfl rfl (Nat.le_of_ble_eq_true rfl) dX12_carryOut_192 ?_
    refine g_pop X dX12_carryOut_195 rfl ?_
    refine g_iconst X (v := (1 : Int32)) dX12_carryOut_196 (by decide) ?_
    exact g_iret X hr rfl dX12_carryOut_197 (Option.some.inj h)
  · have h := (ite_s h).2 c49
    refine g_iconst X (v := (0 : Int32)) dX12_carryOut_51 (by decide) ?_
    exact g_iret X hr rfl dX12_carryOut_52 (Option.some.inj h)
def S_X12_faultOfCommand_x_K5 (a1 : Int32) (a2 : Int32) (a3 : Int32) (D : DD) : Option RT := (if (6 : Int32) = (1 : Int32) then (cI (S_X8_faultOfHardness a1 a2 a3 D) (fun r4 D3 => some (0, some (.int r4), D3))) else (if (6 : Int32) = (2 : Int32) then (cI (S_X8_faultOfLaying a1 a2 a3 D) (fun r8 D7 => some (0, some (.int r8), D7))) else (if (6 : Int32) = (3 : Int32) then (cI (S_X8_hasCharge a1 D) (fun r12 D11 => (if r12 = 0 then some (0, some (.int (1 : Int32)), D11) else some (0, some (.int (0 : Int32)), D11)))) else (if (6 : Int32) = (4 : Int32) then (cI (S_X8_hasCharge a1 D) (fun r17 D16 => (if r17 = 0 then some (0, some (.int (1 : Int32)), D16) else some (0, some (.int (0 : Int32)), D16)))) else (if (6 : Int32) = (5 : Int32) then (cI (S_X8_faultOfDigging a1 a2 D) (fun r22 D21 => some (0, some (.int r22), D21))) else (if (6 : Int32) = (6 : Int32) then (cI (S_X8_faultOfPrice a1 a2 D) (fun r26 D25 => some (0, some (.int r26), D25))) else (cI (S_X8_faultOfSelling a1 D) (fun r29 D28 => some (0, some (.int r29), D28)))))))))
set_option maxRecDepth 100000 in
set_option maxHeartbeats 4000000 in
theorem c_X12_faultOfCommand_x_K5 (l : Launch) (G : va_G) (E : EE) (a1 : Int32) (a2 : Int32) (a3 : Int32) (D : DD) (r : RT) (h : S_X12_faultOfCommand_x_K5 a1 a2 a3 D = some r) : MM l G E yX12_faultOfCommand cX12_faultOfCommand 5 (some .int) (rmm 4) [.ref (E.1 0), .ref (E.1 1005), .int a1, .int a2, .int a3] D r := by
  refine m_of rfl (Nat.le_of_ble_eq_true rfl) ?_
  intro p e s m args below meth c X hr
  unfold S_X12_faultOfCommand_x_K5 at h
  refine g_gets X (v := .ref (E.1 1021)) X.2.2.2.2.2.2.2.2.2.1 fl_X12_378 dX12_faultOfCommand_0 ?_
  refine g_aload_n X 1 (i0 := 1) dX12_faultOfCommand_3 rfl rfl ?_
  refine g_ord X (v := (5 : Int32)) (X.2.2.2.2.2.2.1 5 (by decide)).1 (X.2.2.2.2.2.2.1 5 (by decide)).2.1 wo_link_X12_384 wo_same wo_sel wo_inst wo_code wo_fl (Nat.le_of_ble_eq_true rfl) (Nat.le_of_ble_eq_true rfl) (Nat.le_of_ble_eq_true rfl) dX12_faultOfCommand_4 ?_
  refine g_ti X X.2.2.2.2.2.2.2.2.2.2.1 (i := (5 : Int32)) (v := .int (6 : Int32)) (inB_vp (by decide)) rfl dX12_faultOfCommand_7 ?_
  by_cases w1 : (6 : Int32) = (1 : Int32)
  · have h := (ite_s h).1 w1
    refine g_tswIn X (tgt := 48) dX12_faultOfCommand_8 w1 (by decide) (by decide) rfl (by decide) ?_
    refine g_aload_n X 0 (i0 := 0) dX12_faultOfCommand_48 rfl rfl ?_
    refine g_get X (D := D) (v := .ref (E.1 1)) (T := TX12) 0 uX12 (wg_0 E _) rfl 0 (by decide) fl_X12_10 rfl rfl dX12_faultOfCommand_49 ?_
    refine g_iload_n X 2 (i0 := 2) dX12_faultOfCommand_52 rfl rfl ?_
    refine g_iload_n X 3 (i0 := 3) dX12_faultOfCommand_53 rfl rfl ?_
    refine g_iload X 4 dX12_faultOfCommand_54 rfl ?_
    obtain ⟨r4, D3, e2, h⟩ := cI_s h
    refine g_V X (As := [.int a1, .int a2, .int a3]) (rest := []) (c_X8_faultOfHardness l G E a1 a2 a3 _ _ e2) 1 (wg_1 E _) rfl rfl kv_X12_92 ⟨rfl, rfl⟩ ⟨rfl, hd_X8_faultOfHardness⟩ (⟨Nat.le_of_ble_eq_true rfl, Nat.le_of_ble_eq_true rfl⟩) rfl rfl (Nat.le_of_ble_eq_true rfl) dX12_faultOfCommand_56 ?_
    exact g_iret X hr rfl dX12_faultOfCommand_59 (Option.some.inj h)
  have h := (ite_s h).2 w1
  by_cases w5 : (6 : Int32) = (2 : Int32)
  · have h := (ite_s h).1 w5
    refine g_tswIn X (tgt := 60) dX12_faultOfCommand_8 w5 (by decide) (by decide) rfl (by decide) ?_
    refine g_aload_n X 0 (i0 := 0) dX12_faultOfCommand_60 rfl rfl ?_
    refine g_get X (D := D) (v := .ref (E.1 1)) (T := TX12) 0 uX12 (wg_0 E _) rfl 0 (by decide) fl_X12_10 rfl rfl dX12_faultOfCommand_61 ?_
    refine g_iload_n X 2 (i0 := 2) dX12_faultOfCommand_64 rfl rfl ?_
    refine g_iload_n X 3 (i0 := 3) dX12_faultOfCommand_65 rfl rfl ?_
    refine g_iload X 4 dX12_faultOfCommand_66 rfl ?_
    obtain ⟨r8, D7, e6, h⟩ := cI_s h
    refine g_V X (As := [.int a1, .int a2, .int a3]) (rest := []) (c_X8_faultOfLaying l G E a1 a2 a3 _ _ e6) 1 (wg_1 E _) rfl rfl kv_X12_160 ⟨rfl, rfl⟩ ⟨rfl, hd_X8_faultOfLaying⟩ (⟨Nat.le_of_ble_eq_true rfl, Nat.le_of_ble_eq_true rfl⟩) rfl rfl (Nat.le_of_ble_eq_true rfl) dX12_faultOfCommand_68 ?_
    exact g_iret X hr rfl dX12_faultOfCommand_71 (Option.some.inj h)
  have h := (ite_s h).2 w5
  by_cases w9 : (6 : Int32) = (3 : Int32)
  · have h := (ite_s h).1 w9
    refine g_tswIn X (tgt := 72) dX12_faultOfCommand_8 w9 (by decide) (by decide) rfl (by decide) ?_
    refine g_aload_n X 0 (i0 := 0) dX12_faultOfCommand_72 rfl rfl ?_
    refine g_get X (D := D) (v := .ref (E.1 1)) (T := TX12) 0 uX12 (wg_0 E _) rfl 0 (by decide) fl_X12_10 rfl rfl dX12_faultOfCommand_73 ?_
    refine g_iload_n X 2 (i0 := 2) dX12_faultOfCommand_76 rfl rfl ?_
    obtain ⟨r12, D11, e10, h⟩ := cI_s h
    refine g_V X (As := [.int a1]) (rest := []) (c_X8_hasCharge l G E a1 _ _ e10) 1 (wg_1 E _) rfl rfl kv_X12_170 ⟨rfl, rfl⟩ ⟨rfl, hd_X8_hasCharge⟩ (⟨Nat.le_of_ble_eq_true rfl, Nat.le_of_ble_eq_true rfl⟩) rfl rfl (Nat.le_of_ble_eq_true rfl) dX12_faultOfCommand_77 ?_
    refine g_if_eq X (tgt := 87) dX12_faultOfCommand_80 (by decide) (fun c13 => ?_) (fun c13 => ?_)
    · have h := (ite_s h).1 c13
      refine g_iconst X (v := (1 : Int32)) dX12_faultOfCommand_87 (by decide) ?_
      exact g_iret X hr rfl dX12_faultOfCommand_88 (Option.some.inj h)
    · have h := (ite_s h).2 c13
      refine g_iconst X (v := (0 : Int32)) dX12_faultOfCommand_83 (by decide) ?_
      refine g_goto X (tgt := 88) dX12_faultOfCommand_84 (by decide) ?_
      exact g_iret X hr rfl dX12_faultOfCommand_88 (Option.some.inj h)
  have h := (ite_s h).2 w9
  by_cases w14 : (6 : Int32) = (4 : Int32)
  · have h := (ite_s h).1 w14
    refine g_tswIn X (tgt := 72) dX12_faultOfCommand_8 w14 (by decide) (by decide) rfl (by decide) ?_
    refine g_aload_n X 0 (i0 := 0) dX12_faultOfCommand_72 rfl rfl ?_
    refine g_get X (D := D) (v := .ref (E.1 1)) (T := TX12) 0 uX12 (wg_0 E _) rfl 0 (by decide) fl_X12_10 rfl rfl dX12_faultOfCommand_73 ?_
    refine g_iload_n X 2 (i0 := 2) dX12_faultOfCommand_76 rfl rfl ?_
    obtain ⟨r17, D16, e15, h⟩ := cI_s h
    refine g_V X (As := [.int a1]) (rest := []) (c_X8_hasCharge l G E a1 _ _ e15) 1 (wg_1 E _) rfl rfl kv_X12_170 ⟨rfl, rfl⟩ ⟨rfl, hd_X8_hasCharge⟩ (⟨Nat.le_of_ble_eq_true rfl, Nat.le_of_ble_eq_true rfl⟩) rfl rfl (Nat.le_of_ble_eq_true rfl) dX12_faultOfCommand_77 ?_
    refine g_if_eq X (tgt := 87) dX12_faultOfCommand_80 (by decide) (fun c18 => ?_) (fun c18 => ?_)
    · have h := (ite_s h).1 c18
      refine g_iconst X (v := (1 : Int32)) dX12_faultOfCommand_87 (by decide) ?_
      exact g_iret X hr rfl dX12_faultOfCommand_88 (Option.some.inj h)
    · have h := (ite_s h).2 c18
      refine g_iconst X (v := (0 : Int32)) dX12_faultOfCommand_83 (by decide) ?_
      refine g_goto X (tgt := 88) dX12_faultOfCommand_84 (by decide) ?_
      exact g_iret X hr rfl dX12_faultOfCommand_88 (Option.some.inj h)
  have h := (ite_s h).2 w14
  by_cases w19 : (6 : Int32) = (5 : Int32)
  · have h := (ite_s h).1 w19
    refine g_tswIn X (tgt := 89) dX12_faultOfCommand_8 w19 (by decide) (by decide) rfl (by decide) ?_
    refine g_aload_n X 0 (i0 := 0) dX12_faultOfCommand_89 rfl rfl ?_
    refine g_get X (D := D) (v := .ref (E.1 1)) (T := TX12) 0 uX12 (wg_0 E _) rfl 0 (by decide) fl_X12_10 rfl rfl dX12_faultOfCommand_90 ?_
    refine g_iload_n X 2 (i0 := 2) dX12_faultOfCommand_93 rfl rfl ?_
    refine g_iload_n X 3 (i0 := 3) dX12_faultOfCommand_94 rfl rfl ?_
    obtain ⟨r22, D21, e20, h⟩ := cI_s h
    refine g_V X (As := [.int a1, .int a2]) (rest := []) (c_X8_faultOfDigging l G E a1 a2 _ _ e20) 1 (wg_1 E _) rfl rfl kv_X12_119 ⟨rfl, rfl⟩ ⟨rfl, hd_X8_faultOfDigging⟩ (⟨Nat.le_of_ble_eq_true rfl, Nat.le_of_ble_eq_true rfl⟩) rfl rfl (Nat.le_of_ble_eq_true rfl) dX12_faultOfCommand_95 ?_
    exact g_iret X hr rfl dX12_faultOfCommand_98 (Option.some.inj h)
  have h := (ite_s h).2 w19
  by_cases w23 : (6 : Int32) = (6 : Int32)
  · have h := (ite_s h).1 w23
    refine g_tswIn X (tgt := 99) dX12_faultOfCommand_8 w23 (by decide) (by decide) rfl (by decide) ?_
    refine g_aload_n X 0 (i0 := 0) dX12_faultOfCommand_99 rfl rfl ?_
    refine g_get X (D := D) (v := .ref (E.1 1)) (T := TX12) 0 uX12 (wg_0 E _) rfl 0 (by decide) fl_X12_10 rfl rfl dX12_faultOfCommand_100 ?_
    refine g_iload_n X 2 (i0 := 2) dX12_faultOfCommand_103 rfl rfl ?_
    refine g_iload_n X 3 (i0 := 3) dX12_faultOfCommand_104 rfl rfl ?_
    obtain ⟨r26, D25, e24, h⟩ := cI_s h
    refine g_V X (As := [.int a1, .int a2]) (rest := []) (c_X8_faultOfPrice l G E a1 a2 _ _ e24) 1 (wg_1 E _) rfl rfl kv_X12_230 ⟨rfl, rfl⟩ ⟨rfl, hd_X8_faultOfPrice⟩ (⟨Nat.le_of_ble_eq_true rfl, Nat.le_of_ble_eq_true rfl⟩) rfl rfl (Nat.le_of_ble_eq_true rfl) dX12_faultOfCommand_105 ?_
    exact g_iret X hr rfl dX12_faultOfCommand_108 (Option.some.inj h)
  have h := (ite_s h).2 w23
  have zw1 := lv_neT w1 (show (1 : Int32).toInt = 1 by decide)
  have zw5 := lv_neT w5 (show (2 : Int32).toInt = 2 by decide)
  have zw9 := lv_neT w9 (show (3 : Int32).toInt = 3 by decide)
  have zw14 := lv_neT w14 (show (4 : Int32).toInt = 4 by decide)
  have zw19 := lv_neT w19 (show (5 : Int32).toInt = 5 by decide)
  have zw23 := lv_neT w23 (show (6 : Int32).toInt = 6 by decide)
  refine g_tswOut X (tgt := 109) dX12_faultOfCommand_8 (by omega) (by decide) ?_
  refine g_aload_n X 0 (i0 := 0) dX12_faultOfCommand_109 rfl rfl ?_
  refine g_get X (D := D) (v := .ref (E.1 1)) (T := TX12) 0 uX12 (wg_0 E _) rfl 0 (by decide) fl_X12_10 rfl rfl dX12_faultOfCommand_110 ?_
  refine g_iload_n X 2 (i0 := 2) dX12_faultOfCommand_113 rfl rfl ?_
  obtain ⟨r29, D28, e27, h⟩ := cI_s h
  refine g_V X (As := [.int a1]) (rest := []) (c_X8_faultOfSelling l G E a1 _ _ e27) 1 (wg_1 E _) rfl rfl kv_X12_252 ⟨rfl, rfl⟩ ⟨rfl, hd_X8_faultOfSelling⟩ (⟨Nat.le_of_ble_eq_true rfl, Nat.le_of_ble_eq_true rfl⟩) rfl rfl (Nat.le_of_ble_eq_true rfl) dX12_faultOfCommand_114 ?_
  exact g_iret X hr rfl dX12_faultOfCommand_117 (Option.some.inj h)
def S_X12_carryOut_x_K5 (a1 : Int32) (D : DD) : Option RT := (cI (S_X4_parameterAt a1 (0 : Int32) D) (fun r3 D2 => (cI (S_X4_parameterAt a1 (1 : Int32) D2) (fun r6 D5 => (cI (S_X4_parameterAt a1 (2 : Int32) D5) (fun r9 D8 => (cI (S_X12_faultOfCommand_x_K5 r3 r6 r9 D8) (fun r12 D11 => (if r12 = 0 then (if (6 : Int32) = (1 : Int32) then (cI (S_X12_cellAt r3 r6 D11) (fun r16 D15 => (cI (S_X8_harden r16 r9 D15) (fun r19 D18 => some (0, some (.int (1 : Int32)), D18))))) else (if (6 : Int32) = (2 : Int32) then (cI (S_X12_cellAt r3 r6 D11) (fun r23 D22 => (cI (S_X8_lay r23 r9 D22) (fun r26 D25 => some (0, some (.int (1 : Int32)), D25))))) else (if (6 : Int32) = (3 : Int32) then (cI (S_X8_takeAway r3 D11) (fun r30 D29 => some (0, some (.int (1 : Int32)), D29))) else (if (6 : Int32) = (4 : Int32) then (cI (S_X12_blowUp r3 D11) (fun r34 D33 => some (0, some (.int (1 : Int32)), D33))) else (if (6 : Int32) = (5 : Int32) then (cI (S_X12_cellAt r3 r6 D11) (fun r38 D37 => (cL (S_X8_digOut r38 D37) (fun r41 D40 => some (0, some (.int (1 : Int32)), D40))))) else (if (6 : Int32) = (6 : Int32) then (cI (S_X8_putPrice r3 r6 D11) (fun r45 D44 => some (0, some (.int (1 : Int32)), D44))) else (cI (S_X12_sellBar r3 D11) (fun r48 D47 => some (0, some (.int (1 : Int32)), D47))))))))) else some (0, some (.int (0 : Int32)), D11))))))))))
set_option maxRecDepth 100000 in
set_option maxHeartbeats 4000000 in
theorem c_X12_carryOut_x_K5 (l : Launch) (G : va_G) (E : EE) (a1 : Int32) (D : DD) (r : RT) (h : S_X12_carryOut_x_K5 a1 D = some r) : MM l G E yX12_carryOut cX12_carryOut 6 (some .boolean) (rmm 5) [.ref (E.1 0), .ref (E.1 1005), .int a1] D r := by
  refine m_of rfl (Nat.le_of_ble_eq_true rfl) ?_
  intro p e s m args below meth c X hr
  unfold S_X12_carryOut_x_K5 at h
  refine g_aload_n X 1 (i0 := 1) dX12_carryOut_0 rfl rfl ?_
  refine g_ifnonnull X (tgt := 6) dX12_carryOut_1 (by decide) ?_
  refine g_aload_n X 0 (i0 := 0) dX12_carryOut_6 rfl rfl ?_
  refine g_get X (D := D) (v := .ref (E.1 80)) (T := TX12) 0 uX12 (wg_0 E _) rfl 11 (by decide) fl_X12_81 rfl rfl dX12_carryOut_7 ?_
  refine g_iload_n X 2 (i0 := 2) dX12_carryOut_10 rfl rfl ?_
  refine g_iconst X (v := (0 : Int32)) dX12_carryOut_11 (by decide) ?_
  obtain ⟨r3, D2, e1, h⟩ := cI_s h
  refine g_V X (As := [.int a1, .int (0 : Int32)]) (rest := []) (c_X4_parameterAt l G E a1 (0 : Int32) _ _ e1) 80 (wg_80 E _) rfl rfl kv_X12_371 ⟨rfl, rfl⟩ ⟨rfl, hd_X4_parameterAt⟩ (⟨Nat.le_of_ble_eq_true rfl, Nat.le_of_ble_eq_true rfl⟩) rfl rfl (Nat.le_of_ble_eq_true rfl) dX12_carryOut_12 ?_
  refine g_istore_n X (i0 := 3) (lv' := [(3, .int r3), (0, .ref (E.1 0)), (1, .ref (E.1 1005)), (2, .int a1)]) dX12_carryOut_15 rfl (by decide) rfl ?_
  refine g_aload_n X 1 (i0 := 0) dX12_carryOut_16 rfl rfl ?_
  refine g_get X (D := D2) (v := .ref (E.1 80)) (T := TX12) 0 uX12 (wg_0 E _) rfl 11 (by decide) fl_X12_81 rfl rfl dX12_carryOut_17 ?_
  refine g_iload_n X 3 (i0 := 2) dX12_carryOut_20 rfl rfl ?_
  refine g_iconst X (v := (1 : Int32)) dX12_carryOut_21 (by decide) ?_
  obtain ⟨r6, D5, e4, h⟩ := cI_s h
  refine g_V X (As := [.int a1, .int (1 : Int32)]) (rest := []) (c_X4_parameterAt l G E a1 (1 : Int32) _ _ e4) 80 (wg_80 E _) rfl rfl kv_X12_371 ⟨rfl, rfl⟩ ⟨rfl, hd_X4_parameterAt⟩ (⟨Nat.le_of_ble_eq_true rfl, Nat.le_of_ble_eq_true rfl⟩) rfl rfl (Nat.le_of_ble_eq_true rfl) dX12_carryOut_22 ?_
  refine g_istore X (lv' := [(4, .int r6), (3, .int r3), (0, .ref (E.1 0)), (1, .ref (E.1 1005)), (2, .int a1)]) dX12_carryOut_25 (by decide) rfl ?_
  refine g_aload_n X 2 (i0 := 0) dX12_carryOut_27 rfl rfl ?_
  refine g_get X (D := D5) (v := .ref (E.1 80)) (T := TX12) 0 uX12 (wg_0 E _) rfl 11 (by decide) fl_X12_81 rfl rfl dX12_carryOut_28 ?_
  refine g_iload_n X 4 (i0 := 2) dX12_carryOut_31 rfl rfl ?_
  refine g_iconst X (v := (2 : Int32)) dX12_carryOut_32 (by decide) ?_
  obtain ⟨r9, D8, e7, h⟩ := cI_s h
  refine g_V X (As := [.int a1, .int (2 : Int32)]) (rest := []) (c_X4_parameterAt l G E a1 (2 : Int32) _ _ e7) 80 (wg_80 E _) rfl rfl kv_X12_371 ⟨rfl, rfl⟩ ⟨rfl, hd_X4_parameterAt⟩ (⟨Nat.le_of_ble_eq_true rfl, Nat.le_of_ble_eq_true rfl⟩) rfl rfl (Nat.le_of_ble_eq_true rfl) dX12_carryOut_33 ?_
  refine g_istore X (lv' := [(5, .int r9), (4, .int r6), (3, .int r3), (0, .ref (E.1 0)), (1, .ref (E.1 1005)), (2, .int a1)]) dX12_carryOut_36 (by decide) rfl ?_
  refine g_aload_n X 3 (i0 := 0) dX12_carryOut_38 rfl rfl ?_
  refine g_aload_n X 4 (i0 := 1) dX12_carryOut_39 rfl rfl ?_
  refine g_iload_n X 2 (i0 := 3) dX12_carryOut_40 rfl rfl ?_
  refine g_iload X 1 dX12_carryOut_41 rfl ?_
  refine g_iload X 0 dX12_carryOut_43 rfl ?_
  obtain ⟨r12, D11, e10, h⟩ := cI_s h
  refine g_V X (As := [.ref (E.1 1005), .int r3, .int r6, .int r9]) (rest := []) (c_X12_faultOfCommand_x_K5 l G E r3 r6 r9 _ _ e10) 0 (wg_0 E _) rfl rfl kv_X12_374 ⟨rfl, rfl⟩ ⟨rfl, hd_X12_faultOfCommand⟩ (⟨Nat.le_of_ble_eq_true rfl, Nat.le_of_ble_eq_true rfl⟩) rfl rfl (Nat.le_of_ble_eq_true rfl) dX12_carryOut_45 ?_
  refine g_if_eq X (tgt := 53) dX12_carryOut_48 (by decide) (fun c49 => ?_) (fun c49 => ?_)
  · have h := (ite_s h).1 c49
    refine g_gets X (v := .ref (E.1 1021)) X.2.2.2.2.2.2.2.2.2.1 fl_X12_378 dX12_carryOut_53 ?_
    refine g_aload_n X 4 (i0 := 1) dX12_carryOut_56 rfl rfl ?_
    refine g_ord X (v := (5 : Int32)) (X.2.2.2.2.2.2.1 5 (by decide)).1 (X.2.2.2.2.2.2.1 5 (by decide)).2.1 wo_link_X12_384 wo_same wo_sel wo_inst wo_code wo_fl (Nat.le_of_ble_eq_true rfl) (Nat.le_of_ble_eq_true rfl) (Nat.le_of_ble_eq_true rfl) dX12_carryOut_57 ?_
    refine g_ti X X.2.2.2.2.2.2.2.2.2.2.1 (i := (5 : Int32)) (v := .int (6 : Int32)) (inB_vp (by decide)) rfl dX12_carryOut_60 ?_
    by_cases w13 : (6 : Int32) = (1 : Int32)
    · have h := (ite_s h).1 w13
      refine g_tswIn X (tgt := 100) dX12_carryOut_61 w13 (by decide) (by decide) rfl (by decide) ?_
      refine g_aload_n X 3 (i0 := 0) dX12_carryOut_100 rfl rfl ?_
      refine g_get X (D := D11) (v := .ref (E.1 1)) (T := TX12) 0 uX12 (wg_0 E _) rfl 0 (by decide) fl_X12_10 rfl rfl dX12_carryOut_101 ?_
      refine g_iload_n X 2 (i0 := 3) dX12_carryOut_104 rfl rfl ?_
      refine g_iload X 1 dX12_carryOut_105 rfl ?_
      obtain ⟨r16, D15, e14, h⟩ := cI_s h
      refine g_S X (As := [.int r3, .int r6]) (rest := [.ref (E.1 1)]) (c_X12_cellAt l G E r3 r6 _ _ e14) ks_X12_112 ⟨rfl, rfl⟩ hd_X12_cellAt (⟨Nat.le_of_ble_eq_true rfl, Nat.le_of_ble_eq_true rfl⟩) rfl rfl (Nat.le_of_ble_eq_true rfl) dX12_carryOut_107 ?_
      refine g_iload X 0 dX12_carryOut_110 rfl ?_
      obtain ⟨r19, D18, e17, h⟩ := cI_s h
      refine g_V X (As := [.int r16, .int r9]) (rest := []) (c_X8_harden l G E r16 r9 _ _ e17) 1 (wg_1 E _) rfl rfl kv_X12_116 ⟨rfl, rfl⟩ ⟨rfl, hd_X8_harden⟩ (⟨Nat.le_of_ble_eq_true rfl, Nat.le_of_ble_eq_true rfl⟩) rfl rfl (Nat.le_of_ble_eq_true rfl) dX12_carryOut_112 ?_
      refine g_pop X dX12_carryOut_115 rfl ?_
      refine g_goto X (tgt := 196) dX12_carryOut_116 (by decide) ?_
      refine g_iconst X (v := (1 : Int32)) dX12_carryOut_196 (by decide) ?_
      exact g_iret X hr rfl dX12_carryOut_197 (Option.some.inj h)
    have h := (ite_s h).2 w13
    by_cases w20 : (6 : Int32) = (2 : Int32)
    · have h := (ite_s h).1 w20
      refine g_tswIn X (tgt := 119) dX12_carryOut_61 w20 (by decide) (by decide) rfl (by decide) ?_
      refine g_aload_n X 3 (i0 := 0) dX12_carryOut_119 rfl rfl ?_
      refine g_get X (D := D11) (v := .ref (E.1 1)) (T := TX12) 0 uX12 (wg_0 E _) rfl 0 (by decide) fl_X12_10 rfl rfl dX12_carryOut_120 ?_
      refine g_iload_n X 2 (i0 := 3) dX12_carryOut_123 rfl rfl ?_
      refine g_iload X 1 dX12_carryOut_124 rfl ?_
      obtain ⟨r23, D22, e21, h⟩ := cI_s h
      refine g_S X (As := [.int r3, .int r6]) (rest := [.ref (E.1 1)]) (c_X12_cellAt l G E r3 r6 _ _ e21) ks_X12_112 ⟨rfl, rfl⟩ hd_X12_cellAt (⟨Nat.le_of_ble_eq_true rfl, Nat.le_of_ble_eq_true rfl⟩) rfl rfl (Nat.le_of_ble_eq_true rfl) dX12_carryOut_126 ?_
      refine g_iload X 0 dX12_carryOut_129 rfl ?_
      obtain ⟨r26, D25, e24, h⟩ := cI_s h
      refine g_V X (As := [.int r23, .int r9]) (rest := []) (c_X8_lay l G E r23 r9 _ _ e24) 1 (wg_1 E _) rfl rfl kv_X12_167 ⟨rfl, rfl⟩ ⟨rfl, hd_X8_lay⟩ (⟨Nat.le_of_ble_eq_true rfl, Nat.le_of_ble_eq_true rfl⟩) rfl rfl (Nat.le_of_ble_eq_true rfl) dX12_carryOut_131 ?_
      refine g_pop X dX12_carryOut_134 rfl ?_
      refine g_goto X (tgt := 196) dX12_carryOut_135 (by decide) ?_
      refine g_iconst X (v := (1 : Int32)) dX12_carryOut_196 (by decide) ?_
      exact g_iret X hr rfl dX12_carryOut_197 (Option.some.inj h)
    have h := (ite_s h).2 w20
    by_cases w27 : (6 : Int32) = (3 : Int32)
    · have h := (ite_s h).1 w27
      refine g_tswIn X (tgt := 138) dX12_carryOut_61 w27 (by decide) (by decide) rfl (by decide) ?_
      refine g_aload_n X 3 (i0 := 0) dX12_carryOut_138 rfl rfl ?_
      refine g_get X (D := D11) (v := .ref (E.1 1)) (T := TX12) 0 uX12 (wg_0 E _) rfl 0 (by decide) fl_X12_10 rfl rfl dX12_carryOut_139 ?_
      refine g_iload_n X 2 (i0 := 3) dX12_carryOut_142 rfl rfl ?_
      obtain ⟨r30, D29, e28, h⟩ := cI_s h
      refine g_V X (As := [.int r3]) (rest := []) (c_X8_takeAway l G E r3 _ _ e28) 1 (wg_1 E _) rfl rfl kv_X12_178 ⟨rfl, rfl⟩ ⟨rfl, hd_X8_takeAway⟩ (⟨Nat.le_of_ble_eq_true rfl, Nat.le_of_ble_eq_true rfl⟩) rfl rfl (Nat.le_of_ble_eq_true rfl) dX12_carryOut_143 ?_
      refine g_pop X dX12_carryOut_146 rfl ?_
      refine g_goto X (tgt := 196) dX12_carryOut_147 (by decide) ?_
      refine g_iconst X (v := (1 : Int32)) dX12_carryOut_196 (by decide) ?_
      exact g_iret X hr rfl dX12_carryOut_197 (Option.some.inj h)
    have h := (ite_s h).2 w27
    by_cases w31 : (6 : Int32) = (4 : Int32)
    · have h := (ite_s h).1 w31
      refine g_tswIn X (tgt := 150) dX12_carryOut_61 w31 (by decide) (by decide) rfl (by decide) ?_
      refine g_aload_n X 3 (i0 := 0) dX12_carryOut_150 rfl rfl ?_
      refine g_iload_n X 2 (i0 := 3) dX12_carryOut_151 rfl rfl ?_
      obtain ⟨r34, D33, e32, h⟩ := cI_s h
      refine g_V X (As := [.int r3]) (rest := []) (c_X12_blowUp l G E r3 _ _ e32) 0 (wg_0 E _) rfl rfl kv_X12_181 ⟨rfl, rfl⟩ ⟨rfl, hd_X12_blowUp⟩ (⟨Nat.le_of_ble_eq_true rfl, Nat.le_of_ble_eq_true rfl⟩) rfl rfl (Nat.le_of_ble_eq_true rfl) dX12_carryOut_152 ?_
      refine g_pop X dX12_carryOut_155 rfl ?_
      refine g_goto X (tgt := 196) dX12_carryOut_156 (by decide) ?_
      refine g_iconst X (v := (1 : Int32)) dX12_carryOut_196 (by decide) ?_
      exact g_iret X hr rfl dX12_carryOut_197 (Option.some.inj h)
    have h := (ite_s h).2 w31
    by_cases w35 : (6 : Int32) = (5 : Int32)
    · have h := (ite_s h).1 w35
      refine g_tswIn X (tgt := 159) dX12_carryOut_61 w35 (by decide) (by decide) rfl (by decide) ?_
      refine g_aload_n X 3 (i0 := 0) dX12_carryOut_159 rfl rfl ?_
      refine g_get X (D := D11) (v := .ref (E.1 1)) (T := TX12) 0 uX12 (wg_0 E _) rfl 0 (by decide) fl_X12_10 rfl rfl dX12_carryOut_160 ?_
      refine g_iload_n X 2 (i0 := 3) dX12_carryOut_163 rfl rfl ?_
      refine g_iload X 1 dX12_carryOut_164 rfl ?_
      obtain ⟨r38, D37, e36, h⟩ := cI_s h
      refine g_S X (As := [.int r3, .int r6]) (rest := [.ref (E.1 1)]) (c_X12_cellAt l G E r3 r6 _ _ e36) ks_X12_112 ⟨rfl, rfl⟩ hd_X12_cellAt (⟨Nat.le_of_ble_eq_true rfl, Nat.le_of_ble_eq_true rfl⟩) rfl rfl (Nat.le_of_ble_eq_true rfl) dX12_carryOut_166 ?_
      obtain ⟨r41, D40, e39, h⟩ := cL_s h
      refine g_V X (As := [.int r38]) (rest := []) (c_X8_digOut l G E r38 _ _ e39) 1 (wg_1 E _) rfl rfl kv_X12_131 ⟨rfl, rfl⟩ ⟨rfl, hd_X8_digOut⟩ (⟨Nat.le_of_ble_eq_true rfl, Nat.le_of_ble_eq_true rfl⟩) rfl rfl (Nat.le_of_ble_eq_true rfl) dX12_carryOut_169 ?_
      refine g_pop2 X dX12_carryOut_172 rfl ?_
      refine g_goto X (tgt := 196) dX12_carryOut_173 (by decide) ?_
      refine g_iconst X (v := (1 : Int32)) dX12_carryOut_196 (by decide) ?_
      exact g_iret X hr rfl dX12_carryOut_197 (Option.some.inj h)
    have h := (ite_s h).2 w35
    by_cases w42 : (6 : Int32) = (6 : Int32)
    · have h := (ite_s h).1 w42
      refine g_tswIn X (tgt := 176) dX12_carryOut_61 w42 (by decide) (by decide) rfl (by decide) ?_
      refine g_aload_n X 3 (i0 := 0) dX12_carryOut_176 rfl rfl ?_
      refine g_get X (D := D11) (v := .ref (E.1 1)) (T := TX12) 0 uX12 (wg_0 E _) rfl 0 (by decide) fl_X12_10 rfl rfl dX12_carryOut_177 ?_
      refine g_iload_n X 2 (i0 := 3) dX12_carryOut_180 rfl rfl ?_
      refine g_iload X 1 dX12_carryOut_181 rfl ?_
      obtain ⟨r45, D44, e43, h⟩ := cI_s h
      refine g_V X (As := [.int r3, .int r6]) (rest := []) (c_X8_putPrice l G E r3 r6 _ _ e43) 1 (wg_1 E _) rfl rfl kv_X12_235 ⟨rfl, rfl⟩ ⟨rfl, hd_X8_putPrice⟩ (⟨Nat.le_of_ble_eq_true rfl, Nat.le_of_ble_eq_true rfl⟩) rfl rfl (Nat.le_of_ble_eq_true rfl) dX12_carryOut_183 ?_
      refine g_pop X dX12_carryOut_186 rfl ?_
      refine g_goto X (tgt := 196) dX12_carryOut_187 (by decide) ?_
      refine g_iconst X (v := (1 : Int32)) dX12_carryOut_196 (by decide) ?_
      exact g_iret X hr rfl dX12_carryOut_197 (Option.some.inj h)
    have h := (ite_s h).2 w42
    have zw13 := lv_neT w13 (show (1 : Int32).toInt = 1 by decide)
    have zw20 := lv_neT w20 (show (2 : Int32).toInt = 2 by decide)
    have zw27 := lv_neT w27 (show (3 : Int32).toInt = 3 by decide)
    have zw31 := lv_neT w31 (show (4 : Int32).toInt = 4 by decide)
    have zw35 := lv_neT w35 (show (5 : Int32).toInt = 5 by decide)
    have zw42 := lv_neT w42 (show (6 : Int32).toInt = 6 by decide)
    refine g_tswOut X (tgt := 190) dX12_carryOut_61 (by omega) (by decide) ?_
    refine g_aload_n X 3 (i0 := 0) dX12_carryOut_190 rfl rfl ?_
    refine g_iload_n X 2 (i0 := 3) dX12_carryOut_191 rfl rfl ?_
    obtain ⟨r48, D47, e46, h⟩ := cI_s h
    refine g_V X (As := [.int r3]) (rest := []) (c_X12_sellBar l G E r3 _ _ e46) 0 (wg_0 E _) rfl rfl kv_X12_257 ⟨rfl, rfl⟩ ⟨rfl, hd_X12_sellBar⟩ (⟨Nat.le_of_ble_eq_true rfl, Nat.le_of_ble_eq_true rfl⟩) rfl rfl (Nat.le_of_ble_eq_true rfl) dX12_carryOut_192 ?_
    refine g_pop X dX12_carryOut_195 rfl ?_
    refine g_iconst X (v := (1 : Int32)) dX12_carryOut_196 (by decide) ?_
    exact g_iret X hr rfl dX12_carryOut_197 (Option.some.inj h)
  · have h := (ite_s h).2 c49
    refine g_iconst X (v := (0 : Int32)) dX12_carryOut_51 (by decide) ?_
    exact g_iret X hr rfl dX12_carryOut_52 (Option.some.inj h)
def S_X12_faultOfCommand_x_K6 (a1 : Int32) (a2 : Int32) (a3 : Int32) (D : DD) : Option RT := (if (0 : Int32) = (1 : Int32) then (cI (S_X8_faultOfHardness a1 a2 a3 D) (fun r4 D3 => some (0, some (.int r4), D3))) else (if (0 : Int32) = (2 : Int32) then (cI (S_X8_faultOfLaying a1 a2 a3 D) (fun r8 D7 => some (0, some (.int r8), D7))) else (if (0 : Int32) = (3 : Int32) then (cI (S_X8_hasCharge a1 D) (fun r12 D11 => (if r12 = 0 then some (0, some (.int (1 : Int32)), D11) else some (0, some (.int (0 : Int32)), D11)))) else (if (0 : Int32) = (4 : Int32) then (cI (S_X8_hasCharge a1 D) (fun r17 D16 => (if r17 = 0 then some (0, some (.int (1 : Int32)), D16) else some (0, some (.int (0 : Int32)), D16)))) else (if (0 : Int32) = (5 : Int32) then (cI (S_X8_faultOfDigging a1 a2 D) (fun r22 D21 => some (0, some (.int r22), D21))) else (if (0 : Int32) = (6 : Int32) then (cI (S_X8_faultOfPrice a1 a2 D) (fun r26 D25 => some (0, some (.int r26), D25))) else (cI (S_X8_faultOfSelling a1 D) (fun r29 D28 => some (0, some (.int r29), D28)))))))))
set_option maxRecDepth 100000 in
set_option maxHeartbeats 4000000 in
theorem c_X12_faultOfCommand_x_K6 (l : Launch) (G : va_G) (E : EE) (a1 : Int32) (a2 : Int32) (a3 : Int32) (D : DD) (r : RT) (h : S_X12_faultOfCommand_x_K6 a1 a2 a3 D = some r) : MM l G E yX12_faultOfCommand cX12_faultOfCommand 5 (some .int) (rmm 4) [.ref (E.1 0), .ref (E.1 1006), .int a1, .int a2, .int a3] D r := by
  refine m_of rfl (Nat.le_of_ble_eq_true rfl) ?_
  intro p e s m args below meth c X hr
  unfold S_X12_faultOfCommand_x_K6 at h
  refine g_gets X (v := .ref (E.1 1021)) X.2.2.2.2.2.2.2.2.2.1 fl_X12_378 dX12_faultOfCommand_0 ?_
  refine g_aload_n X 1 (i0 := 1) dX12_faultOfCommand_3 rfl rfl ?_
  refine g_ord X (v := (6 : Int32)) (X.2.2.2.2.2.2.1 6 (by decide)).1 (X.2.2.2.2.2.2.1 6 (by decide)).2.1 wo_link_X12_384 wo_same wo_sel wo_inst wo_code wo_fl (Nat.le_of_ble_eq_true rfl) (Nat.le_of_ble_eq_true rfl) (Nat.le_of_ble_eq_true rfl) dX12_faultOfCommand_4 ?_
  refine g_ti X X.2.2.2.2.2.2.2.2.2.2.1 (i := (6 : Int32)) (v := .int (0 : Int32)) (inB_vp (by decide)) rfl dX12_faultOfCommand_7 ?_
  by_cases w1 : (0 : Int32) = (1 : Int32)
  · have h := (ite_s h).1 w1
    refine g_tswIn X (tgt := 48) dX12_faultOfCommand_8 w1 (by decide) (by decide) rfl (by decide) ?_
    refine g_aload_n X 0 (i0 := 0) dX12_faultOfCommand_48 rfl rfl ?_
    refine g_get X (D := D) (v := .ref (E.1 1)) (T := TX12) 0 uX12 (wg_0 E _) rfl 0 (by decide) fl_X12_10 rfl rfl dX12_faultOfCommand_49 ?_
    refine g_iload_n X 2 (i0 := 2) dX12_faultOfCommand_52 rfl rfl ?_
    refine g_iload_n X 3 (i0 := 3) dX12_faultOfCommand_53 rfl rfl ?_
    refine g_iload X 4 dX12_faultOfCommand_54 rfl ?_
    obtain ⟨r4, D3, e2, h⟩ := cI_s h
    refine g_V X (As := [.int a1, .int a2, .int a3]) (rest := []) (c_X8_faultOfHardness l G E a1 a2 a3 _ _ e2) 1 (wg_1 E _) rfl rfl kv_X12_92 ⟨rfl, rfl⟩ ⟨rfl, hd_X8_faultOfHardness⟩ (⟨Nat.le_of_ble_eq_true rfl, Nat.le_of_ble_eq_true rfl⟩) rfl rfl (Nat.le_of_ble_eq_true rfl) dX12_faultOfCommand_56 ?_
    exact g_iret X hr rfl dX12_faultOfCommand_59 (Option.some.inj h)
  have h := (ite_s h).2 w1
  by_cases w5 : (0 : Int32) = (2 : Int32)
  · have h := (ite_s h).1 w5
    refine g_tswIn X (tgt := 60) dX12_faultOfCommand_8 w5 (by decide) (by decide) rfl (by decide) ?_
    refine g_aload_n X 0 (i0 := 0) dX12_faultOfCommand_60 rfl rfl ?_
    refine g_get X (D := D) (v := .ref (E.1 1)) (T := TX12) 0 uX12 (wg_0 E _) rfl 0 (by decide) fl_X12_10 rfl rfl dX12_faultOfCommand_61 ?_
    refine g_iload_n X 2 (i0 := 2) dX12_faultOfCommand_64 rfl rfl ?_
    refine g_iload_n X 3 (i0 := 3) dX12_faultOfCommand_65 rfl rfl ?_
    refine g_iload X 4 dX12_faultOfCommand_66 rfl ?_
    obtain ⟨r8, D7, e6, h⟩ := cI_s h
    refine g_V X (As := [.int a1, .int a2, .int a3]) (rest := []) (c_X8_faultOfLaying l G E a1 a2 a3 _ _ e6) 1 (wg_1 E _) rfl rfl kv_X12_160 ⟨rfl, rfl⟩ ⟨rfl, hd_X8_faultOfLaying⟩ (⟨Nat.le_of_ble_eq_true rfl, Nat.le_of_ble_eq_true rfl⟩) rfl rfl (Nat.le_of_ble_eq_true rfl) dX12_faultOfCommand_68 ?_
    exact g_iret X hr rfl dX12_faultOfCommand_71 (Option.some.inj h)
  have h := (ite_s h).2 w5
  by_cases w9 : (0 : Int32) = (3 : Int32)
  · have h := (ite_s h).1 w9
    refine g_tswIn X (tgt := 72) dX12_faultOfCommand_8 w9 (by decide) (by decide) rfl (by decide) ?_
    refine g_aload_n X 0 (i0 := 0) dX12_faultOfCommand_72 rfl rfl ?_
    refine g_get X (D := D) (v := .ref (E.1 1)) (T := TX12) 0 uX12 (wg_0 E _) rfl 0 (by decide) fl_X12_10 rfl rfl dX12_faultOfCommand_73 ?_
    refine g_iload_n X 2 (i0 := 2) dX12_faultOfCommand_76 rfl rfl ?_
    obtain ⟨r12, D11, e10, h⟩ := cI_s h
    refine g_V X (As := [.int a1]) (rest := []) (c_X8_hasCharge l G E a1 _ _ e10) 1 (wg_1 E _) rfl rfl kv_X12_170 ⟨rfl, rfl⟩ ⟨rfl, hd_X8_hasCharge⟩ (⟨Nat.le_of_ble_eq_true rfl, Nat.le_of_ble_eq_true rfl⟩) rfl rfl (Nat.le_of_ble_eq_true rfl) dX12_faultOfCommand_77 ?_
    refine g_if_eq X (tgt := 87) dX12_faultOfCommand_80 (by decide) (fun c13 => ?_) (fun c13 => ?_)
    · have h := (ite_s h).1 c13
      refine g_iconst X (v := (1 : Int32)) dX12_faultOfCommand_87 (by decide) ?_
      exact g_iret X hr rfl dX12_faultOfCommand_88 (Option.some.inj h)
    · have h := (ite_s h).2 c13
      refine g_iconst X (v := (0 : Int32)) dX12_faultOfCommand_83 (by decide) ?_
      refine g_goto X (tgt := 88) dX12_faultOfCommand_84 (by decide) ?_
      exact g_iret X hr rfl dX12_faultOfCommand_88 (Option.some.inj h)
  have h := (ite_s h).2 w9
  by_cases w14 : (0 : Int32) = (4 : Int32)
  · have h := (ite_s h).1 w14
    refine g_tswIn X (tgt := 72) dX12_faultOfCommand_8 w14 (by decide) (by decide) rfl (by decide) ?_
    refine g_aload_n X 0 (i0 := 0) dX12_faultOfCommand_72 rfl rfl ?_
    refine g_get X (D := D) (v := .ref (E.1 1)) (T := TX12) 0 uX12 (wg_0 E _) rfl 0 (by decide) fl_X12_10 rfl rfl dX12_faultOfCommand_73 ?_
    refine g_iload_n X 2 (i0 := 2) dX12_faultOfCommand_76 rfl rfl ?_
    obtain ⟨r17, D16, e15, h⟩ := cI_s h
    refine g_V X (As := [.int a1]) (rest := []) (c_X8_hasCharge l G E a1 _ _ e15) 1 (wg_1 E _) rfl rfl kv_X12_170 ⟨rfl, rfl⟩ ⟨rfl, hd_X8_hasCharge⟩ (⟨Nat.le_of_ble_eq_true rfl, Nat.le_of_ble_eq_true rfl⟩) rfl rfl (Nat.le_of_ble_eq_true rfl) dX12_faultOfCommand_77 ?_
    refine g_if_eq X (tgt := 87) dX12_faultOfCommand_80 (by decide) (fun c18 => ?_) (fun c18 => ?_)
    · have h := (ite_s h).1 c18
      refine g_iconst X (v := (1 : Int32)) dX12_faultOfCommand_87 (by decide) ?_
      exact g_iret X hr rfl dX12_faultOfCommand_88 (Option.some.inj h)
    · have h := (ite_s h).2 c18
      refine g_iconst X (v := (0 : Int32)) dX12_faultOfCommand_83 (by decide) ?_
      refine g_goto X (tgt := 88) dX12_faultOfCommand_84 (by decide) ?_
      exact g_iret X hr rfl dX12_faultOfCommand_88 (Option.some.inj h)
  have h := (ite_s h).2 w14
  by_cases w19 : (0 : Int32) = (5 : Int32)
  · have h := (ite_s h).1 w19
    refine g_tswIn X (tgt := 89) dX12_faultOfCommand_8 w19 (by decide) (by decide) rfl (by decide) ?_
    refine g_aload_n X 0 (i0 := 0) dX12_faultOfCommand_89 rfl rfl ?_
    refine g_get X (D := D) (v := .ref (E.1 1)) (T := TX12) 0 uX12 (wg_0 E _) rfl 0 (by decide) fl_X12_10 rfl rfl dX12_faultOfCommand_90 ?_
    refine g_iload_n X 2 (i0 := 2) dX12_faultOfCommand_93 rfl rfl ?_
    refine g_iload_n X 3 (i0 := 3) dX12_faultOfCommand_94 rfl rfl ?_
    obtain ⟨r22, D21, e20, h⟩ := cI_s h
    refine g_V X (As := [.int a1, .int a2]) (rest := []) (c_X8_faultOfDigging l G E a1 a2 _ _ e20) 1 (wg_1 E _) rfl rfl kv_X12_119 ⟨rfl, rfl⟩ ⟨rfl, hd_X8_faultOfDigging⟩ (⟨Nat.le_of_ble_eq_true rfl, Nat.le_of_ble_eq_true rfl⟩) rfl rfl (Nat.le_of_ble_eq_true rfl) dX12_faultOfCommand_95 ?_
    exact g_iret X hr rfl dX12_faultOfCommand_98 (Option.some.inj h)
  have h := (ite_s h).2 w19
  by_cases w23 : (0 : Int32) = (6 : Int32)
  · have h := (ite_s h).1 w23
    refine g_tswIn X (tgt := 99) dX12_faultOfCommand_8 w23 (by decide) (by decide) rfl (by decide) ?_
    refine g_aload_n X 0 (i0 := 0) dX12_faultOfCommand_99 rfl rfl ?_
    refine g_get X (D := D) (v := .ref (E.1 1)) (T := TX12) 0 uX12 (wg_0 E _) rfl 0 (by decide) fl_X12_10 rfl rfl dX12_faultOfCommand_100 ?_
    refine g_iload_n X 2 (i0 := 2) dX12_faultOfCommand_103 rfl rfl ?_
    refine g_iload_n X 3 (i0 := 3) dX12_faultOfCommand_104 rfl rfl ?_
    obtain ⟨r26, D25, e24, h⟩ := cI_s h
    refine g_V X (As := [.int a1, .int a2]) (rest := []) (c_X8_faultOfPrice l G E a1 a2 _ _ e24) 1 (wg_1 E _) rfl rfl kv_X12_230 ⟨rfl, rfl⟩ ⟨rfl, hd_X8_faultOfPrice⟩ (⟨Nat.le_of_ble_eq_true rfl, Nat.le_of_ble_eq_true rfl⟩) rfl rfl (Nat.le_of_ble_eq_true rfl) dX12_faultOfCommand_105 ?_
    exact g_iret X hr rfl dX12_faultOfCommand_108 (Option.some.inj h)
  have h := (ite_s h).2 w23
  have zw1 := lv_neT w1 (show (1 : Int32).toInt = 1 by decide)
  have zw5 := lv_neT w5 (show (2 : Int32).toInt = 2 by decide)
  have zw9 := lv_neT w9 (show (3 : Int32).toInt = 3 by decide)
  have zw14 := lv_neT w14 (show (4 : Int32).toInt = 4 by decide)
  have zw19 := lv_neT w19 (show (5 : Int32).toInt = 5 by decide)
  have zw23 := lv_neT w23 (show (6 : Int32).toInt = 6 by decide)
  refine g_tswOut X (tgt := 109) dX12_faultOfCommand_8 (by omega) (by decide) ?_
  refine g_aload_n X 0 (i0 := 0) dX12_faultOfCommand_109 rfl rfl ?_
  refine g_get X (D := D) (v := .ref (E.1 1)) (T := TX12) 0 uX12 (wg_0 E _) rfl 0 (by decide) fl_X12_10 rfl rfl dX12_faultOfCommand_110 ?_
  refine g_iload_n X 2 (i0 := 2) dX12_faultOfCommand_113 rfl rfl ?_
  obtain ⟨r29, D28, e27, h⟩ := cI_s h
  refine g_V X (As := [.int a1]) (rest := []) (c_X8_faultOfSelling l G E a1 _ _ e27) 1 (wg_1 E _) rfl rfl kv_X12_252 ⟨rfl, rfl⟩ ⟨rfl, hd_X8_faultOfSelling⟩ (⟨Nat.le_of_ble_eq_true rfl, Nat.le_of_ble_eq_true rfl⟩) rfl rfl (Nat.le_of_ble_eq_true rfl) dX12_faultOfCommand_114 ?_
  exact g_iret X hr rfl dX12_faultOfCommand_117 (Option.some.inj h)
