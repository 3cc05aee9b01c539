theorem hd_X13_bestCut : yX13_bestCut.cls ≠ "java/lang/invoke/MethodHandle" ∧ yX13_bestCut.cls ≠ "java/lang/invoke/VarHandle" ∧ (parseMethodDescriptor yX13_bestCut.desc).map (fun d => d.parameters.length) = some 1 := by decide +kernel
theorem wc_X13_bestCut : Cond.code yX13_bestCut cX13_bestCut 2 (some .int) ∈ UT := ut 1672 (by decide +kernel) (by decide +kernel)
theorem we_X13_bestCut : Cond.selects RX13 yX13_bestCut yX13_bestCut ∈ UT := ut 1671 (by decide +kernel) (by decide +kernel)
theorem wm_X13_bestCut : Cond.instanceMethod yX13_bestCut ∈ UT := ut 1670 (by decide +kernel) (by decide +kernel)
theorem kv_X13_198 : GoodIn UT (wsV RX13 198 RX13 yX13_bestCut (Cond.code yX13_bestCut cX13_bestCut 2 (some .int) :: UT)) := gu_V (ut 1685 (by decide +kernel) (by decide +kernel)) wm_X13_bestCut we_X13_bestCut wi_RX13 wc_X13_bestCut
def S_X13_bestCutByTrial (a0 : Int32) (D : DD) : Option RT := (cI (S_X13_bestCut a0 D) (fun r3 D2 => some (0, some (.int r3), D2)))
set_option maxRecDepth 100000 in
set_option maxHeartbeats 4000000 in
theorem c_X13_bestCutByTrial (l : Launch) (G : va_G) (E : EE) (a0 : Int32) (D : DD) (r : RT) (h : S_X13_bestCutByTrial a0 D = some r) : MM l G E yX13_bestCutByTrial cX13_bestCutByTrial 2 (some .int) (rmm 3) [.ref (E.1 84), .int a0] D r := by
  refine m_of rfl (Nat.le_of_ble_eq_true rfl) ?_
  intro p e s m args below meth c X hr
  unfold S_X13_bestCutByTrial at h
  refine g_aload_n X 0 (i0 := 0) dX13_bestCutByTrial_0 rfl rfl ?_
  refine g_iload_n X 1 (i0 := 1) dX13_bestCutByTrial_1 rfl rfl ?_
  obtain ⟨r3, D2, e1, h⟩ := cI_s h
  refine g_V X (As := [.int a0]) (rest := []) (c_X13_bestCut l G E a0 _ _ e1) 84 (wg_84 E _) rfl rfl kv_X13_198 ⟨rfl, rfl⟩ ⟨rfl, hd_X13_bestCut⟩ (⟨Nat.le_of_ble_eq_true rfl, Nat.le_of_ble_eq_true rfl⟩) rfl rfl (Nat.le_of_ble_eq_true rfl) dX13_bestCutByTrial_2 ?_
  exact g_iret X hr rfl dX13_bestCutByTrial_5 (Option.some.inj h)
def S_X13_fewestPieces (a0 : Int32) (D : DD) : Option RT := (cI (S_X13_isBar a0 D) (fun r3 D2 => (if r3 = 0 then some (0, some (.int (0 : Int32)), D2) else (if inB a0 31 = true then some (0, some (.int ((D2.2.2.1 78) a0.toNatClampNeg)), D2) else none))))
set_option maxRecDepth 100000 in
set_option maxHeartbeats 4000000 in
theorem c_X13_fewestPieces (l : Launch) (G : va_G) (E : EE) (a0 : Int32) (D : DD) (r : RT) (h : S_X13_fewestPieces a0 D = some r) : MM l G E yX13_fewestPieces cX13_fewestPieces 2 (some .int) (rmm 2) [.ref (E.1 84), .int a0] D r := by
  refine m_of rfl (Nat.le_of_ble_eq_true rfl) ?_
  intro p e s m args below meth c X hr
  unfold S_X13_fewestPieces at h
  refine g_aload_n X 0 (i0 := 0) dX13_fewestPieces_0 rfl rfl ?_
  refine g_iload_n X 1 (i0 := 1) dX13_fewestPieces_1 rfl rfl ?_
  obtain ⟨r3, D2, e1, h⟩ := cI_s h
  refine g_V X (As := [.int a0]) (rest := []) (c_X13_isBar l G E a0 _ _ e1) 84 (wg_84 E _) rfl rfl kv_X13_195 ⟨rfl, rfl⟩ ⟨rfl, hd_X13_isBar⟩ (⟨Nat.le_of_ble_eq_true rfl, Nat.le_of_ble_eq_true rfl⟩) rfl rfl (Nat.le_of_ble_eq_true rfl) dX13_fewestPieces_2 ?_
  refine g_if_eq X (tgt := 17) dX13_fewestPieces_5 (by decide) (fun c5 => ?_) (fun c5 => ?_)
  · have h := (ite_s h).1 c5
    refine g_iconst X (v := (0 : Int32)) dX13_fewestPieces_17 (by decide) ?_
    exact g_iret X hr rfl dX13_fewestPieces_18 (Option.some.inj h)
  · have h := (ite_s h).2 c5
    refine g_aload_n X 0 (i0 := 0) dX13_fewestPieces_8 rfl rfl ?_
    refine g_get X (D := D2) (v := .ref (E.1 93)) (T := TX13) 84 uX13 (wg_84 E _) rfl 13 (by decide) fl_X13_41 rfl rfl dX13_fewestPieces_9 ?_
    refine g_iload_n X 1 (i0 := 1) dX13_fewestPieces_12 rfl rfl ?_
    obtain ⟨b4, h⟩ := chk_s h
    refine g_iald X (D := D2) (f := (D2.2.2.1 78)) (i := a0) 93 (wg_93 E _) (inB_vp b4) dX13_fewestPieces_13 ?_
    refine g_goto X (tgt := 18) dX13_fewestPieces_14 (by decide) ?_
    exact g_iret X hr rfl dX13_fewestPieces_18 (Option.some.inj h)
def S_X13_sells (a0 : Int32) (D : DD) : Option RT := (cI (S_X13_isIn a0 (1 : Int32) (30 : Int32) D) (fun r3 D2 => (if r3 = 0 then (cI (S_X13_fail (1 : Int32) D2) (fun r14 D13 => some (0, some (.int r14), D13))) else (if a0 ≤ (((D2.2.2.1 70) (1 : Int32).toNatClampNeg) - ((D2.2.2.1 70) (2 : Int32).toNatClampNeg)) then (cV (S_X13_cuts D2) (fun D5 => (if inB a0 31 = true then (if inB a0 31 = true then some (0, some (.int ((D5.2.2.1 77) a0.toNatClampNeg)), (setA (setA D5 70 (upd (D5.2.2.1 70) (2 : Int32).toNatClampNeg (((D5.2.2.1 70) (2 : Int32).toNatClampNeg) + a0))) 70 (upd (upd (D5.2.2.1 70) (2 : Int32).toNatClampNeg (((D5.2.2.1 70) (2 : Int32).toNatClampNeg) + a0)) (0 : Int32).toNatClampNeg (((upd (D5.2.2.1 70) (2 : Int32).toNatClampNeg (((D5.2.2.1 70) (2 : Int32).toNatClampNeg) + a0)) (0 : Int32).toNatClampNeg) + ((D5.2.2.1 77) a0.toNatClampNeg))))) else none) else none))) else (cI (S_X13_fail (2 : Int32) D2) (fun r10 D9 => some (0, some (.int r10), D9)))))))
set_option maxRecDepth 100000 in
set_option maxHeartbeats 4000000 in
theorem c_X13_sells (l : Launch) (G : va_G) (E : EE) (a0 : Int32) (D : DD) (r : RT) (h : S_X13_sells a0 D = some r) : MM l G E yX13_sells cX13_sells 2 (some .int) (rmm 1) [.ref (E.1 84), .int a0] D r := by
  refine m_of rfl (Nat.le_of_ble_eq_true rfl) ?_
  intro p e s m args below meth c X hr
  unfold S_X13_sells at h
  refine g_iload_n X 1 (i0 := 1) dX13_sells_0 rfl rfl ?_
  refine g_iconst X (v := (1 : Int32)) dX13_sells_1 (by decide) ?_
  refine g_bipush X (v := (30 : Int32)) dX13_sells_2 (by decide) ?_
  obtain ⟨r3, D2, e1, h⟩ := cI_s h
  refine g_S X (As := [.int a0, .int (1 : Int32), .int (30 : Int32)]) (rest := []) (c_X13_isIn l G E a0 (1 : Int32) (30 : Int32) _ _ e1) ks_X13_69 ⟨rfl, rfl⟩ hd_X13_isIn (⟨Nat.le_of_ble_eq_true rfl, Nat.le_of_ble_eq_true rfl⟩) rfl rfl (Nat.le_of_ble_eq_true rfl) dX13_sells_4 ?_
  refine g_if_ne X (tgt := 16) dX13_sells_7 (by decide) (fun c15 => ?_) (fun c15 => ?_)
  · have h := (ite_s h).2 c15
    refine g_aload_n X 0 (i0 := 0) dX13_sells_16 rfl rfl ?_
    refine g_get X (D := D2) (v := .ref (E.1 85)) (T := TX13) 84 uX13 (wg_84 E _) rfl 5 (by decide) fl_X13_16 rfl rfl dX13_sells_17 ?_
    refine g_iconst X (v := (1 : Int32)) dX13_sells_20 (by decide) ?_
    refine g_iald X (D := D2) (f := (D2.2.2.1 70)) (i := (1 : Int32)) 85 (wg_85 E _) (inB_vp (by decide)) dX13_sells_21 ?_
    refine g_aload_n X 0 (i0 := 0) dX13_sells_22 rfl rfl ?_
    refine g_get X (D := D2) (v := .ref (E.1 85)) (T := TX13) 84 uX13 (wg_84 E _) rfl 5 (by decide) fl_X13_16 rfl rfl dX13_sells_23 ?_
    refine g_iconst X (v := (2 : Int32)) dX13_sells_26 (by decide) ?_
    refine g_iald X (D := D2) (f := (D2.2.2.1 70)) (i := (2 : Int32)) 85 (wg_85 E _) (inB_vp (by decide)) dX13_sells_27 ?_
    refine g_isub X dX13_sells_28 ?_
    refine g_iload_n X 1 (i0 := 1) dX13_sells_29 rfl rfl ?_
    refine g_icmp_ge X (tgt := 39) dX13_sells_30 (by decide) (fun c11 => ?_) (fun c11 => ?_)
    · have h := (ite_s h).1 c11
      refine g_aload_n X 0 (i0 := 0) dX13_sells_39 rfl rfl ?_
      obtain ⟨D5, e4, h⟩ := cV_s h
      refine g_V X (As := []) (rest := []) (c_X13_cuts l G E  _ _ e4) 84 (wg_84 E _) rfl rfl kv_X13_192 ⟨rfl, rfl⟩ ⟨rfl, hd_X13_cuts⟩ (⟨Nat.le_of_ble_eq_true rfl, Nat.le_of_ble_eq_true rfl⟩) rfl rfl (Nat.le_of_ble_eq_true rfl) dX13_sells_40 ?_
      refine g_aload_n X 0 (i0 := 0) dX13_sells_43 rfl rfl ?_
      refine g_get X (D := D5) (v := .ref (E.1 85)) (T := TX13) 84 uX13 (wg_84 E _) rfl 5 (by decide) fl_X13_16 rfl rfl dX13_sells_44 ?_
      refine g_iconst X (v := (2 : Int32)) dX13_sells_47 (by decide) ?_
      refine g_dup2 X dX13_sells_48 rfl rfl ?_
      refine g_iald X (D := D5) (f := (D5.2.2.1 70)) (i := (2 : Int32)) 85 (wg_85 E _) (inB_vp (by decide)) dX13_sells_49 ?_
      refine g_iload_n X 1 (i0 := 1) dX13_sells_50 rfl rfl ?_
      refine g_iadd X dX13_sells_51 ?_
      refine g_iast X (D := D5) (f := (D5.2.2.1 70)) (i := (2 : Int32)) (x := (((D5.2.2.1 70) (2 : Int32).toNatClampNeg) + a0)) (D' := (setA D5 70 (upd (D5.2.2.1 70) (2 : Int32).toNatClampNeg (((D5.2.2.1 70) (2 : Int32).toNatClampNeg) + a0)))) 85 (wg_85 E _) (inB_vp (by decide)) (ws_A_70 E _ _) dX13_sells_52 ?_
      refine g_aload_n X 0 (i0 := 0) dX13_sells_53 rfl rfl ?_
      refine g_get X (D := (setA D5 70 (upd (D5.2.2.1 70) (2 : Int32).toNatClampNeg (((D5.2.2.1 70) (2 : Int32).toNatClampNeg) + a0)))) (v := .ref (E.1 85)) (T := TX13) 84 uX13 (wg_84 E _) rfl 5 (by decide) fl_X13_16 rfl rfl dX13_sells_54 ?_
      refine g_iconst X (v := (0 : Int32)) dX13_sells_57 (by decide) ?_
      refine g_dup2 X dX13_sells_58 rfl rfl ?_
      refine g_iald X (D := (setA D5 70 (upd (D5.2.2.1 70) (2 : Int32).toNatClampNeg (((D5.2.2.1 70) (2 : Int32).toNatClampNeg) + a0)))) (f := (upd (D5.2.2.1 70) (2 : Int32).toNatClampNeg (((D5.2.2.1 70) (2 : Int32).toNatClampNeg) + a0))) (i := (0 : Int32)) 85 (wg_85 E _) (inB_vp (by decide)) dX13_sells_59 ?_
      refine g_aload_n X 0 (i0 := 0) dX13_sells_60 rfl rfl ?_
      refine g_get X (D := (setA D5 70 (upd (D5.2.2.1 70) (2 : Int32).toNatClampNeg (((D5.2.2.1 70) (2 : Int32).toNatClampNeg) + a0)))) (v := .ref (E.1 92)) (T := TX13) 84 uX13 (wg_84 E _) rfl 12 (by decide) fl_X13_38 rfl rfl dX13_sells_61 ?_
      refine g_iload_n X 1 (i0 := 1) dX13_sells_64 rfl rfl ?_
      obtain ⟨b6, h⟩ := chk_s h
      refine g_iald X (D := (setA D5 70 (upd (D5.2.2.1 70) (2 : Int32).toNatClampNeg (((D5.2.2.1 70) (2 : Int32).toNatClampNeg) + a0)))) (f := (D5.2.2.1 77)) (i := a0) 92 (wg_92 E _) (inB_vp b6) dX13_sells_65 ?_
      refine g_iadd X dX13_sells_66 ?_
      refine g_iast X (D := (setA D5 70 (upd (D5.2.2.1 70) (2 : Int32).toNatClampNeg (((D5.2.2.1 70) (2 : Int32).toNatClampNeg) + a0)))) (f := (upd (D5.2.2.1 70) (2 : Int32).toNatClampNeg (((D5.2.2.1 70) (2 : Int32).toNatClampNeg) + a0))) (i := (0 : Int32)) (x := (((upd (D5.2.2.1 70) (2 : Int32).toNatClampNeg (((D5.2.2.1 70) (2 : Int32).toNatClampNeg) + a0)) (0 : Int32).toNatClampNeg) + ((D5.2.2.1 77) a0.toNatClampNeg))) (D' := (setA (setA D5 70 (upd (D5.2.2.1 70) (2 : Int32).toNatClampNeg (((D5.2.2.1 70) (2 : Int32).toNatClampNeg) + a0))) 70 (upd (upd (D5.2.2.1 70) (2 : Int32).toNatClampNeg (((D5.2.2.1 70) (2 : Int32).toNatClampNeg) + a0)) (0 : Int32).toNatClampNeg (((upd (D5.2.2.1 70) (2 : Int32).toNatClampNeg (((D5.2.2.1 70) (2 : Int32).toNatClampNeg) + a0)) (0 : Int32).toNatClampNeg) + ((D5.2.2.1 77) a0.toNatClampNeg))))) 85 (wg_85 E _) (inB_vp (by decide)) (ws_A_70 E _ _) dX13_sells_67 ?_
      refine g_aload_n X 0 (i0 := 0) dX13_sells_68 rfl rfl ?_
      refine g_get X (D := (setA (setA D5 70 (upd (D5.2.2.1 70) (2 : Int32).toNatClampNeg (((D5.2.2.1 70) (2 : Int32).toNatClampNeg) + a0))) 70 (upd (upd (D5.2.2.1 70) (2 : Int32).toNatClampNeg (((D5.2.2.1 70) (2 : Int32).toNatClampNeg) + a0)) (0 : Int32).toNatClampNeg (((upd (D5.2.2.1 70) (2 : Int32).toNatClampNeg (((D5.2.2.1 70) (2 : Int32).toNatClampNeg) + a0)) (0 : Int32).toNatClampNeg) + ((D5.2.2.1 77) a0.toNatClampNeg))))) (v := .ref (E.1 92)) (T := TX13) 84 uX13 (wg_84 E _) rfl 12 (by decide) fl_X13_38 rfl rfl dX13_sells_69 ?_
      refine g_iload_n X 1 (i0 := 1) dX13_sells_72 rfl rfl ?_
      obtain ⟨b7, h⟩ := chk_s h
      refine g_iald X (D := (setA (setA D5 70 (upd (D5.2.2.1 70) (2 : Int32).toNatClampNeg (((D5.2.2.1 70) (2 : Int32).toNatClampNeg) + a0))) 70 (upd (upd (D5.2.2.1 70) (2 : Int32).toNatClampNeg (((D5.2.2.1 70) (2 : Int32).toNatClampNeg) + a0)) (0 : Int32).toNatClampNeg (((upd (D5.2.2.1 70) (2 : Int32).toNatClampNeg (((D5.2.2.1 70) (2 : Int32).toNatClampNeg) + a0)) (0 : Int32).toNatClampNeg) + ((D5.2.2.1 77) a0.toNatClampNeg))))) (f := (D5.2.2.1 77)) (i := a0) 92 (wg_92 E _) (inB_vp b7) dX13_sells_73 ?_
      exact g_iret X hr rfl dX13_sells_74 (Option.some.inj h)
    · have h := (ite_s h).2 c11
      refine g_aload_n X 0 (i0 := 0) dX13_sells_33 rfl rfl ?_
      refine g_iconst X (v := (2 : Int32)) dX13_sells_34 (by decide) ?_
      obtain ⟨r10, D9, e8, h⟩ := cI_s h
      refine g_V X (As := [.int (2 : Int32)]) (rest := []) (c_X13_fail l G E (2 : Int32) _ _ e8) 84 (wg_84 E _) rfl rfl kv_X13_81 ⟨rfl, rfl⟩ ⟨rfl, hd_X13_fail⟩ (⟨Nat.le_of_ble_eq_true rfl, Nat.le_of_ble_eq_true rfl⟩) rfl rfl (Nat.le_of_ble_eq_true rfl) dX13_sells_35 ?_
      exact g_iret X hr rfl dX13_sells_38 (Option.some.inj h)
  · have h := (ite_s h).1 c15
    refine g_aload_n X 0 (i0 := 0) dX13_sells_10 rfl rfl ?_
    refine g_iconst X (v := (1 : Int32)) dX13_sells_11 (by decide) ?_
    obtain ⟨r14, D13, e12, h⟩ := cI_s h
    refine g_V X (As := [.int (1 : Int32)]) (rest := []) (c_X13_fail l G E (1 : Int32) _ _ e12) 84 (wg_84 E _) rfl rfl kv_X13_81 ⟨rfl, rfl⟩ ⟨rfl, hd_X13_fail⟩ (⟨Nat.le_of_ble_eq_true rfl, Nat.le_of_ble_eq_true rfl⟩) rfl rfl (Nat.le_of_ble_eq_true rfl) dX13_sells_12 ?_
    exact g_iret X hr rfl dX13_sells_15 (Option.some.inj h)
theorem hd_X13_sells : yX13_sells.cls ≠ "java/lang/invoke/MethodHandle" ∧ yX13_sells.cls ≠ "java/lang/invoke/VarHandle" ∧ (parseMethodDescriptor yX13_sells.desc).map (fun d => d.parameters.length) = some 1 := by decide +kernel
theorem wc_X13_sells : Cond.code yX13_sells cX13_sells 2 (some .int) ∈ UT := ut 1697 (by decide +kernel) (by decide +kernel)
theorem we_X13_sells : Cond.selects RX13 yX13_sells yX13_sells ∈ UT := ut 66 (by decide +kernel) (by decide +kernel)
theorem wm_X13_sells : Cond.instanceMethod yX13_sells ∈ UT := ut 1696 (by decide +kernel) (by decide +kernel)
theorem kv_X13_201 : GoodIn UT (wsV RX13 201 RX13 yX13_sells (Cond.code yX13_sells cX13_sells 2 (some .int) :: UT)) := gu_V (ut 1694 (by decide +kernel) (by decide +kernel)) wm_X13_sells we_X13_sells wi_RX13 wc_X13_sells
def S_X13_sell (a0 : Int32) (D : DD) : Option RT := (cV (S_X13_begins D) (fun D2 => (cI (S_X13_sells a0 D2) (fun r5 D4 => (cI (S_X13_ends r5 D4) (fun r8 D7 => some (0, some (.int r8), D7)))))))
set_option maxRecDepth 100000 in
set_option maxHeartbeats 4000000 in
theorem c_X13_sell (l : Launch) (G : va_G) (E : EE) (a0 : Int32) (D : DD) (r : RT) (h : S_X13_sell a0 D = some r) : MM l G E yX13_sell cX13_sell 2 (some .int) (rmm 2) [.ref (E.1 84), .int a0] D r := by
  refine m_of rfl (Nat.le_of_ble_eq_true rfl) ?_
  intro p e s m args below meth c X hr
  unfold S_X13_sell at h
  refine g_aload_n X 0 (i0 := 0) dX13_sell_0 rfl rfl ?_
  obtain ⟨D2, e1, h⟩ := cV_s h
  refine g_V X (As := []) (rest := []) (c_X13_begins l G E  _ _ e1) 84 (wg_84 E _) rfl rfl kv_X13_91 ⟨rfl, rfl⟩ ⟨rfl, hd_X13_begins⟩ (⟨Nat.le_of_ble_eq_true rfl, Nat.le_of_ble_eq_true rfl⟩) rfl rfl (Nat.le_of_ble_eq_true rfl) dX13_sell_1 ?_
  refine g_aload_n X 0 (i0 := 0) dX13_sell_4 rfl rfl ?_
  refine g_aload_n X 0 (i0 := 0) dX13_sell_5 rfl rfl ?_
  refine g_iload_n X 1 (i0 := 1) dX13_sell_6 rfl rfl ?_
  obtain ⟨r5, D4, e3, h⟩ := cI_s h
  refine g_V X (As := [.int a0]) (rest := [.ref (E.1 84)]) (c_X13_sells l G E a0 _ _ e3) 84 (wg_84 E _) rfl rfl kv_X13_201 ⟨rfl, rfl⟩ ⟨rfl, hd_X13_sells⟩ (⟨Nat.le_of_ble_eq_true rfl, Nat.le_of_ble_eq_true rfl⟩) rfl rfl (Nat.le_of_ble_eq_true rfl) dX13_sell_7 ?_
  obtain ⟨r8, D7, e6, h⟩ := cI_s h
  refine g_V X (As := [.int r5]) (rest := []) (c_X13_ends l G E r5 _ _ e6) 84 (wg_84 E _) rfl rfl kv_X13_98 ⟨rfl, rfl⟩ ⟨rfl, hd_X13_ends⟩ (⟨Nat.le_of_ble_eq_true rfl, Nat.le_of_ble_eq_true rfl⟩) rfl rfl (Nat.le_of_ble_eq_true rfl) dX13_sell_10 ?_
  exact g_iret X hr rfl dX13_sell_13 (Option.some.inj h)
def S_X13_stone  (D : DD) : Option RT := some (0, some (.int (((D.2.2.1 70) (1 : Int32).toNatClampNeg) - ((D.2.2.1 70) (2 : Int32).toNatClampNeg))), (setI D 140 (0 : Int32)))
set_option maxRecDepth 100000 in
set_option maxHeartbeats 4000000 in
theorem c_X13_stone (l : Launch) (G : va_G) (E : EE)  (D : DD) (r : RT) (h : S_X13_stone  D = some r) : MM l G E yX13_stone cX13_stone 1 (some .int) (rmm 0) [.ref (E.1 84)] D r := by
  refine m_of rfl (Nat.le_of_ble_eq_true rfl) ?_
  intro p e s m args below meth c X hr
  unfold S_X13_stone at h
  refine g_aload_n X 0 (i0 := 0) dX13_stone_0 rfl rfl ?_
  refine g_iconst X (v := (0 : Int32)) dX13_stone_1 (by decide) ?_
  refine g_put X (D := D) (v := .int (0 : Int32)) (T := TX13) (D' := (setI D 140 (0 : Int32))) 84 uX13 tyX13 tyX13_ok nmX13 (wg_84 E _) rfl 0 (by decide) fl_X13_59 rfl rfl rfl rfl (Nat.le_of_ble_eq_true rfl) (ws_I_140 E _ _) dX13_stone_2 ?_
  refine g_aload_n X 0 (i0 := 0) dX13_stone_5 rfl rfl ?_
  refine g_get X (D := (setI D 140 (0 : Int32))) (v := .ref (E.1 85)) (T := TX13) 84 uX13 (wg_84 E _) rfl 5 (by decide) fl_X13_16 rfl rfl dX13_stone_6 ?_
  refine g_iconst X (v := (1 : Int32)) dX13_stone_9 (by decide) ?_
  refine g_iald X (D := (setI D 140 (0 : Int32))) (f := (D.2.2.1 70)) (i := (1 : Int32)) 85 (wg_85 E _) (inB_vp (by decide)) dX13_stone_10 ?_
  refine g_aload_n X 0 (i0 := 0) dX13_stone_11 rfl rfl ?_
  refine g_get X (D := (setI D 140 (0 : Int32))) (v := .ref (E.1 85)) (T := TX13) 84 uX13 (wg_84 E _) rfl 5 (by decide) fl_X13_16 rfl rfl dX13_stone_12 ?_
  refine g_iconst X (v := (2 : Int32)) dX13_stone_15 (by decide) ?_
  refine g_iald X (D := (setI D 140 (0 : Int32))) (f := (D.2.2.1 70)) (i := (2 : Int32)) 85 (wg_85 E _) (inB_vp (by decide)) dX13_stone_16 ?_
  refine g_isub X dX13_stone_17 ?_
  exact g_iret X hr rfl dX13_stone_18 (Option.some.inj h)
def S_X13_quarried  (D : DD) : Option RT := (cI (S_X13_tells (1 : Int32) D) (fun r3 D2 => some (0, some (.int r3), D2)))
set_option maxRecDepth 100000 in
set_option maxHeartbeats 4000000 in
theorem c_X13_quarried (l : Launch) (G : va_G) (E : EE)  (D : DD) (r : RT) (h : S_X13_quarried  D = some r) : MM l G E yX13_quarried cX13_quarried 1 (some .int) (rmm 1) [.ref (E.1 84)] D r := by
  refine m_of rfl (Nat.le_of_ble_eq_true rfl) ?_
  intro p e s m args below meth c X hr
  unfold S_X13_quarried at h
  refine g_aload_n X 0 (i0 := 0) dX13_quarried_0 rfl rfl ?_
  refine g_iconst X (v := (1 : Int32)) dX13_quarried_1 (by decide) ?_
  obtain ⟨r3, D2, e1, h⟩ := cI_s h
  refine g_V X (As := [.int (1 : Int32)]) (rest := []) (c_X13_tells l G E (1 : Int32) _ _ e1) 84 (wg_84 E _) rfl rfl kv_X13_152 ⟨rfl, rfl⟩ ⟨rfl, hd_X13_tells⟩ (⟨Nat.le_of_ble_eq_true rfl, Nat.le_of_ble_eq_true rfl⟩) rfl rfl (Nat.le_of_ble_eq_true rfl) dX13_quarried_2 ?_
  exact g_iret X hr rfl dX13_quarried_5 (Option.some.inj h)
def S_X13_sold  (D : DD) : Option RT := (cI (S_X13_tells (2 : Int32) D) (fun r3 D2 => some (0, some (.int r3), D2)))
set_option maxRecDepth 100000 in
set_option maxHeartbeats 4000000 in
theorem c_X13_sold (l : Launch) (G : va_G) (E : EE)  (D : DD) (r : RT) (h : S_X13_sold  D = some r) : MM l G E yX13_sold cX13_sold 1 (some .int) (rmm 1) [.ref (E.1 84)] D r := by
  refine m_of rfl (Nat.le_of_ble_eq_true rfl) ?_
  intro p e s m args below meth c X hr
  unfold S_X13_sold at h
  refine g_aload_n X 0 (i0 := 0) dX13_sold_0 rfl rfl ?_
  refine g_iconst X (v := (2 : Int32)) dX13_sold_1 (by decide) ?_
  obtain ⟨r3, D2, e1, h⟩ := cI_s h
  refine g_V X (As := [.int (2 : Int32)]) (rest := []) (c_X13_tells l G E (2 : Int32) _ _ e1) 84 (wg_84 E _) rfl rfl kv_X13_152 ⟨rfl, rfl⟩ ⟨rfl, hd_X13_tells⟩ (⟨Nat.le_of_ble_eq_true rfl, Nat.le_of_ble_eq_true rfl⟩) rfl rfl (Nat.le_of_ble_eq_true rfl) dX13_sold_2 ?_
  exact g_iret X hr rfl dX13_sold_5 (Option.some.inj h)
def S_X13_coins  (D : DD) : Option RT := (cI (S_X13_tells (0 : Int32) D) (fun r3 D2 => some (0, some (.long r3.toInt64), D2)))
set_option maxRecDepth 100000 in
set_option maxHeartbeats 4000000 in
theorem c_X13_coins (l : Launch) (G : va_G) (E : EE)  (D : DD) (r : RT) (h : S_X13_coins  D = some r) : MM l G E yX13_coins cX13_coins 1 (some .long) (rmm 1) [.ref (E.1 84)] D r := by
  refine m_of rfl (Nat.le_of_ble_eq_true rfl) ?_
  intro p e s m args below meth c X hr
  unfold S_X13_coins at h
  refine g_aload_n X 0 (i0 := 0) dX13_coins_0 rfl rfl ?_
  refine g_iconst X (v := (0 : Int32)) dX13_coins_1 (by decide) ?_
  obtain ⟨r3, D2, e1, h⟩ := cI_s h
  refine g_V X (As := [.int (0 : Int32)]) (rest := []) (c_X13_tells l G E (0 : Int32) _ _ e1) 84 (wg_84 E _) rfl rfl kv_X13_152 ⟨rfl, rfl⟩ ⟨rfl, hd_X13_tells⟩ (⟨Nat.le_of_ble_eq_true rfl, Nat.le_of_ble_eq_true rfl⟩) rfl rfl (Nat.le_of_ble_eq_true rfl) dX13_coins_2 ?_
  refine g_i2l X dX13_coins_5 ?_
  exact g_lret X hr dX13_coins_6 (Option.some.inj h)
def b_X13_meanHardness_0  (D : DD) : Option ((Nat × List Int32 × DD) ⊕ RT) := (cI (S_X13_opened D) (fun r3 D2 => (if ((36 : Int32) - r3) = 0 then some (.inl (1, [((36 : Int32) - r3), (0 : Int32), (0 : Int32)], (setI D2 140 (1 : Int32)))) else some (.inl (1, [((36 : Int32) - r3), (0 : Int32), (0 : Int32)], (setI D2 140 (0 : Int32)))))))
def b_X13_meanHardness_1 (x1 : Int32) (x2 : Int32) (x3 : Int32) (D : DD) : Option ((Nat × List Int32 × DD) ⊕ RT) := (if (36 : Int32) ≤ x3 then (if (D.1 140) = 0 then (if (FP.ddiv (FP.i2d x2) (FP.i2d x1)) &&& 0x7fffffffffffffff ≤ 0x7ff0000000000000 then some (.inr (0, some (.double (FP.ddiv (FP.i2d x2) (FP.i2d x1))), D)) else none) else some (.inr (0, some (.double FP.dconst0), D))) else (cI (S_X13_hard x3 D) (fun r9 D8 => some (.inl (1, [x1, (x2 + r9), (x3 + (1 : Int32))], D8)))))
def T_X13_meanHardness (k : Nat) (ls : List Int32) (D : DD) : Option ((Nat × List Int32 × DD) ⊕ RT) := match k, ls with
  | 0, [] => b_X13_meanHardness_0  D
  | 1, [x1, x2, x3] => b_X13_meanHardness_1 x1 x2 x3 D
  | _, _ => none
def S_X13_meanHardness  (D : DD) : Option RT := run T_X13_meanHardness FUEL 0 [] D
def hg_X13_meanHardness (p : Program) (l : Launch) (e : Env) (s : State) (m : MethodId) (args : Array Value) (below : List Frame) (meth : Method) (c : Code) (G : va_G) (E : EE) (r : RT) (k : Nat) (ls : List Int32) (D : DD) : Prop := match k, ls with
  | 0, [] => GW p l e (rmm 2) s m args below meth c G E 4 (MQ below (QR G E s.heap.size r) args s 0 0 (fr E s.heap.size)) 0 0 D 0 [(0, .ref (E.1 84))] []
  | 1, [x1, x2, x3] => GW p l e (rmm 2) s m args below meth c G E 4 (MQ below (QR G E s.heap.size r) args s 0 0 (fr E s.heap.size)) 0 0 D 25 [(0, .ref (E.1 84)), (1, .int x1), (2, .int x2), (3, .int x3)] []
  | _, _ => True
set_option maxRecDepth 100000 in
set_option maxHeartbeats 4000000 in
theorem bl_X13_meanHardness_0 {p : Program} {l : Launch} {e : Env} {s : State} {m : MethodId} {args : Array Value} {below : List Frame} {meth : Method} {c : Code} {G : va_G} {E : EE} {r : RT} (X : CX p s m args meth c cX13_meanHardness RX13 4 G E) (hr : meth.sig.returnType = (some .double))  (D : DD) (o : (Nat × List Int32 × DD) ⊕ RT) (h : b_X13_meanHardness_0  D = some o) (h1 : ∀ x, o = .inl x → hg_X13_meanHardness p l e s m args below meth c G E r x.1 x.2.1 x.2.2) (h2 : ∀ x, o = .inr x → x = r) : GW p l e (rmm 2) s m args below meth c G E 4 (MQ below (QR G E s.heap.size r) args s 0 0 (fr E s.heap.size)) 0 0 D 0 [(0, .ref (E.1 84))] [] := by
  unfold b_X13_meanHardness_0 at h
  refine g_bipush X (v := (36 : Int32)) dX13_meanHardness_0 (by decide) ?_
  refine g_aload_n X 0 (i0 := 0) dX13_meanHardness_2 rfl rfl ?_
  obtain ⟨r3, D2, e1, h⟩ := cI_s h
  refine g_V X (As := []) (rest := [.int (36 : Int32)]) (c_X13_opened l G E  _ _ e1) 84 (wg_84 E _) rfl rfl kv_X13_114 ⟨rfl, rfl⟩ ⟨rfl, hd_X13_opened⟩ (⟨Nat.le_of_ble_eq_true rfl, Nat.le_of_ble_eq_true rfl⟩) rfl rfl (Nat.le_of_ble_eq_true rfl) dX13_meanHardness_3 ?_
  refine g_isub X dX13_meanHardness_6 ?_
  refine g_istore_n X (i0 := 1) (lv' := [(1, .int ((36 : Int32) - r3)), (0, .ref (E.1 84))]) dX13_meanHardness_7 rfl (by decide) rfl ?_
  refine g_iconst X (v := (0 : Int32)) dX13_meanHardness_8 (by decide) ?_
  refine g_istore_n X (i0 := 2) (lv' := [(2, .int (0 : Int32)), (1, .int ((36 : Int32) - r3)), (0, .ref (E.1 84))]) dX13_meanHardness_9 rfl (by decide) rfl ?_
  refine g_aload_n X 2 (i0 := 0) dX13_meanHardness_10 rfl rfl ?_
  refine g_iload_n X 1 (i0 := 1) dX13_meanHardness_11 rfl rfl ?_
  refine g_if_ne X (tgt := 19) dX13_meanHardness_12 (by decide) (fun c4 => ?_) (fun c4 => ?_)
  · have h := (ite_s h).2 c4
    refine g_iconst X (v := (0 : Int32)) dX13_meanHardness_19 (by decide) ?_
    refine g_put X (D := D2) (v := .int (0 : Int32)) (T := TX13) (D' := (setI D2 140 (0 : Int32))) 84 uX13 tyX13 tyX13_ok nmX13 (wg_84 E _) rfl 0 (by decide) fl_X13_59 rfl rfl rfl rfl (Nat.le_of_ble_eq_true rfl) (ws_I_140 E _ _) dX13_meanHardness_20 ?_
    refine g_iconst X (v := (0 : Int32)) dX13_meanHardness_23 (by decide) ?_
    refine g_istore_n X (i0 := 3) (lv' := [(3, .int (0 : Int32)), (2, .int (0 : Int32)), (1, .int ((36 : Int32) - r3)), (0, .ref (E.1 84))]) dX13_meanHardness_24 rfl (by decide) rfl ?_
    refine g_sub (lv' := [(0, .ref (E.1 84)), (1, .int ((36 : Int32) - r3)), (2, .int (0 : Int32)), (3, .int (0 : Int32))]) [3, 2, 1, 0] rfl ?_
    exact h1 _ (Option.some.inj h).symm
  · have h := (ite_s h).1 c4
    refine g_iconst X (v := (1 : Int32)) dX13_meanHardness_15 (by decide) ?_
    refine g_goto X (tgt := 20) dX13_meanHardness_16 (by decide) ?_
    refine g_put X (D := D2) (v := .int (1 : Int32)) (T := TX13) (D' := (setI D2 140 (1 : Int32))) 84 uX13 tyX13 tyX13_ok nmX13 (wg_84 E _) rfl 0 (by decide) fl_X13_59 rfl rfl rfl rfl (Nat.le_of_ble_eq_true rfl) (ws_I_140 E _ _) dX13_meanHardness_20 ?_
    refine g_iconst X (v := (0 : Int32)) dX13_meanHardness_23 (by decide) ?_
    refine g_istore_n X (i0 := 3) (lv' := [(3, .int (0 : Int32)), (2, .int (0 : Int32)), (1, .int ((36 : Int32) - r3)), (0, .ref (E.1 84))]) dX13_meanHardness_24 rfl (by decide) rfl ?_
    refine g_sub (lv' := [(0, .ref (E.1 84)), (1, .int ((36 : Int32) - r3)), (2, .int (0 : Int32)), (3, .int (0 : Int32))]) [3, 2, 1, 0] rfl ?_
    exact h1 _ (Option.some.inj h).symm
set_option maxRecDepth 100000 in
set_option maxHeartbeats 4000000 in
theorem bl_X13_meanHardness_1 {p : Program} {l : Launch} {e : Env} {s : State} {m : MethodId} {args : Array Value} {below : List Frame} {meth : Method} {c : Code} {G : va_G} {E : EE} {r : RT} (X : CX p s m args meth c cX13_meanHardness RX13 4 G E) (hr : meth.sig.returnType = (some .double)) (x1 : Int32) (x2 : Int32) (x3 : Int32) (D : DD) (o : (Nat × List Int32 × DD) ⊕ RT) (h : b_X13_meanHardness_1 x1 x2 x3 D = some o) (h1 : ∀ x, o = .inl x → hg_X13_meanHardness p l e s m args below meth c G E r x.1 x.2.1 x.2.2) (h2 : ∀ x, o = .inr x → x = r) : GW p l e (rmm 2) s m args below meth c G E 4 (MQ below (QR G E s.heap.size r) args s 0 0 (fr E s.heap.size)) 0 0 D 25 [(0, .ref (E.1 84)), (1, .int x1), (2, .int x2), (3, .int x3)] [] := by
  unfold b_X13_meanHardness_1 at h
  refine g_iload_n X 3 (i0 := 3) dX13_meanHardness_25 rfl rfl ?_
  refine g_bipush X (v := (36 : Int32)) dX13_meanHardness_26 (by decide) ?_
  refine g_icmp_ge X (tgt := 45) dX13_meanHardness_28 (by decide) (fun c10 => ?_) (fun c10 => ?_)
  · have h := (ite_s h).1 c10
    refine g_aload_n X 0 (i0 := 0) dX13_meanHardness_45 rfl rfl ?_
    refine g_get X (D := D) (v := .int (D.1 140)) (T := TX13) 84 uX13 (wg_84 E _) rfl 0 (by decide) fl_X13_59 rfl rfl dX13_meanHardness_46 ?_
    refine g_if_ne X (tgt := 60) dX13_meanHardness_49 (by decide) (fun c6 => ?_) (fun c6 => ?_)
    · have h := (ite_s h).2 c6
      refine g_dconst0 X dX13_meanHardness_60 ?_
      exact g_dret X hr dX13_meanHardness_61 (h2 _ (Option.some.inj h).symm)
    · have h := (ite_s h).1 c6
      refine g_iload_n X 2 (i0 := 2) dX13_meanHardness_52 rfl rfl ?_
      refine g_i2d X dX13_meanHardness_53 ?_
      refine g_iload_n X 1 (i0 := 1) dX13_meanHardness_54 rfl rfl ?_
      refine g_i2d X dX13_meanHardness_55 ?_
      obtain ⟨v5, h⟩ := chk_s h
      refine g_ddiv X v5 dX13_meanHardness_56 ?_
      refine g_goto X (tgt := 61) dX13_meanHardness_57 (by decide) ?_
      exact g_dret X hr dX13_meanHardness_61 (h2 _ (Option.some.inj h).symm)
  · have h := (ite_s h).2 c10
    refine g_iload_n X 2 (i0 := 2) dX13_meanHardness_31 rfl rfl ?_
    refine g_aload_n X 0 (i0 := 0) dX13_meanHardness_32 rfl rfl ?_
    refine g_iload_n X 3 (i0 := 3) dX13_meanHardness_33 rfl rfl ?_
    obtain ⟨r9, D8, e7, h⟩ := cI_s h
    refine g_V X (As := [.int x3]) (rest := [.int x2]) (c_X13_hard l G E x3 _ _ e7) 84 (wg_84 E _) rfl rfl kv_X13_88 ⟨rfl, rfl⟩ ⟨rfl, hd_X13_hard⟩ (⟨Nat.le_of_ble_eq_true rfl, Nat.le_of_ble_eq_true rfl⟩) rfl rfl (Nat.le_of_ble_eq_true rfl) dX13_meanHardness_34 ?_
    refine g_iadd X dX13_meanHardness_37 ?_
    refine g_istore_n X (i0 := 2) (lv' := [(2, .int (x2 + r9)), (0, .ref (E.1 84)), (1, .int x1), (3, .int x3)]) dX13_meanHardness_38 rfl (by decide) rfl ?_
    refine g_iinc X 3 (v := (x3 + (1 : Int32))) (lv' := [(3, .int (x3 + (1 : Int32))), (2, .int (x2 + r9)), (0, .ref (E.1 84)), (1, .int x1)]) dX13_meanHardness_39 rfl rfl (by decide) rfl ?_
    refine g_goto X (tgt := 25) dX13_meanHardness_42 (by decide) ?_
    refine g_sub (lv' := [(0, .ref (E.1 84)), (1, .int x1), (2, .int (x2 + r9)), (3, .int (x3 + (1 : Int32)))]) [2, 3, 1, 0] rfl ?_
    exact h1 _ (Option.some.inj h).symm
set_option maxRecDepth 100000 in
set_option maxHeartbeats 4000000 in
theorem c_X13_meanHardness (l : Launch) (G : va_G) (E : EE)  (D : DD) (r : RT) (h : S_X13_meanHardness  D = some r) : MM l G E yX13_meanHardness cX13_meanHardness 4 (some .double) (rmm 2) [.ref (E.1 84)] D r := by
  unfold S_X13_meanHardness at h
  refine m_of rfl (Nat.le_of_ble_eq_true rfl) ?_
  intro p e s m args below meth c X hr
  exact run_G (T := T_X13_meanHardness) (HG := hg_X13_meanHardness p l e s m args below meth c G E r) (by
    intro k ls D o hT h1 h2
    unfold T_X13_meanHardness at hT
    split at hT
    · exact bl_X13_meanHardness_0 X hr  D o hT h1 h2
    · exact bl_X13_meanHardness_1 X hr _ _ _ D o hT h1 h2
    · cases hT) FUEL 0 [] D h
theorem wkf_X13_204 : Cond.constantFloat RX13 204 (1108344832 : UInt32) ∈ UT := ut 1722 (by decide +kernel) (by decide +kernel)
def S_X13_openShare  (D : DD) : Option RT := (cI (S_X13_opened (setI D 140 (0 : Int32))) (fun r3 D2 => (if (FP.fdiv (FP.i2f r3) (1108344832 : UInt32)) &&& 0x7fffffff ≤ 0x7f800000 then some (0, some (.float (FP.fdiv (FP.i2f r3) (1108344832 : UInt32))), D2) else none)))
set_option maxRecDepth 100000 in
set_option maxHeartbeats 4000000 in
theorem c_X13_openShare (l : Launch) (G : va_G) (E : EE)  (D : DD) (r : RT) (h : S_X13_openShare  D = some r) : MM l G E yX13_openShare cX13_openShare 1 (some .float) (rmm 2) [.ref (E.1 84)] D r := by
  refine m_of rfl (Nat.le_of_ble_eq_true rfl) ?_
  intro p e s m args below meth c X hr
  unfold S_X13_openShare at h
  refine g_aload_n X 0 (i0 := 0) dX13_openShare_0 rfl rfl ?_
  refine g_iconst X (v := (0 : Int32)) dX13_openShare_1 (by decide) ?_
  refine g_put X (D := D) (v := .int (0 : Int32)) (T := TX13) (D' := (setI D 140 (0 : Int32))) 84 uX13 tyX13 tyX13_ok nmX13 (wg_84 E _) rfl 0 (by decide) fl_X13_59 rfl rfl rfl rfl (Nat.le_of_ble_eq_true rfl) (ws_I_140 E _ _) dX13_openShare_2 ?_
  refine g_aload_n X 0 (i0 := 0) dX13_openShare_5 rfl rfl ?_
  obtain ⟨r3, D2, e1, h⟩ := cI_s h
  refine g_V X (As := []) (rest := []) (c_X13_opened l G E  _ _ e1) 84 (wg_84 E _) rfl rfl kv_X13_114 ⟨rfl, rfl⟩ ⟨rfl, hd_X13_opened⟩ (⟨Nat.le_of_ble_eq_true rfl, Nat.le_of_ble_eq_true rfl⟩) rfl rfl (Nat.le_of_ble_eq_true rfl) dX13_openShare_6 ?_
  refine g_i2f X dX13_openShare_9 ?_
  refine g_ldcf X (v := (1108344832 : UInt32)) wkf_X13_204 dX13_openShare_10 ?_
  obtain ⟨v4, h⟩ := chk_s h
  refine g_fdiv X v4 dX13_openShare_12 ?_
  exact g_fret X hr dX13_openShare_13 (Option.some.inj h)
theorem fl_X13_205 : Cond.fieldLink RX13 205 "StoneQuarryModel" "lineN" "I" ∈ UT := ut 1372 (by decide +kernel) (by decide +kernel)
theorem fl_X13_47 : Cond.fieldLink RX13 47 "StoneQuarryModel" "line" "[I" ∈ UT := ut 1365 (by decide +kernel) (by decide +kernel)
theorem wg_95 (E : EE) (D : DD) : (wd E D)[95]? = some (E.1 95, .inl (E.2 0, 20, .inl (D.2.2.1 80))) := rfl
theorem ws_A_80 (E : EE) (D : DD) (f : Nat → Int32) : (wd E D).set 95 (E.1 95, .inl (E.2 0, 20, .inl f)) = wd E (setA D 80 f) := rfl
theorem ws_I_148 (E : EE) (D : DD) (v : Int32) : (wd E D).set 84 (E.1 84, .inr (13, [.int (D.1 140), .int (D.1 141), .int (D.1 142), .int (D.1 143), .int (D.1 144), .ref (E.1 85), .ref (E.1 86), .ref (E.1 87), .ref (E.1 88), .ref (E.1 89), .ref (E.1 90), .ref (E.1 91), .ref (E.1 92), .ref (E.1 93), .ref (E.1 94), .ref (E.1 95), .ref (E.1 96), .ref (E.1 97), .ref (E.1 98), .int (D.1 145), .int (D.1 146), .int (D.1 147), .int v, .int (D.1 149), .int (D.1 150)])) = wd E (setI D 148 v) := rfl
def b_X13_writeRow_0 (a0 : Int32) (D : DD) : Option ((Nat × List Int32 × DD) ⊕ RT) := (cI (S_X13_isIn a0 (0 : Int32) (5 : Int32) D) (fun r3 D2 => (if r3 = 0 then (if (1 : Int32) = 0 then some (.inl (1, [a0, (0 : Int32)], (setI (setI D2 140 (1 : Int32)) 148 (6 : Int32)))) else some (.inr (0, some (.int (0 : Int32)), (setI D2 140 (1 : Int32))))) else (if (0 : Int32) = 0 then some (.inl (1, [a0, (0 : Int32)], (setI (setI D2 140 (0 : Int32)) 148 (6 : Int32)))) else some (.inr (0, some (.int (0 : Int32)), (setI D2 140 (0 : Int32))))))))
def b_X13_writeRow_1 (x1 : Int32) (x2 : Int32) (D : DD) : Option ((Nat × List Int32 × DD) ⊕ RT) := (if (6 : Int32) ≤ x2 then some (.inr (0, some (.int (D.1 148)), D)) else (cI (S_X13_cell x1 x2 D) (fun r9 D8 => (cI (S_X13_chargeIn r9 D8) (fun r12 D11 => (if r12 < 0 then (cI (S_X13_hard r9 D11) (fun r15 D14 => (if r15 = 0 then (if inB x2 20 = true then some (.inl (1, [x1, (x2 + (1 : Int32))], (setA D14 80 (upd (D14.2.2.1 80) x2.toNatClampNeg (46 : Int32))))) else none) else (cI (S_X13_hard r9 D14) (fun r18 D17 => (if inB x2 20 = true then some (.inl (1, [x1, (x2 + (1 : Int32))], (setA D17 80 (upd (D17.2.2.1 80) x2.toNatClampNeg ((48 : Int32) + r18))))) else none)))))) else (if inB x2 20 = true then some (.inl (1, [x1, (x2 + (1 : Int32))], (setA D11 80 (upd (D11.2.2.1 80) x2.toNatClampNeg (42 : Int32))))) else none)))))))
def T_X13_writeRow (k : Nat) (ls : List Int32) (D : DD) : Option ((Nat × List Int32 × DD) ⊕ RT) := match k, ls with
  | 0, [a0] => b_X13_writeRow_0 a0 D
  | 1, [x1, x2] => b_X13_writeRow_1 x1 x2 D
  | _, _ => none
def S_X13_writeRow (a0 : Int32) (D : DD) : Option RT := run T_X13_writeRow FUEL 0 [a0] D
def hg_X13_writeRow (p : Program) (l : Launch) (e : Env) (s : State) (m : MethodId) (args : Array Value) (below : List Frame) (meth : Method) (c : Code) (G : va_G) (E : EE) (r : RT) (k : Nat) (ls : List Int32) (D : DD) : Prop := match k, ls with
  | 0, [a0] => GW p l e (rmm 2) s m args below meth c G E 4 (MQ below (QR G E s.heap.size r) args s 0 0 (fr E s.heap.size)) 0 0 D 0 [(0, .ref (E.1 84)), (1, .int a0)] []
  | 1, [x1, x2] => GW p l e (rmm 2) s m args below meth c G E 4 (MQ below (QR G E s.heap.size r) args s 0 0 (fr E s.heap.size)) 0 0 D 35 [(0, .ref (E.1 84)), (1, .int x1), (2, .int x2)] []
  | _, _ => True
set_option maxRecDepth 100000 in
set_option maxHeartbeats 4000000 in
theorem bl_X13_writeRow_0 {p : Program} {l : Launch} {e : Env} {s : State} {m : MethodId} {args : Array Value} {below : List Frame} {meth : Method} {c : Code} {G : va_G} {E : EE} {r : RT} (X : CX p s m args meth c cX13_writeRow RX13 4 G E) (hr : meth.sig.returnType = (some .int)) (a0 : Int32) (D : DD) (o : (Nat × List Int32 × DD) ⊕ RT) (h : b_X13_writeRow_0 a0 D = some o) (h1 : ∀ x, o = .inl x → hg_X13_writeRow p l e s m args below meth c G E r x.1 x.2.1 x.2.2) (h2 : ∀ x, o = .inr x → x = r) : GW p l e (rmm 2) s m args below meth c G E 4 (MQ below (QR G E s.heap.size r) args s 0 0 (fr E s.heap.size)) 0 0 D 0 [(0, .ref (E.1 84)), (1, .int a0)] [] := by
  unfold b_X13_writeRow_0 at h
  refine g_aload_n X 0 (i0 := 0) dX13_writeRow_0 rfl rfl ?_
  refine g_iload_n X 1 (i0 := 1) dX13_writeRow_1 rfl rfl ?_
  refine g_iconst X (v := (0 : Int32)) dX13_writeRow_2 (by decide) ?_
  refine g_iconst X (v := (5 : Int32)) dX13_writeRow_3 (by decide) ?_
  obtain ⟨r3, D2, e1, h⟩ := cI_s h
  refine g_S X (As := [.int a0, .int (0 : Int32), .int (5 : Int32)]) (rest := [.ref (E.1 84)]) (c_X13_isIn l G E a0 (0 : Int32) (5 : Int32) _ _ e1) ks_X13_69 ⟨rfl, rfl⟩ hd_X13_isIn (⟨Nat.le_of_ble_eq_true rfl, Nat.le_of_ble_eq_true rfl⟩) rfl rfl (Nat.le_of_ble_eq_true rfl) dX13_writeRow_4 ?_
  refine g_if_eq X (tgt := 14) dX13_writeRow_7 (by decide) (fun c6 => ?_) (fun c6 => ?_)
  · have h := (ite_s h).1 c6
    refine g_iconst X (v := (1 : Int32)) dX13_writeRow_14 (by decide) ?_
    refine g_put X (D := D2) (v := .int (1 : Int32)) (T := TX13) (D' := (setI D2 140 (1 : Int32))) 84 uX13 tyX13 tyX13_ok nmX13 (wg_84 E _) rfl 0 (by decide) fl_X13_59 rfl rfl rfl rfl (Nat.le_of_ble_eq_true rfl) (ws_I_140 E _ _) dX13_writeRow_15 ?_
    refine g_aload_n X 0 (i0 := 0) dX13_writeRow_18 rfl rfl ?_
    refine g_get X (D := (setI D2 140 (1 : Int32))) (v := .int (1 : Int32)) (T := TX13) 84 uX13 (wg_84 E _) rfl 0 (by decide) fl_X13_59 rfl rfl dX13_writeRow_19 ?_
    refine g_if_eq X (tgt := 27) dX13_writeRow_22 (by decide) (fun c4 => ?_) (fun c4 => ?_)
    · have h := (ite_s h).1 c4
      refine g_aload_n X 0 (i0 := 0) dX13_writeRow_27 rfl rfl ?_
      refine g_bipush X (v := (6 : Int32)) dX13_writeRow_28 (by decide) ?_
      refine g_put X (D := (setI D2 140 (1 : Int32))) (v := .int (6 : Int32)) (T := TX13) (D' := (setI (setI D2 140 (1 : Int32)) 148 (6 : Int32))) 84 uX13 tyX13 tyX13_ok nmX13 (wg_84 E _) rfl 22 (by decide) fl_X13_205 rfl rfl rfl rfl (Nat.le_of_ble_eq_true rfl) (ws_I_148 E _ _) dX13_writeRow_30 ?_
      refine g_iconst X (v := (0 : Int32)) dX13_writeRow_33 (by decide) ?_
      refine g_istore_n X (i0 := 2) (lv' := [(2, .int (0 : Int32)), (0, .ref (E.1 84)), (1, .int a0)]) dX13_writeRow_34 rfl (by decide) rfl ?_
      refine g_sub (lv' := [(0, .ref (E.1 84)), (1, .int a0), (2, .int (0 : Int32))]) [1, 2, 0] rfl ?_
      exact h1 _ (Option.some.inj h).symm
    · have h := (ite_s h).2 c4
      refine g_iconst X (v := (0 : Int32)) dX13_writeRow_25 (by decide) ?_
      exact g_iret X hr rfl dX13_writeRow_26 (h2 _ (Option.some.inj h).symm)
  · have h := (ite_s h).2 c6
    refine g_iconst X (v := (0 : Int32)) dX13_writeRow_10 (by decide) ?_
    refine g_goto X (tgt := 15) dX13_writeRow_11 (by decide) ?_
    refine g_put X (D := D2) (v := .int (0 : Int32)) (T := TX13) (D' := (setI D2 140 (0 : Int32))) 84 uX13 tyX13 tyX13_ok nmX13 (wg_84 E _) rfl 0 (by decide) fl_X13_59 rfl rfl rfl rfl (Nat.le_of_ble_eq_true rfl) (ws_I_140 E _ _) dX13_writeRow_15 ?_
    refine g_aload_n X 0 (i0 := 0) dX13_writeRow_18 rfl rfl ?_
    refine g_get X (D := (setI D2 140 (0 : Int32))) (v := .int (0 : Int32)) (T := TX13) 84 uX13 (wg_84 E _) rfl 0 (by decide) fl_X13_59 rfl rfl dX13_writeRow_19 ?_
    refine g_if_eq X (tgt := 27) dX13_writeRow_22 (by decide) (fun c5 => ?_) (fun c5 => ?_)
    · have h := (ite_s h).1 c5
      refine g_aload_n X 0 (i0 := 0) dX13_writeRow_27 rfl rfl ?_
      refine g_bipush X (v := (6 : Int32)) dX13_writeRow_28 (by decide) ?_
      refine g_put X (D := (setI D2 140 (0 : Int32))) (v := .int (6 : Int32)) (T := TX13) (D' := (setI (setI D2 140 (0 : Int32)) 148 (6 : Int32))) 84 uX13 tyX13 tyX13_ok nmX13 (wg_84 E _) rfl 22 (by decide) fl_X13_205 rfl rfl rfl rfl (Nat.le_of_ble_eq_true rfl) (ws_I_148 E _ _) dX13_writeRow_30 ?_
      refine g_iconst X (v := (0 : Int32)) dX13_writeRow_33 (by decide) ?_
      refine g_istore_n X (i0 := 2) (lv' := [(2, .int (0 : Int32)), (0, .ref (E.1 84)), (1, .int a0)]) dX13_writeRow_34 rfl (by decide) rfl ?_
      refine g_sub (lv' := [(0, .ref (E.1 84)), (1, .int a0), (2, .int (0 : Int32))]) [1, 2, 0] rfl ?_
      exact h1 _ (Option.some.inj h).symm
    · have h := (ite_s h).2 c5
      refine g_iconst X (v := (0 : Int32)) dX13_writeRow_25 (by decide) ?_
      exact g_iret X hr rfl dX13_writeRow_26 (h2 _ (Option.some.inj h).symm)
set_option maxRecDepth 100000 in
set_option maxHeartbeats 4000000 in
theorem bl_X13_writeRow_1 {p : Program} {l : Launch} {e : Env} {s : State} {m : MethodId} {args : Array Value} {below : List Frame} {meth : Method} {c : Code} {G : va_G} {E : EE} {r : RT} (X : CX p s m args meth c cX13_writeRow RX13 4 G E) (hr : meth.sig.returnType = (some .int)) (x1 : Int32) (x2 : Int32) (D : DD) (o : (Nat × List Int32 × DD) ⊕ RT) (h : b_X13_writeRow_1 x1 x2 D = some o) (h1 : ∀ x, o = .inl x → hg_X13_writeRow p l e s m args below meth c G E r x.1 x.2.1 x.2.2) (h2 : ∀ x, o = .inr x → x = r) : GW p l e (rmm 2) s m args below meth c G E 4 (MQ below (QR G E s.heap.size r) args s 0 0 (fr E s.heap.size)) 0 0 D 35 [(0, .ref (E.1 84)), (1, .int x1), (2, .int x2)] [] := by
  unfold b_X13_writeRow_1 at h
  refine g_iload_n X 2 (i0 := 2) dX13_writeRow_35 rfl rfl ?_
  refine g_bipush X (v := (6 : Int32)) dX13_writeRow_36 (by decide) ?_
  refine g_icmp_ge X (tgt := 93) dX13_writeRow_38 (by decide) (fun c24 => ?_) (fun c24 => ?_)
  · have h := (ite_s h).1 c24
    refine g_aload_n X 0 (i0 := 0) dX13_writeRow_93 rfl rfl ?_
    refine g_get X (D := D) (v := .int (D.1 148)) (T := TX13) 84 uX13 (wg_84 E _) rfl 22 (by decide) fl_X13_205 rfl rfl dX13_writeRow_94 ?_
    exact g_iret X hr rfl dX13_writeRow_97 (h2 _ (Option.some.inj h).symm)
  · have h := (ite_s h).2 c24
    refine g_iload_n X 1 (i0 := 1) dX13_writeRow_41 rfl rfl ?_
    refine g_iload_n X 2 (i0 := 2) dX13_writeRow_42 rfl rfl ?_
    obtain ⟨r9, D8, e7, h⟩ := cI_s h
    refine g_S X (As := [.int x1, .int x2]) (rest := []) (c_X13_cell l G E x1 x2 _ _ e7) ks_X13_84 ⟨rfl, rfl⟩ hd_X13_cell (⟨Nat.le_of_ble_eq_true rfl, Nat.le_of_ble_eq_true rfl⟩) rfl rfl (Nat.le_of_ble_eq_true rfl) dX13_writeRow_43 ?_
    refine g_istore_n X (i0 := 3) (lv' := [(3, .int r9), (0, .ref (E.1 84)), (1, .int x1), (2, .int x2)]) dX13_writeRow_46 rfl (by decide) rfl ?_
    refine g_aload_n X 1 (i0 := 0) dX13_writeRow_47 rfl rfl ?_
    refine g_get X (D := D8) (v := .ref (E.1 95)) (T := TX13) 84 uX13 (wg_84 E _) rfl 15 (by decide) fl_X13_47 rfl rfl dX13_writeRow_48 ?_
    refine g_iload_n X 3 (i0 := 2) dX13_writeRow_51 rfl rfl ?_
    refine g_aload_n X 1 (i0 := 0) dX13_writeRow_52 rfl rfl ?_
    refine g_iload_n X 0 (i0 := 3) dX13_writeRow_53 rfl rfl ?_
    obtain ⟨r12, D11, e10, h⟩ := cI_s h
    refine g_V X (As := [.int r9]) (rest := [.int x2, .ref (E.1 95)]) (c_X13_chargeIn l G E r9 _ _ e10) 84 (wg_84 E _) rfl rfl kv_X13_104 ⟨rfl, rfl⟩ ⟨rfl, hd_X13_chargeIn⟩ (⟨Nat.le_of_ble_eq_true rfl, Nat.le_of_ble_eq_true rfl⟩) rfl rfl (Nat.le_of_ble_eq_true rfl) dX13_writeRow_54 ?_
    refine g_if_lt X (tgt := 65) dX13_writeRow_57 (by decide) (fun c23 => ?_) (fun c23 => ?_)
    · have h := (ite_s h).1 c23
      refine g_aload_n X 1 (i0 := 0) dX13_writeRow_65 rfl rfl ?_
      refine g_iload_n X 0 (i0 := 3) dX13_writeRow_66 rfl rfl ?_
      obtain ⟨r15, D14, e13, h⟩ := cI_s h
      refine g_V X (As := [.int r9]) (rest := [.int x2, .ref (E.1 95)]) (c_X13_hard l G E r9 _ _ e13) 84 (wg_84 E _) rfl rfl kv_X13_88 ⟨rfl, rfl⟩ ⟨rfl, hd_X13_hard⟩ (⟨Nat.le_of_ble_eq_true rfl, Nat.le_of_ble_eq_true rfl⟩) rfl rfl (Nat.le_of_ble_eq_true rfl) dX13_writeRow_67 ?_
      refine g_if_ne X (tgt := 78) dX13_writeRow_70 (by decide) (fun c21 => ?_) (fun c21 => ?_)
      · have h := (ite_s h).2 c21
        refine g_bipush X (v := (48 : Int32)) dX13_writeRow_78 (by decide) ?_
        refine g_aload_n X 1 (i0 := 0) dX13_writeRow_80 rfl rfl ?_
        refine g_iload_n X 0 (i0 := 3) dX13_writeRow_81 rfl rfl ?_
        obtain ⟨r18, D17, e16, h⟩ := cI_s h
        refine g_V X (As := [.int r9]) (rest := [.int (48 : Int32), .int x2, .ref (E.1 95)]) (c_X13_hard l G E r9 _ _ e16) 84 (wg_84 E _) rfl rfl kv_X13_88 ⟨rfl, rfl⟩ ⟨rfl, hd_X13_hard⟩ (⟨Nat.le_of_ble_eq_true rfl, Nat.le_of_ble_eq_true rfl⟩) rfl rfl (Nat.le_of_ble_eq_true rfl) dX13_writeRow_82 ?_
        refine g_iadd X dX13_writeRow_85 ?_
        obtain ⟨b19, h⟩ := chk_s h
        refine g_iast X (D := D17) (f := (D17.2.2.1 80)) (i := x2) (x := ((48 : Int32) + r18)) (D' := (setA D17 80 (upd (D17.2.2.1 80) x2.toNatClampNeg ((48 : Int32) + r18)))) 95 (wg_95 E _) (inB_vp b19) (ws_A_80 E _ _) dX13_writeRow_86 ?_
        refine g_iinc X 3 (v := (x2 + (1 : Int32))) (lv' := [(2, .int (x2 + (1 : Int32))), (3, .int r9), (0, .ref (E.1 84)), (1, .int x1)]) dX13_writeRow_87 rfl rfl (by decide) rfl ?_
        refine g_goto X (tgt := 35) dX13_writeRow_90 (by decide) ?_
        refine g_sub (lv' := [(0, .ref (E.1 84)), (1, .int x1), (2, .int (x2 + (1 : Int32)))]) [2, 3, 0] rfl ?_
        exact h1 _ (Option.some.inj h).symm
      · have h := (ite_s h).1 c21
        refine g_bipush X (v := (46 : Int32)) dX13_writeRow_73 (by decide) ?_
        refine g_goto X (tgt := 86) dX13_writeRow_75 (by decide) ?_
        obtain ⟨b20, h⟩ := chk_s h
        refine g_iast X (D := D14) (f := (D14.2.2.1 80)) (i := x2) (x := (46 : Int32)) (D' := (setA D14 80 (upd (D14.2.2.1 80) x2.toNatClampNeg (46 : Int32)))) 95 (wg_95 E _) (inB_vp b20) (ws_A_80 E _ _) dX13_writeRow_86 ?_
        refine g_iinc X 3 (v := (x2 + (1 : Int32))) (lv' := [(2, .int (x2 + (1 : Int32))), (3, .int r9), (0, .ref (E.1 84)), (1, .int x1)]) dX13_writeRow_87 rfl rfl (by decide) rfl ?_
        refine g_goto X (tgt := 35) dX13_writeRow_90 (by decide) ?_
        refine g_sub (lv' := [(0, .ref (E.1 84)), (1, .int x1), (2, .int (x2 + (1 : Int32)))]) [2, 3, 0] rfl ?_
        exact h1 _ (Option.some.inj h).symm
    · have h := (ite_s h).2 c23
      refine g_bipush X (v := (42 : Int32)) dX13_writeRow_60 (by decide) ?_
      refine g_goto X (tgt := 86) dX13_writeRow_62 (by decide) ?_
      obtain ⟨b22, h⟩ := chk_s h
      refine g_iast X (D := D11) (f := (D11.2.2.1 80)) (i := x2) (x := (42 : Int32)) (D' := (setA D11 80 (upd (D11.2.2.1 80) x2.toNatClampNeg (42 : Int32)))) 95 (wg_95 E _) (inB_vp b22) (ws_A_80 E _ _) dX13_writeRow_86 ?_
      refine g_iinc X 3 (v := (x2 + (1 : Int32))) (lv' := [(2, .int (x2 + (1 : Int32))), (3, .int r9), (0, .ref (E.1 84)), (1, .int x1)]) dX13_writeRow_87 rfl rfl (by decide) rfl ?_
      refine g_goto X (tgt := 35) dX13_writeRow_90 (by decide) ?_
      refine g_sub (lv' := [(0, .ref (E.1 84)), (1, .int x1), (2, .int (x2 + (1 : Int32)))]) [2, 3, 0] rfl ?_
      exact h1 _ (Option.some.inj h).symm
set_option maxRecDepth 100000 in
set_option maxHeartbeats 4000000 in
theorem c_X13_writeRow (l : Launch) (G : va_G) (E : EE) (a0 : Int32) (D : DD) (r : RT) (h : S_X13_writeRow a0 D = some r) : MM l G E yX13_writeRow cX13_writeRow 4 (some .int) (rmm 2) [.ref (E.1 84), .int a0] D r := by
  unfold S_X13_writeRow at h
  refine m_of rfl (Nat.le_of_ble_eq_true rfl) ?_
  intro p e s m args below meth c X hr
  exact run_G (T := T_X13_writeRow) (HG := hg_X13_writeRow p l e s m args below meth c G E r) (by
    intro k ls D o hT h1 h2
    unfold T_X13_writeRow at hT
    split at hT
    · exact bl_X13_writeRow_0 X hr _ D o hT h1 h2
    · exact bl_X13_writeRow_1 X hr _ _ D o hT h1 h2
    · cases hT) FUEL 0 [a0] D h
def S_X13_writeCharge (a0 : Int32) (D : DD) : Option RT := (cI (S_X13_looks a0 D) (fun r3 D2 => (if r3 = 0 then some (0, some (.int (0 : Int32)), D2) else (cI (S_X13_placeOf a0 (setA (setA (setI D2 148 (7 : Int32)) 80 (upd (D2.2.2.1 80) (0 : Int32).toNatClampNeg ((48 : Int32) + a0))) 80 (upd (upd (D2.2.2.1 80) (0 : Int32).toNatClampNeg ((48 : Int32) + a0)) (1 : Int32).toNatClampNeg (64 : Int32)))) (fun r6 D5 => (cI (S_X13_placeOf a0 (setA (setA D5 80 (upd (D5.2.2.1 80) (2 : Int32).toNatClampNeg ((48 : Int32) + (r6 / (6 : Int32))))) 80 (upd (upd (D5.2.2.1 80) (2 : Int32).toNatClampNeg ((48 : Int32) + (r6 / (6 : Int32)))) (3 : Int32).toNatClampNeg (44 : Int32)))) (fun r9 D8 => (cI (S_X13_strength a0 (setA (setA D8 80 (upd (D8.2.2.1 80) (4 : Int32).toNatClampNeg ((48 : Int32) + (r9 - r9 / (6 : Int32) * (6 : Int32))))) 80 (upd (upd (D8.2.2.1 80) (4 : Int32).toNatClampNeg ((48 : Int32) + (r9 - r9 / (6 : Int32) * (6 : Int32)))) (5 : Int32).toNatClampNeg (58 : Int32)))) (fun r12 D11 => some (0, some (.int (D11.1 148)), (setA D11 80 (upd (D11.2.2.1 80) (6 : Int32).toNatClampNeg ((48 : Int32) + r12)))))))))))))
set_option maxRecDepth 100000 in
set_option maxHeartbeats 4000000 in
theorem c_X13_writeCharge (l : Launch) (G : va_G) (E : EE) (a0 : Int32) (D : DD) (r : RT) (h : S_X13_writeCharge a0 D = some r) : MM l G E yX13_writeCharge cX13_writeCharge 2 (some .int) (rmm 3) [.ref (E.1 84), .int a0] D r := by
  refine m_of rfl (Nat.le_of_ble_eq_true rfl) ?_
  intro p e s m args below meth c X hr
  unfold S_X13_writeCharge at h
  refine g_aload_n X 0 (i0 := 0) dX13_writeCharge_0 rfl rfl ?_
  refine g_iload_n X 1 (i0 := 1) dX13_writeCharge_1 rfl rfl ?_
  obtain ⟨r3, D2, e1, h⟩ := cI_s h
  refine g_V X (As := [.int a0]) (rest := []) (c_X13_looks l G E a0 _ _ e1) 84 (wg_84 E _) rfl rfl kv_X13_155 ⟨rfl, rfl⟩ ⟨rfl, hd_X13_looks⟩ (⟨Nat.le_of_ble_eq_true rfl, Nat.le_of_ble_eq_true rfl⟩) rfl rfl (Nat.le_of_ble_eq_true rfl) dX13_writeCharge_2 ?_
  refine g_if_ne X (tgt := 10) dX13_writeCharge_5 (by decide) (fun c13 => ?_) (fun c13 => ?_)
  · have h := (ite_s h).2 c13
    refine g_aload_n X 0 (i0 := 0) dX13_writeCharge_10 rfl rfl ?_
    refine g_bipush X (v := (7 : Int32)) dX13_writeCharge_11 (by decide) ?_
    refine g_put X (D := D2) (v := .int (7 : Int32)) (T := TX13) (D' := (setI D2 148 (7 : Int32))) 84 uX13 tyX13 tyX13_ok nmX13 (wg_84 E _) rfl 22 (by decide) fl_X13_205 rfl rfl rfl rfl (Nat.le_of_ble_eq_true rfl) (ws_I_148 E _ _) dX13_writeCharge_13 ?_
    refine g_aload_n X 0 (i0 := 0) dX13_writeCharge_16 rfl rfl ?_
    refine g_get X (D := (setI D2 148 (7 : Int32))) (v := .ref (E.1 95)) (T := TX13) 84 uX13 (wg_84 E _) rfl 15 (by decide) fl_X13_47 rfl rfl dX13_writeCharge_17 ?_
    refine g_iconst X (v := (0 : Int32)) dX13_writeCharge_20 (by decide) ?_
    refine g_bipush X (v := (48 : Int32)) dX13_writeCharge_21 (by decide) ?_
    refine g_iload_n X 1 (i0 := 1) dX13_writeCharge_23 rfl rfl ?_
    refine g_iadd X dX13_writeCharge_24 ?_
    refine g_iast X (D := (setI D2 148 (7 : Int32))) (f := (D2.2.2.1 80)) (i := (0 : Int32)) (x := ((48 : Int32) + a0)) (D' := (setA (setI D2 148 (7 : Int32)) 80 (upd (D2.2.2.1 80) (0 : Int32).toNatClampNeg ((48 : Int32) + a0)))) 95 (wg_95 E _) (inB_vp (by decide)) (ws_A_80 E _ _) dX13_writeCharge_25 ?_
    refine g_aload_n X 0 (i0 := 0) dX13_writeCharge_26 rfl rfl ?_
    refine g_get X (D := (setA (setI D2 148 (7 : Int32)) 80 (upd (D2.2.2.1 80) (0 : Int32).toNatClampNeg ((48 : Int32) + a0)))) (v := .ref (E.1 95)) (T := TX13) 84 uX13 (wg_84 E _) rfl 15 (by decide) fl_X13_47 rfl rfl dX13_writeCharge_27 ?_
    refine g_iconst X (v := (1 : Int32)) dX13_writeCharge_30 (by decide) ?_
    refine g_bipush X (v := (64 : Int32)) dX13_writeCharge_31 (by decide) ?_
    refine g_iast X (D := (setA (setI D2 148 (7 : Int32)) 80 (upd (D2.2.2.1 80) (0 : Int32).toNatClampNeg ((48 : Int32) + a0)))) (f := (upd (D2.2.2.1 80) (0 : Int32).toNatClampNeg ((48 : Int32) + a0))) (i := (1 : Int32)) (x := (64 : Int32)) (D' := (setA (setA (setI D2 148 (7 : Int32)) 80 (upd (D2.2.2.1 80) (0 : Int32).toNatClampNeg ((48 : Int32) + a0))) 80 (upd (upd (D2.2.2.1 80) (0 : Int32).toNatClampNeg ((48 : Int32) + a0)) (1 : Int32).toNatClampNeg (64 : Int32)))) 95 (wg_95 E _) (inB_vp (by decide)) (ws_A_80 E _ _) dX13_writeCharge_33 ?_
    refine g_aload_n X 0 (i0 := 0) dX13_writeCharge_34 rfl rfl ?_
    refine g_get X (D := (setA (setA (setI D2 148 (7 : Int32)) 80 (upd (D2.2.2.1 80) (0 : Int32).toNatClampNeg ((48 : Int32) + a0))) 80 (upd (upd (D2.2.2.1 80) (0 : Int32).toNatClampNeg ((48 : Int32) + a0)) (1 : Int32).toNatClampNeg (64 : Int32)))) (v := .ref (E.1 95)) (T := TX13) 84 uX13 (wg_84 E _) rfl 15 (by decide) fl_X13_47 rfl rfl dX13_writeCharge_35 ?_
    refine g_iconst X (v := (2 : Int32)) dX13_writeCharge_38 (by decide) ?_
    refine g_bipush X (v := (48 : Int32)) dX13_writeCharge_39 (by decide) ?_
    refine g_aload_n X 0 (i0 := 0) dX13_writeCharge_41 rfl rfl ?_
    refine g_iload_n X 1 (i0 := 1) dX13_writeCharge_42 rfl rfl ?_
    obtain ⟨r6, D5, e4, h⟩ := cI_s h
    refine g_V X (As := [.int a0]) (rest := [.int (48 : Int32), .int (2 : Int32), .ref (E.1 95)]) (c_X13_placeOf l G E a0 _ _ e4) 84 (wg_84 E _) rfl rfl kv_X13_73 ⟨rfl, rfl⟩ ⟨rfl, hd_X13_placeOf⟩ (⟨Nat.le_of_ble_eq_true rfl, Nat.le_of_ble_eq_true rfl⟩) rfl rfl (Nat.le_of_ble_eq_true rfl) dX13_writeCharge_43 ?_
    refine g_bipush X (v := (6 : Int32)) dX13_writeCharge_46 (by decide) ?_
    refine g_idiv X (by decide) dX13_writeCharge_48 ?_
    refine g_iadd X dX13_writeCharge_49 ?_
    refine g_iast X (D := D5) (f := (D5.2.2.1 80)) (i := (2 : Int32)) (x := ((48 : Int32) + (r6 / (6 : Int32)))) (D' := (setA D5 80 (upd (D5.2.2.1 80) (2 : Int32).toNatClampNeg ((48 : Int32) + (r6 / (6 : Int32)))))) 95 (wg_95 E _) (inB_vp (by decide)) (ws_A_80 E _ _) dX13_writeCharge_50 ?_
    refine g_aload_n X 0 (i0 := 0) dX13_writeCharge_51 rfl rfl ?_
    refine g_get X (D := (setA D5 80 (upd (D5.2.2.1 80) (2 : Int32).toNatClampNeg ((48 : Int32) + (r6 / (6 : Int32)))))) (v := .ref (E.1 95)) (T := TX13) 84 uX13 (wg_84 E _) rfl 15 (by decide) fl_X13_47 rfl rfl dX13_writeCharge_52 ?_
    refine g_iconst X (v := (3 : Int32)) dX13_writeCharge_55 (by decide) ?_
    refine g_bipush X (v := (44 : Int32)) dX13_writeCharge_56 (by decide) ?_
    refine g_iast X (D := (setA D5 80 (upd (D5.2.2.1 80) (2 : Int32).toNatClampNeg ((48 : Int32) + (r6 / (6 : Int32)))))) (f := (upd (D5.2.2.1 80) (2 : Int32).toNatClampNeg ((48 : Int32) + (r6 / (6 : Int32))))) (i := (3 : Int32)) (x := (44 : Int32)) (D' := (setA (setA D5 80 (upd (D5.2.2.1 80) (2 : Int32).toNatClampNeg ((48 : Int32) + (r6 / (6 : Int32))))) 80 (upd (upd (D5.2.2.1 80) (2 : Int32).toNatClampNeg ((48 : Int32) + (r6 / (6 : Int32)))) (3 : Int32).toNatClampNeg (44 : Int32)))) 95 (wg_95 E _) (inB_vp (by decide)) (ws_A_80 E _ _) dX13_writeCharge_58 ?_
    refine g_aload_n X 0 (i0 := 0) dX13_writeCharge_59 rfl rfl ?_
    refine g_get X (D := (setA (setA D5 80 (upd (D5.2.2.1 80) (2 : Int32).toNatClampNeg ((48 : Int32) + (r6 / (6 : Int32))))) 80 (upd (upd (D5.2.2.1 80) (2 : Int32).toNatClampNeg ((48 : Int32) + (r6 / (6 : Int32)))) (3 : Int32).toNatClampNeg (44 : Int32)))) (v := .ref (E.1 95)) (T := TX13) 84 uX13 (wg_84 E _) rfl 15 (by decide) fl_X13_47 rfl rfl dX13_writeCharge_60 ?_
    refine g_iconst X (v := (4 : Int32)) dX13_writeCharge_63 (by decide) ?_
    refine g_bipush X (v := (48 : Int32)) dX13_writeCharge_64 (by decide) ?_
    refine g_aload_n X 0 (i0 := 0) dX13_writeCharge_66 rfl rfl ?_
    refine g_iload_n X 1 (i0 := 1) dX13_writeCharge_67 rfl rfl ?_
    obtain ⟨r9, D8, e7, h⟩ := cI_s h
    refine g_V X (As := [.int a0]) (rest := [.int (48 : Int32), .int (4 : Int32), .ref (E.1 95)]) (c_X13_placeOf l G E a0 _ _ e7) 84 (wg_84 E _) rfl rfl kv_X13_73 ⟨rfl, rfl⟩ ⟨rfl, hd_X13_placeOf⟩ (⟨Nat.le_of_ble_eq_true rfl, Nat.le_of_ble_eq_true rfl⟩) rfl rfl (Nat.le_of_ble_eq_true rfl) dX13_writeCharge_68 ?_
    refine g_bipush X (v := (6 : Int32)) dX13_writeCharge_71 (by decide) ?_
    refine g_irem X (by decide) dX13_writeCharge_73 ?_
    refine g_iadd X dX13_writeCharge_74 ?_
    refine g_iast X (D := D8) (f := (D8.2.2.1 80)) (i := (4 : Int32)) (x := ((48 : Int32) + (r9 - r9 / (6 : Int32) * (6 : Int32)))) (D' := (setA D8 80 (upd (D8.2.2.1 80) (4 : Int32).toNatClampNeg ((48 : Int32) + (r9 - r9 / (6 : Int32) * (6 : Int32)))))) 95 (wg_95 E _) (inB_vp (by decide)) (ws_A_80 E _ _) dX13_writeCharge_75 ?_
    refine g_aload_n X 0 (i0 := 0) dX13_writeCharge_76 rfl rfl ?_
    refine g_get X (D := (setA D8 80 (upd (D8.2.2.1 80) (4 : Int32).toNatClampNeg ((48 : Int32) + (r9 - r9 / (6 : Int32) * (6 : Int32)))))) (v := .ref (E.1 95)) (T := TX13) 84 uX13 (wg_84 E _) rfl 15 (by decide) fl_X13_47 rfl rfl dX13_writeCharge_77 ?_
    refine g_iconst X (v := (5 : Int32)) dX13_writeCharge_80 (by decide) ?_
    refine g_bipush X (v := (58 : Int32)) dX13_writeCharge_81 (by decide) ?_
    refine g_iast X (D := (setA D8 80 (upd (D8.2.2.1 80) (4 : Int32).toNatClampNeg ((48 : Int32) + (r9 - r9 / (6 : Int32) * (6 : Int32)))))) (f := (upd (D8.2.2.1 80) (4 : Int32).toNatClampNeg ((48 : Int32) + (r9 - r9 / (6 : Int32) * (6 : Int32))))) (i := (5 : Int32)) (x := (58 : Int32)) (D' := (setA (setA D8 80 (upd (D8.2.2.1 80) (4 : Int32).toNatClampNeg ((48 : Int32) + (r9 - r9 / (6 : Int32) * (6 : Int32))))) 80 (upd (upd (D8.2.2.1 80) (4 : Int32).toNatClampNeg ((48 : Int32) + (r9 - r9 / (6 : Int32) * (6 : Int32)))) (5 : Int32).toNatClampNeg (58 : Int32)))) 95 (wg_95 E _) (inB_vp (by decide)) (ws_A_80 E _ _) dX13_writeCharge_83 ?_
    refine g_aload_n X 0 (i0 := 0) dX13_writeCharge_84 rfl rfl ?_
    refine g_get X (D := (setA (setA D8 80 (upd (D8.2.2.1 80) (4 : Int32).toNatClampNeg ((48 : Int32) + (r9 - r9 / (6 : Int32) * (6 : Int32))))) 80 (upd (upd (D8.2.2.1 80) (4 : Int32).toNatClampNeg ((48 : Int32) + (r9 - r9 / (6 : Int32) * (6 : Int32)))) (5 : Int32).toNatClampNeg (58 : Int32)))) (v := .ref (E.1 95)) (T := TX13) 84 uX13 (wg_84 E _) rfl 15 (by decide) fl_X13_47 rfl rfl dX13_writeCharge_85 ?_
    refine g_bipush X (v := (6 : Int32)) dX13_writeCharge_88 (by decide) ?_
    refine g_bipush X (v := (48 : Int32)) dX13_writeCharge_90 (by decide) ?_
    refine g_aload_n X 0 (i0 := 0) dX13_writeCharge_92 rfl rfl ?_
    refine g_iload_n X 1 (i0 := 1) dX13_writeCharge_93 rfl rfl ?_
    obtain ⟨r12, D11, e10, h⟩ := cI_s h
    refine g_V X (As := [.int a0]) (rest := [.int (48 : Int32), .int (6 : Int32), .ref (E.1 95)]) (c_X13_strength l G E a0 _ _ e10) 84 (wg_84 E _) rfl rfl kv_X13_134 ⟨rfl, rfl⟩ ⟨rfl, hd_X13_strength⟩ (⟨Nat.le_of_ble_eq_true rfl, Nat.le_of_ble_eq_true rfl⟩) rfl rfl (Nat.le_of_ble_eq_true rfl) dX13_writeCharge_94 ?_
    refine g_iadd X dX13_writeCharge_97 ?_
    refine g_iast X (D := D11) (f := (D11.2.2.1 80)) (i := (6 : Int32)) (x := ((48 : Int32) + r12)) (D' := (setA D11 80 (upd (D11.2.2.1 80) (6 : Int32).toNatClampNeg ((48 : Int32) + r12)))) 95 (wg_95 E _) (inB_vp (by decide)) (ws_A_80 E _ _) dX13_writeCharge_98 ?_
    refine g_aload_n X 0 (i0 := 0) dX13_writeCharge_99 rfl rfl ?_
    refine g_get X (D := (setA D11 80 (upd (D11.2.2.1 80) (6 : Int32).toNatClampNeg ((48 : Int32) + r12)))) (v := .int (D11.1 148)) (T := TX13) 84 uX13 (wg_84 E _) rfl 22 (by decide) fl_X13_205 rfl rfl dX13_writeCharge_100 ?_
    exact g_iret X hr rfl dX13_writeCharge_103 (Option.some.inj h)
  · have h := (ite_s h).1 c13
    refine g_iconst X (v := (0 : Int32)) dX13_writeCharge_8 (by decide) ?_
    exact g_iret X hr rfl dX13_writeCharge_9 (Option.some.inj h)
def S_X13_lineAt (a0 : Int32) (D : DD) : Option RT := (cI (S_X13_isIn a0 (0 : Int32) ((D.1 148) - (1 : Int32)) D) (fun r3 D2 => (if r3 = 0 then (if (1 : Int32) = 0 then (if inB a0 20 = true then (if vp_nar .char (((D2.2.2.1 80) a0.toNatClampNeg).toUInt32 % 65536).toInt32 = (((D2.2.2.1 80) a0.toNatClampNeg).toUInt32 % 65536).toInt32 then some (0, some (.int (((D2.2.2.1 80) a0.toNatClampNeg).toUInt32 % 65536).toInt32), (setI D2 140 (1 : Int32))) else none) else none) else some (0, some (.int (97 : Int32)), (setI D2 140 (1 : Int32)))) else (if (0 : Int32) = 0 then (if inB a0 20 = true then (if vp_nar .char (((D2.2.2.1 80) a0.toNatClampNeg).toUInt32 % 65536).toInt32 = (((D2.2.2.1 80) a0.toNatClampNeg).toUInt32 % 65536).toInt32 then some (0, some (.int (((D2.2.2.1 80) a0.toNatClampNeg).toUInt32 % 65536).toInt32), (setI D2 140 (0 : Int32))) else none) else none) else some (0, some (.int (97 : Int32)), (setI D2 140 (0 : Int32)))))))
set_option maxRecDepth 100000 in
set_option maxHeartbeats 4000000 in
theorem c_X13_lineAt (l : Launch) (G : va_G) (E : EE) (a0 : Int32) (D : DD) (r : RT) (h : S_X13_lineAt a0 D = some r) : MM l G E yX13_lineAt cX13_lineAt 2 (some .char) (rmm 1) [.ref (E.1 84), .int a0] D r := by
  refine m_of rfl (Nat.le_of_ble_eq_true rfl) ?_
  intro p e s m args below meth c X hr
  unfold S_X13_lineAt at h
  refine g_aload_n X 0 (i0 := 0) dX13_lineAt_0 rfl rfl ?_
  refine g_iload_n X 1 (i0 := 1) dX13_lineAt_1 rfl rfl ?_
  refine g_iconst X (v := (0 : Int32)) dX13_lineAt_2 (by decide) ?_
  refine g_aload_n X 0 (i0 := 0) dX13_lineAt_3 rfl rfl ?_
  refine g_get X (D := D) (v := .int (D.1 148)) (T := TX13) 84 uX13 (wg_84 E _) rfl 22 (by decide) fl_X13_205 rfl rfl dX13_lineAt_4 ?_
  refine g_iconst X (v := (1 : Int32)) dX13_lineAt_7 (by decide) ?_
  refine g_isub X dX13_lineAt_8 ?_
  obtain ⟨r3, D2, e1, h⟩ := cI_s h
  refine g_S X (As := [.int a0, .int (0 : Int32), .int ((D.1 148) - (1 : Int32))]) (rest := [.ref (E.1 84)]) (c_X13_isIn l G E a0 (0 : Int32) ((D.1 148) - (1 : Int32)) _ _ e1) ks_X13_69 ⟨rfl, rfl⟩ hd_X13_isIn (⟨Nat.le_of_ble_eq_true rfl, Nat.le_of_ble_eq_true rfl⟩) rfl rfl (Nat.le_of_ble_eq_true rfl) dX13_lineAt_9 ?_
  refine g_if_eq X (tgt := 19) dX13_lineAt_12 (by decide) (fun c10 => ?_) (fun c10 => ?_)
  · have h := (ite_s h).1 c10
    refine g_iconst X (v := (1 : Int32)) dX13_lineAt_19 (by decide) ?_
    refine g_put X (D := D2) (v := .int (1 : Int32)) (T := TX13) (D' := (setI D2 140 (1 : Int32))) 84 uX13 tyX13 tyX13_ok nmX13 (wg_84 E _) rfl 0 (by decide) fl_X13_59 rfl rfl rfl rfl (Nat.le_of_ble_eq_true rfl) (ws_I_140 E _ _) dX13_lineAt_20 ?_
    refine g_aload_n X 0 (i0 := 0) dX13_lineAt_23 rfl rfl ?_
    refine g_get X (D := (setI D2 140 (1 : Int32))) (v := .int (1 : Int32)) (T := TX13) 84 uX13 (wg_84 E _) rfl 0 (by decide) fl_X13_59 rfl rfl dX13_lineAt_24 ?_
    refine g_if_ne X (tgt := 40) dX13_lineAt_27 (by decide) (fun c6 => ?_) (fun c6 => ?_)
    · have h := (ite_s h).2 c6
      refine g_bipush X (v := (97 : Int32)) dX13_lineAt_40 (by decide) ?_
      exact g_iret X hr rfl dX13_lineAt_42 (Option.some.inj h)
    · have h := (ite_s h).1 c6
      refine g_aload_n X 0 (i0 := 0) dX13_lineAt_30 rfl rfl ?_
      refine g_get X (D := (setI D2 140 (1 : Int32))) (v := .ref (E.1 95)) (T := TX13) 84 uX13 (wg_84 E _) rfl 15 (by decide) fl_X13_47 rfl rfl dX13_lineAt_31 ?_
      refine g_iload_n X 1 (i0 := 1) dX13_lineAt_34 rfl rfl ?_
      obtain ⟨b4, h⟩ := chk_s h
      refine g_iald X (D := (setI D2 140 (1 : Int32))) (f := (D2.2.2.1 80)) (i := a0) 95 (wg_95 E _) (inB_vp b4) dX13_lineAt_35 ?_
      refine g_i2c X dX13_lineAt_36 ?_
      refine g_goto X (tgt := 42) dX13_lineAt_37 (by decide) ?_
      obtain ⟨n5, h⟩ := chk_s h
      exact g_iret X hr (by first | exact congrArg Value.int n5 | (rw [show narrow .char (.int (((D2.2.2.1 80) a0.toNatClampNeg).toUInt32 % 65536).toInt32) = .int (vp_nar .char (((D2.2.2.1 80) a0.toNatClampNeg).toUInt32 % 65536).toInt32) from rfl, n5])) dX13_lineAt_42 (Option.some.inj h)
  · have h := (ite_s h).2 c10
    refine g_iconst X (v := (0 : Int32)) dX13_lineAt_15 (by decide) ?_
    refine g_goto X (tgt := 20) dX13_lineAt_16 (by decide) ?_
    refine g_put X (D := D2) (v := .int (0 : Int32)) (T := TX13) (D' := (setI D2 140 (0 : Int32))) 84 uX13 tyX13 tyX13_ok nmX13 (wg_84 E _) rfl 0 (by decide) fl_X13_59 rfl rfl rfl rfl (Nat.le_of_ble_eq_true rfl) (ws_I_140 E _ _) dX13_lineAt_20 ?_
    refine g_aload_n X 0 (i0 := 0) dX13_lineAt_23 rfl rfl ?_
    refine g_get X (D := (setI D2 140 (0 : Int32))) (v := .int (0 : Int32)) (T := TX13) 84 uX13 (wg_84 E _) rfl 0 (by decide) fl_X13_59 rfl rfl dX13_lineAt_24 ?_
    refine g_if_ne X (tgt := 40) dX13_lineAt_27 (by decide) (fun c9 => ?_) (fun c9 => ?_)
    · have h := (ite_s h).2 c9
      refine g_bipush X (v := (97 : Int32)) dX13_lineAt_40 (by decide) ?_
      exact g_iret X hr rfl dX13_lineAt_42 (Option.some.inj h)
    · have h := (ite_s h).1 c9
      refine g_aload_n X 0 (i0 := 0) dX13_lineAt_30 rfl rfl ?_
      refine g_get X (D := (setI D2 140 (0 : Int32))) (v := .ref (E.1 95)) (T := TX13) 84 uX13 (wg_84 E _) rfl 15 (by decide) fl_X13_47 rfl rfl dX13_lineAt_31 ?_
      refine g_iload_n X 1 (i0 := 1) dX13_lineAt_34 rfl rfl ?_
      obtain ⟨b7, h⟩ := chk_s h
      refine g_iald X (D := (setI D2 140 (0 : Int32))) (f := (D2.2.2.1 80)) (i := a0) 95 (wg_95 E _) (inB_vp b7) dX13_lineAt_35 ?_
      refine g_i2c X dX13_lineAt_36 ?_
      refine g_goto X (tgt := 42) dX13_lineAt_37 (by decide) ?_
      obtain ⟨n8, h⟩ := chk_s h
      exact g_iret X hr (by first | exact congrArg Value.int n8 | (rw [show narrow .char (.int (((D2.2.2.1 80) a0.toNatClampNeg).toUInt32 % 65536).toInt32) = .int (vp_nar .char (((D2.2.2.1 80) a0.toNatClampNeg).toUInt32 % 65536).toInt32) from rfl, n8])) dX13_lineAt_42 (Option.some.inj h)
def S_X13_isConsistent  (D : DD) : Option RT := (if ((D.2.2.1 70) (1 : Int32).toNatClampNeg) < ((D.2.2.1 70) (2 : Int32).toNatClampNeg) then some (0, some (.int (0 : Int32)), (setI D 140 (0 : Int32))) else some (0, some (.int (1 : Int32)), (setI D 140 (0 : Int32))))
set_option maxRecDepth 100000 in
set_option maxHeartbeats 4000000 in
theorem c_X13_isConsistent (l : Launch) (G : va_G) (E : EE)  (D : DD) (r : RT) (h : S_X13_isConsistent  D = some r) : MM l G E yX13_isConsistent cX13_isConsistent 1 (some .boolean) (rmm 0) [.ref (E.1 84)] D r := by
  refine m_of rfl (Nat.le_of_ble_eq_true rfl) ?_
  intro p e s m args below meth c X hr
  unfold S_X13_isConsistent at h
  refine g_aload_n X 0 (i0 := 0) dX13_isConsistent_0 rfl rfl ?_
  refine g_iconst X (v := (0 : Int32)) dX13_isConsistent_1 (by decide) ?_
  refine g_put X (D := D) (v := .int (0 : Int32)) (T := TX13) (D' := (setI D 140 (0 : Int32))) 84 uX13 tyX13 tyX13_ok nmX13 (wg_84 E _) rfl 0 (by decide) fl_X13_59 rfl rfl rfl rfl (Nat.le_of_ble_eq_true rfl) (ws_I_140 E _ _) dX13_isConsistent_2 ?_
  refine g_aload_n X 0 (i0 := 0) dX13_isConsistent_5 rfl rfl ?_
  refine g_get X (D := (setI D 140 (0 : Int32))) (v := .ref (E.1 85)) (T := TX13) 84 uX13 (wg_84 E _) rfl 5 (by decide) fl_X13_16 rfl rfl dX13_isConsistent_6 ?_
  refine g_iconst X (v := (1 : Int32)) dX13_isConsistent_9 (by decide) ?_
  refine g_iald X (D := (setI D 140 (0 : Int32))) (f := (D.2.2.1 70)) (i := (1 : Int32)) 85 (wg_85 E _) (inB_vp (by decide)) dX13_isConsistent_10 ?_
  refine g_aload_n X 0 (i0 := 0) dX13_isConsistent_11 rfl rfl ?_
  refine g_get X (D := (setI D 140 (0 : Int32))) (v := .ref (E.1 85)) (T := TX13) 84 uX13 (wg_84 E _) rfl 5 (by decide) fl_X13_16 rfl rfl dX13_isConsistent_12 ?_
  refine g_iconst X (v := (2 : Int32)) dX13_isConsistent_15 (by decide) ?_
  refine g_iald X (D := (setI D 140 (0 : Int32))) (f := (D.2.2.1 70)) (i := (2 : Int32)) 85 (wg_85 E _) (inB_vp (by decide)) dX13_isConsistent_16 ?_
  refine g_icmp_lt X (tgt := 24) dX13_isConsistent_17 (by decide) (fun c1 => ?_) (fun c1 => ?_)
  · have h := (ite_s h).1 c1
    refine g_iconst X (v := (0 : Int32)) dX13_isConsistent_24 (by decide) ?_
    exact g_iret X hr rfl dX13_isConsistent_25 (Option.some.inj h)
  · have h := (ite_s h).2 c1
    refine g_iconst X (v := (1 : Int32)) dX13_isConsistent_20 (by decide) ?_
    refine g_goto X (tgt := 25) dX13_isConsistent_21 (by decide) ?_
    exact g_iret X hr rfl dX13_isConsistent_25 (Option.some.inj h)
theorem fl_X13_208 : Cond.fieldLink RX13 208 "StoneQuarryModel" "textN" "I" ∈ UT := ut 1369 (by decide +kernel) (by decide +kernel)
theorem fl_X13_44 : Cond.fieldLink RX13 44 "StoneQuarryModel" "text" "[I" ∈ UT := ut 1364 (by decide +kernel) (by decide +kernel)
theorem wg_94 (E : EE) (D : DD) : (wd E D)[94]? = some (E.1 94, .inl (E.2 0, 60, .inl (D.2.2.1 79))) := rfl
theorem ws_A_79 (E : EE) (D : DD) (f : Nat → Int32) : (wd E D).set 94 (E.1 94, .inl (E.2 0, 60, .inl f)) = wd E (setA D 79 f) := rfl
theorem ws_I_145 (E : EE) (D : DD) (v : Int32) : (wd E D).set 84 (E.1 84, .inr (13, [.int (D.1 140), .int (D.1 141), .int (D.1 142), .int (D.1 143), .int (D.1 144), .ref (E.1 85), .ref (E.1 86), .ref (E.1 87), .ref (E.1 88), .ref (E.1 89), .ref (E.1 90), .ref (E.1 91), .ref (E.1 92), .ref (E.1 93), .ref (E.1 94), .ref (E.1 95), .ref (E.1 96), .ref (E.1 97), .ref (E.1 98), .int v, .int (D.1 146), .int (D.1 147), .int (D.1 148), .int (D.1 149), .int (D.1 150)])) = wd E (setI D 145 v) := rfl
def S_X13_type (a0 : Int32) (D : DD) : Option RT := (cI (S_X13_isIn a0 (32 : Int32) (126 : Int32) D) (fun r3 D2 => (if r3 = 0 then (if (1 : Int32) = 0 then (if inB (D2.1 145) 60 = true then some (0, some (.int ((D2.1 145) + (1 : Int32))), (setI (setA (setI D2 140 (1 : Int32)) 79 (upd (D2.2.2.1 79) (D2.1 145).toNatClampNeg a0)) 145 ((D2.1 145) + (1 : Int32)))) else none) else some (0, some (.int (0 : Int32)), (setI D2 140 (1 : Int32)))) else (if (D2.1 145) = (60 : Int32) then (if (2 : Int32) = 0 then (if inB (D2.1 145) 60 = true then some (0, some (.int ((D2.1 145) + (1 : Int32))), (setI (setA (setI D2 140 (2 : Int32)) 79 (upd (D2.2.2.1 79) (D2.1 145).toNatClampNeg a0)) 145 ((D2.1 145) + (1 : Int32)))) else none) else some (0, some (.int (0 : Int32)), (setI D2 140 (2 : Int32)))) else (if (0 : Int32) = 0 then (if inB (D2.1 145) 60 = true then some (0, some (.int ((D2.1 145) + (1 : Int32))), (setI (setA (setI D2 140 (0 : Int32)) 79 (upd (D2.2.2.1 79) (D2.1 145).toNatClampNeg a0)) 145 ((D2.1 145) + (1 : Int32)))) else none) else some (0, some (.int (0 : Int32)), (setI D2 140 (0 : Int32))))))))
set_option maxRecDepth 100000 in
set_option maxHeartbeats 4000000 in
theorem c_X13_type (l : Launch) (G : va_G) (E : EE) (a0 : Int32) (D : DD) (r : RT) (h : S_X13_type a0 D = some r) : MM l G E yX13_type cX13_type 2 (some .int) (rmm 1) [.ref (E.1 84), .int a0] D r := by
  refine m_of rfl (Nat.le_of_ble_eq_true rfl) ?_
  intro p e s m args below meth c X hr
  unfold S_X13_type at h
  refine g_aload_n X 0 (i0 := 0) dX13_type_0 rfl rfl ?_
  refine g_iload_n X 1 (i0 := 1) dX13_type_1 rfl rfl ?_
  refine g_bipush X (v := (32 : Int32)) dX13_type_2 (by decide) ?_
  refine g_bipush X (v := (126 : Int32)) dX13_type_4 (by decide) ?_
  obtain ⟨r3, D2, e1, h⟩ := cI_s h
  refine g_S X (As := [.int a0, .int (32 : Int32), .int (126 : Int32)]) (rest := [.ref (E.1 84)]) (c_X13_isIn l G E a0 (32 : Int32) (126 : Int32) _ _ e1) ks_X13_69 ⟨rfl, rfl⟩ hd_X13_isIn (⟨Nat.le_of_ble_eq_true rfl, Nat.le_of_ble_eq_true rfl⟩) rfl rfl (Nat.le_of_ble_eq_true rfl) dX13_type_6 ?_
  refine g_if_ne X (tgt := 16) dX13_type_9 (by decide) (fun c11 => ?_) (fun c11 => ?_)
  · have h := (ite_s h).2 c11
    refine g_aload_n X 0 (i0 := 0) dX13_type_16 rfl rfl ?_
    refine g_get X (D := D2) (v := .int (D2.1 145)) (T := TX13) 84 uX13 (wg_84 E _) rfl 19 (by decide) fl_X13_208 rfl rfl dX13_type_17 ?_
    refine g_bipush X (v := (60 : Int32)) dX13_type_20 (by decide) ?_
    refine g_icmp_ne X (tgt := 29) dX13_type_22 (by decide) (fun c8 => ?_) (fun c8 => ?_)
    · have h := (ite_s h).2 c8
      refine g_iconst X (v := (0 : Int32)) dX13_type_29 (by decide) ?_
      refine g_put X (D := D2) (v := .int (0 : Int32)) (T := TX13) (D' := (setI D2 140 (0 : Int32))) 84 uX13 tyX13 tyX13_ok nmX13 (wg_84 E _) rfl 0 (by decide) fl_X13_59 rfl rfl rfl rfl (Nat.le_of_ble_eq_true rfl) (ws_I_140 E _ _) dX13_type_30 ?_
      refine g_aload_n X 0 (i0 := 0) dX13_type_33 rfl rfl ?_
      refine g_get X (D := (setI D2 140 (0 : Int32))) (v := .int (0 : Int32)) (T := TX13) 84 uX13 (wg_84 E _) rfl 0 (by decide) fl_X13_59 rfl rfl dX13_type_34 ?_
      refine g_if_eq X (tgt := 42) dX13_type_37 (by decide) (fun c5 => ?_) (fun c5 => ?_)
      · have h := (ite_s h).1 c5
        refine g_aload_n X 0 (i0 := 0) dX13_type_42 rfl rfl ?_
        refine g_get X (D := (setI D2 140 (0 : Int32))) (v := .ref (E.1 94)) (T := TX13) 84 uX13 (wg_84 E _) rfl 14 (by decide) fl_X13_44 rfl rfl dX13_type_43 ?_
        refine g_aload_n X 0 (i0 := 0) dX13_type_46 rfl rfl ?_
        refine g_get X (D := (setI D2 140 (0 : Int32))) (v := .int (D2.1 145)) (T := TX13) 84 uX13 (wg_84 E _) rfl 19 (by decide) fl_X13_208 rfl rfl dX13_type_47 ?_
        refine g_iload_n X 1 (i0 := 1) dX13_type_50 rfl rfl ?_
        obtain ⟨b4, h⟩ := chk_s h
        refine g_iast X (D := (setI D2 140 (0 : Int32))) (f := (D2.2.2.1 79)) (i := (D2.1 145)) (x := a0) (D' := (setA (setI D2 140 (0 : Int32)) 79 (upd (D2.2.2.1 79) (D2.1 145).toNatClampNeg a0))) 94 (wg_94 E _) (inB_vp b4) (ws_A_79 E _ _) dX13_type_51 ?_
        refine g_aload_n X 0 (i0 := 0) dX13_type_52 rfl rfl ?_
        refine g_dup X dX13_type_53 rfl ?_
        refine g_get X (D := (setA (setI D2 140 (0 : Int32)) 79 (upd (D2.2.2.1 79) (D2.1 145).toNatClampNeg a0))) (v := .int (D2.1 145)) (T := TX13) 84 uX13 (wg_84 E _) rfl 19 (by decide) fl_X13_208 rfl rfl dX13_type_54 ?_
        refine g_iconst X (v := (1 : Int32)) dX13_type_57 (by decide) ?_
        refine g_iadd X dX13_type_58 ?_
        refine g_put X (D := (setA (setI D2 140 (0 : Int32)) 79 (upd (D2.2.2.1 79) (D2.1 145).toNatClampNeg a0))) (v := .int ((D2.1 145) + (1 : Int32))) (T := TX13) (D' := (setI (setA (setI D2 140 (0 : Int32)) 79 (upd (D2.2.2.1 79) (D2.1 145).toNatClampNeg a0)) 145 ((D2.1 145) + (1 : Int32)))) 84 uX13 tyX13 tyX13_ok nmX13 (wg_84 E _) rfl 19 (by decide) fl_X13_208 rfl rfl rfl rfl (Nat.le_of_ble_eq_true rfl) (ws_I_145 E _ _) dX13_type_59 ?_
        refine g_aload_n X 0 (i0 := 0) dX13_type_62 rfl rfl ?_
        refine g_get X (D := (setI (setA (setI D2 140 (0 : Int32)) 79 (upd (D2.2.2.1 79) (D2.1 145).toNatClampNeg a0)) 145 ((D2.1 145) + (1 : Int32)))) (v := .int ((D2.1 145) + (1 : Int32))) (T := TX13) 84 uX13 (wg_84 E _) rfl 19 (by decide) fl_X13_208 rfl rfl dX13_type_63 ?_
        exact g_iret X hr rfl dX13_type_66 (Option.some.inj h)
      · have h := (ite_s h).2 c5
        refine g_iconst X (v := (0 : Int32)) dX13_type_40 (by decide) ?_
        exact g_iret X hr rfl dX13_type_41 (Option.some.inj h)
    · have h := (ite_s h).1 c8
      refine g_iconst X (v := (2 : Int32)) dX13_type_25 (by decide) ?_
      refine g_goto X (tgt := 30) dX13_type_26 (by decide) ?_
      refine g_put X (D := D2) (v := .int (2 : Int32)) (T := TX13) (D' := (setI D2 140 (2 : Int32))) 84 uX13 tyX13 tyX13_ok nmX13 (wg_84 E _) rfl 0 (by decide) fl_X13_59 rfl rfl rfl rfl (Nat.le_of_ble_eq_true rfl) (ws_I_140 E _ _) dX13_type_30 ?_
      refine g_aload_n X 0 (i0 := 0) dX13_type_33 rfl rfl ?_
      refine g_get X (D := (setI D2 140 (2 : Int32))) (v := .int (2 : Int32)) (T := TX13) 84 uX13 (wg_84 E _) rfl 0 (by decide) fl_X13_59 rfl rfl dX13_type_34 ?_
      refine g_if_eq X (tgt := 42) dX13_type_37 (by decide) (fun c7 => ?_) (fun c7 => ?_)
      · have h := (ite_s h).1 c7
        refine g_aload_n X 0 (i0 := 0) dX13_type_42 rfl rfl ?_
        refine g_get X (D := (setI D2 140 (2 : Int32))) (v := .ref (E.1 94)) (T := TX13) 84 uX13 (wg_84 E _) rfl 14 (by decide) fl_X13_44 rfl rfl dX13_type_43 ?_
        refine g_aload_n X 0 (i0 := 0) dX13_type_46 rfl rfl ?_
        refine g_get X (D := (setI D2 140 (2 : Int32))) (v := .int (D2.1 145)) (T := TX13) 84 uX13 (wg_84 E _) rfl 19 (by decide) fl_X13_208 rfl rfl dX13_type_47 ?_
        refine g_iload_n X 1 (i0 := 1) dX13_type_50 rfl rfl ?_
        obtain ⟨b6, h⟩ := chk_s h
        refine g_iast X (D := (setI D2 140 (2 : Int32))) (f := (D2.2.2.1 79)) (i := (D2.1 145)) (x := a0) (D' := (setA (setI D2 140 (2 : Int32)) 79 (upd (D2.2.2.1 79) (D2.1 145).toNatClampNeg a0))) 94 (wg_94 E _) (inB_vp b6) (ws_A_79 E _ _) dX13_type_51 ?_
        refine g_aload_n X 0 (i0 := 0) dX13_type_52 rfl rfl ?_
        refine g_dup X dX13_type_53 rfl ?_
        refine g_get X (D := (setA (setI D2 140 (2 : Int32)) 79 (upd (D2.2.2.1 79) (D2.1 145).toNatClampNeg a0))) (v := .int (D2.1 145)) (T := TX13) 84 uX13 (wg_84 E _) rfl 19 (by decide) fl_X13_208 rfl rfl dX13_type_54 ?_
        refine g_iconst X (v := (1 : Int32)) dX13_type_57 (by decide) ?_
        refine g_iadd X dX13_type_58 ?_
        refine g_put X (D := (setA (setI D2 140 (2 : Int32)) 79 (upd (D2.2.2.1 79) (D2.1 145).toNatClampNeg a0))) (v := .int ((D2.1 145) + (1 : Int32))) (T := TX13) (D' := (setI (setA (setI D2 140 (2 : Int32)) 79 (upd (D2.2.2.1 79) (D2.1 145).toNatClampNeg a0)) 145 ((D2.1 145) + (1 : Int32)))) 84 uX13 tyX13 tyX13_ok nmX13 (wg_84 E _) rfl 19 (by decide) fl_X13_208 rfl rfl rfl rfl (Nat.le_of_ble_eq_true rfl) (ws_I_145 E _ _) dX13_type_59 ?_
        refine g_aload_n X 0 (i0 := 0) dX13_type_62 rfl rfl ?_
        refine g_get X (D := (setI (setA (setI D2 140 (2 : Int32)) 79 (upd (D2.2.2.1 79) (D2.1 145).toNatClampNeg a0)) 145 ((D2.1 145) + (1 : Int32)))) (v := .int ((D2.1 145) + (1 : Int32))) (T := TX13) 84 uX13 (wg_84 E _) rfl 19 (by decide) fl_X13_208 rfl rfl dX13_type_63 ?_
        exact g_iret X hr rfl dX13_type_66 (Option.some.inj h)
      · have h := (ite_s h).2 c7
        refine g_iconst X (v := (0 : Int32)) dX13_type_40 (by decide) ?_
        exact g_iret X hr rfl dX13_type_41 (Option.some.inj h)
  · have h := (ite_s h).1 c11
    refine g_iconst X (v := (1 : Int32)) dX13_type_12 (by decide) ?_
    refine g_goto X (tgt := 30) dX13_type_13 (by decide) ?_
    refine g_put X (D := D2) (v := .int (1 : Int32)) (T := TX13) (D' := (setI D2 140 (1 : Int32))) 84 uX13 tyX13 tyX13_ok nmX13 (wg_84 E _) rfl 0 (by decide) fl_X13_59 rfl rfl rfl rfl (Nat.le_of_ble_eq_true rfl) (ws_I_140 E _ _) dX13_type_30 ?_
    refine g_aload_n X 0 (i0 := 0) dX13_type_33 rfl rfl ?_
    refine g_get X (D := (setI D2 140 (1 : Int32))) (v := .int (1 : Int32)) (T := TX13) 84 uX13 (wg_84 E _) rfl 0 (by decide) fl_X13_59 rfl rfl dX13_type_34 ?_
    refine g_if_eq X (tgt := 42) dX13_type_37 (by decide) (fun c10 => ?_) (fun c10 => ?_)
    · have h := (ite_s h).1 c10
      refine g_aload_n X 0 (i0 := 0) dX13_type_42 rfl rfl ?_
      refine g_get X (D := (setI D2 140 (1 : Int32))) (v := .ref (E.1 94)) (T := TX13) 84 uX13 (wg_84 E _) rfl 14 (by decide) fl_X13_44 rfl rfl dX13_type_43 ?_
      refine g_aload_n X 0 (i0 := 0) dX13_type_46 rfl rfl ?_
      refine g_get X (D := (setI D2 140 (1 : Int32))) (v := .int (D2.1 145)) (T := TX13) 84 uX13 (wg_84 E _) rfl 19 (by decide) fl_X13_208 rfl rfl dX13_type_47 ?_
      refine g_iload_n X 1 (i0 := 1) dX13_type_50 rfl rfl ?_
      obtain ⟨b9, h⟩ := chk_s h
      refine g_iast X (D := (setI D2 140 (1 : Int32))) (f := (D2.2.2.1 79)) (i := (D2.1 145)) (x := a0) (D' := (setA (setI D2 140 (1 : Int32)) 79 (upd (D2.2.2.1 79) (D2.1 145).toNatClampNeg a0))) 94 (wg_94 E _) (inB_vp b9) (ws_A_79 E _ _) dX13_type_51 ?_
      refine g_aload_n X 0 (i0 := 0) dX13_type_52 rfl rfl ?_
      refine g_dup X dX13_type_53 rfl ?_
      refine g_get X (D := (setA (setI D2 140 (1 : Int32)) 79 (upd (D2.2.2.1 79) (D2.1 145).toNatClampNeg a0))) (v := .int (D2.1 145)) (T := TX13) 84 uX13 (wg_84 E _) rfl 19 (by decide) fl_X13_208 rfl rfl dX13_type_54 ?_
      refine g_iconst X (v := (1 : Int32)) dX13_type_57 (by decide) ?_
      refine g_iadd X dX13_type_58 ?_
      refine g_put X (D := (setA (setI D2 140 (1 : Int32)) 79 (upd (D2.2.2.1 79) (D2.1 145).toNatClampNeg a0))) (v := .int ((D2.1 145) + (1 : Int32))) (T := TX13) (D' := (setI (setA (setI D2 140 (1 : Int32)) 79 (upd (D2.2.2.1 79) (D2.1 145).toNatClampNeg a0)) 145 ((D2.1 145) + (1 : Int32)))) 84 uX13 tyX13 tyX13_ok nmX13 (wg_84 E _) rfl 19 (by decide) fl_X13_208 rfl rfl rfl rfl (Nat.le_of_ble_eq_true rfl) (ws_I_145 E _ _) dX13_type_59 ?_
      refine g_aload_n X 0 (i0 := 0) dX13_type_62 rfl rfl ?_
      refine g_get X (D := (setI (setA (setI D2 140 (1 : Int32)) 79 (upd (D2.2.2.1 79) (D2.1 145).toNatClampNeg a0)) 145 ((D2.1 145) + (1 : Int32)))) (v := .int ((D2.1 145) + (1 : Int32))) (T := TX13) 84 uX13 (wg_84 E _) rfl 19 (by decide) fl_X13_208 rfl rfl dX13_type_63 ?_
      exact g_iret X hr rfl dX13_type_66 (Option.some.inj h)
    · have h := (ite_s h).2 c10
      refine g_iconst X (v := (0 : Int32)) dX13_type_40 (by decide) ?_
      exact g_iret X hr rfl dX13_type_41 (Option.some.inj h)
theorem fl_X13_211 : Cond.fieldLink RX13 211 "StoneQuarryModel" "here" "I" ∈ UT := ut 1370 (by decide +kernel) (by decide +kernel)
theorem fl_X13_214 : Cond.fieldLink RX13 214 "StoneQuarryModel" "end" "I" ∈ UT := ut 1371 (by decide +kernel) (by decide +kernel)
def S_X13_sign  (D : DD) : Option RT := (if (D.1 147) ≤ (D.1 146) then some (0, some (.int (-1 : Int32)), D) else (if inB (D.1 146) 60 = true then some (0, some (.int ((D.2.2.1 79) (D.1 146).toNatClampNeg)), D) else none))
set_option maxRecDepth 100000 in
set_option maxHeartbeats 4000000 in
theorem c_X13_sign (l : Launch) (G : va_G) (E : EE)  (D : DD) (r : RT) (h : S_X13_sign  D = some r) : MM l G E yX13_sign cX13_sign 1 (some .int) (rmm 0) [.ref (E.1 84)] D r := by
  refine m_of rfl (Nat.le_of_ble_eq_true rfl) ?_
  intro p e s m args below meth c X hr
  unfold S_X13_sign at h
  refine g_aload_n X 0 (i0 := 0) dX13_sign_0 rfl rfl ?_
  refine g_get X (D := D) (v := .int (D.1 146)) (T := TX13) 84 uX13 (wg_84 E _) rfl 20 (by decide) fl_X13_211 rfl rfl dX13_sign_1 ?_
  refine g_aload_n X 0 (i0 := 0) dX13_sign_4 rfl rfl ?_
  refine g_get X (D := D) (v := .int (D.1 147)) (T := TX13) 84 uX13 (wg_84 E _) rfl 21 (by decide) fl_X13_214 rfl rfl dX13_sign_5 ?_
  refine g_icmp_ge X (tgt := 23) dX13_sign_8 (by decide) (fun c2 => ?_) (fun c2 => ?_)
  · have h := (ite_s h).1 c2
    refine g_iconst X (v := (-1 : Int32)) dX13_sign_23 (by decide) ?_
    exact g_iret X hr rfl dX13_sign_24 (Option.some.inj h)
  · have h := (ite_s h).2 c2
    refine g_aload_n X 0 (i0 := 0) dX13_sign_11 rfl rfl ?_
    refine g_get X (D := D) (v := .ref (E.1 94)) (T := TX13) 84 uX13 (wg_84 E _) rfl 14 (by decide) fl_X13_44 rfl rfl dX13_sign_12 ?_
    refine g_aload_n X 0 (i0 := 0) dX13_sign_15 rfl rfl ?_
    refine g_get X (D := D) (v := .int (D.1 146)) (T := TX13) 84 uX13 (wg_84 E _) rfl 20 (by decide) fl_X13_211 rfl rfl dX13_sign_16 ?_
    obtain ⟨b1, h⟩ := chk_s h
    refine g_iald X (D := D) (f := (D.2.2.1 79)) (i := (D.1 146)) 94 (wg_94 E _) (inB_vp b1) dX13_sign_19 ?_
    refine g_goto X (tgt := 24) dX13_sign_20 (by decide) ?_
    exact g_iret X hr rfl dX13_sign_24 (Option.some.inj h)
theorem fl_X13_217 : Cond.fieldLink RX13 217 "StoneQuarryModel" "isWrong" "Z" ∈ UT := ut 1373 (by decide +kernel) (by decide +kernel)
theorem hd_X13_sign : yX13_sign.cls ≠ "java/lang/invoke/MethodHandle" ∧ yX13_sign.cls ≠ "java/lang/invoke/VarHandle" ∧ (parseMethodDescriptor yX13_sign.desc).map (fun d => d.parameters.length) = some 0 := by decide +kernel
theorem wc_X13_sign : Cond.code yX13_sign cX13_sign 1 (some .int) ∈ UT := ut 1762 (by decide +kernel) (by decide +kernel)
theorem we_X13_sign : Cond.selects RX13 yX13_sign yX13_sign ∈ UT := ut 70 (by decide +kernel) (by decide +kernel)
theorem wm_X13_sign : Cond.instanceMethod yX13_sign ∈ UT := ut 1761 (by decide +kernel) (by decide +kernel)
theorem kv_X13_221 : GoodIn UT (wsV RX13 221 RX13 yX13_sign (Cond.code yX13_sign cX13_sign 1 (some .int) :: UT)) := gu_V (ut 1759 (by decide +kernel) (by decide +kernel)) wm_X13_sign we_X13_sign wi_RX13 wc_X13_sign
theorem ws_I_146 (E : EE) (D : DD) (v : Int32) : (wd E D).set 84 (E.1 84, .inr (13, [.int (D.1 140), .int (D.1 141), .int (D.1 142), .int (D.1 143), .int (D.1 144), .ref (E.1 85), .ref (E.1 86), .ref (E.1 87), .ref (E.1 88), .ref (E.1 89), .ref (E.1 90), .ref (E.1 91), .ref (E.1 92), .ref (E.1 93), .ref (E.1 94), .ref (E.1 95), .ref (E.1 96), .ref (E.1 97), .ref (E.1 98), .int (D.1 145), .int v, .int (D.1 147), .int (D.1 148), .int (D.1 149), .int (D.1 150)])) = wd E (setI D 146 v) := rfl
theorem ws_I_149 (E : EE) (D : DD) (v : Int32) : (wd E D).set 84 (E.1 84, .inr (13, [.int (D.1 140), .int (D.1 141), .int (D.1 142), .int (D.1 143), .int (D.1 144), .ref (E.1 85), .ref (E.1 86), .ref (E.1 87), .ref (E.1 88), .ref (E.1 89), .ref (E.1 90), .ref (E.1 91), .ref (E.1 92), .ref (E.1 93), .ref (E.1 94), .ref (E.1 95), .ref (E.1 96), .ref (E.1 97), .ref (E.1 98), .int (D.1 145), .int (D.1 146), .int (D.1 147), .int (D.1 148), .int v, .int (D.1 150)])) = wd E (setI D 149 v) := rfl
def S_X13_expects (a0 : Int32) (D : DD) : Option RT := (if (D.1 149) = 0 then (cI (S_X13_sign D) (fun r3 D2 => (if r3 = a0 then (if (0 : Int32) = 0 then some (0, none, (setI (setI D2 149 (0 : Int32)) 146 ((D2.1 146) + (1 : Int32)))) else some (0, none, (setI (setI D2 149 (0 : Int32)) 146 ((D2.1 146) + (0 : Int32))))) else (if (1 : Int32) = 0 then some (0, none, (setI (setI D2 149 (1 : Int32)) 146 ((D2.1 146) + (1 : Int32)))) else some (0, none, (setI (setI D2 149 (1 : Int32)) 146 ((D2.1 146) + (0 : Int32)))))))) else some (0, none, D))
set_option maxRecDepth 100000 in
set_option maxHeartbeats 4000000 in
theorem c_X13_expects (l : Launch) (G : va_G) (E : EE) (a0 : Int32) (D : DD) (r : RT) (h : S_X13_expects a0 D = some r) : MM l G E yX13_expects cX13_expects 2 none (rmm 1) [.ref (E.1 84), .int a0] D r := by
  refine m_of rfl (Nat.le_of_ble_eq_true rfl) ?_
  intro p e s m args below meth c X hr
  unfold S_X13_expects at h
  refine g_aload_n X 0 (i0 := 0) dX13_expects_0 rfl rfl ?_
  refine g_get X (D := D) (v := .int (D.1 149)) (T := TX13) 84 uX13 (wg_84 E _) rfl 23 (by decide) fl_X13_217 rfl rfl dX13_expects_1 ?_
  refine g_if_eq X (tgt := 8) dX13_expects_4 (by decide) (fun c7 => ?_) (fun c7 => ?_)
  · have h := (ite_s h).1 c7
    refine g_aload_n X 0 (i0 := 0) dX13_expects_8 rfl rfl ?_
    refine g_aload_n X 0 (i0 := 0) dX13_expects_9 rfl rfl ?_
    obtain ⟨r3, D2, e1, h⟩ := cI_s h
    refine g_V X (As := []) (rest := [.ref (E.1 84)]) (c_X13_sign l G E  _ _ e1) 84 (wg_84 E _) rfl rfl kv_X13_221 ⟨rfl, rfl⟩ ⟨rfl, hd_X13_sign⟩ (⟨Nat.le_of_ble_eq_true rfl, Nat.le_of_ble_eq_true rfl⟩) rfl rfl (Nat.le_of_ble_eq_true rfl) dX13_expects_10 ?_
    refine g_iload_n X 1 (i0 := 1) dX13_expects_13 rfl rfl ?_
    refine g_icmp_eq X (tgt := 21) dX13_expects_14 (by decide) (fun c6 => ?_) (fun c6 => ?_)
    · have h := (ite_s h).1 c6
      refine g_iconst X (v := (0 : Int32)) dX13_expects_21 (by decide) ?_
      refine g_put X (D := D2) (v := .int (0 : Int32)) (T := TX13) (D' := (setI D2 149 (0 : Int32))) 84 uX13 tyX13 tyX13_ok nmX13 (wg_84 E _) rfl 23 (by decide) fl_X13_217 rfl rfl rfl rfl (Nat.le_of_ble_eq_true rfl) (ws_I_149 E _ _) dX13_expects_22 ?_
      refine g_aload_n X 0 (i0 := 0) dX13_expects_25 rfl rfl ?_
      refine g_dup X dX13_expects_26 rfl ?_
      refine g_get X (D := (setI D2 149 (0 : Int32))) (v := .int (D2.1 146)) (T := TX13) 84 uX13 (wg_84 E _) rfl 20 (by decide) fl_X13_211 rfl rfl dX13_expects_27 ?_
      refine g_aload_n X 0 (i0 := 0) dX13_expects_30 rfl rfl ?_
      refine g_get X (D := (setI D2 149 (0 : Int32))) (v := .int (0 : Int32)) (T := TX13) 84 uX13 (wg_84 E _) rfl 23 (by decide) fl_X13_217 rfl rfl dX13_expects_31 ?_
      refine g_if_eq X (tgt := 41) dX13_expects_34 (by decide) (fun c4 => ?_) (fun c4 => ?_)
      · have h := (ite_s h).1 c4
        refine g_iconst X (v := (1 : Int32)) dX13_expects_41 (by decide) ?_
        refine g_iadd X dX13_expects_42 ?_
        refine g_put X (D := (setI D2 149 (0 : Int32))) (v := .int ((D2.1 146) + (1 : Int32))) (T := TX13) (D' := (setI (setI D2 149 (0 : Int32)) 146 ((D2.1 146) + (1 : Int32)))) 84 uX13 tyX13 tyX13_ok nmX13 (wg_84 E _) rfl 20 (by decide) fl_X13_211 rfl rfl rfl rfl (Nat.le_of_ble_eq_true rfl) (ws_I_146 E _ _) dX13_expects_43 ?_
        exact g_vret X hr dX13_expects_46 (Option.some.inj h)
      · have h := (ite_s h).2 c4
        refine g_iconst X (v := (0 : Int32)) dX13_expects_37 (by decide) ?_
        refine g_goto X (tgt := 42) dX13_expects_38 (by decide) ?_
        refine g_iadd X dX13_expects_42 ?_
        refine g_put X (D := (setI D2 149 (0 : Int32))) (v := .int ((D2.1 146) + (0 : Int32))) (T := TX13) (D' := (setI (setI D2 149 (0 : Int32)) 146 ((D2.1 146) + (0 : Int32)))) 84 uX13 tyX13 tyX13_ok nmX13 (wg_84 E _) rfl 20 (by decide) fl_X13_211 rfl rfl rfl rfl (Nat.le_of_ble_eq_true rfl) (ws_I_146 E _ _) dX13_expects_43 ?_
        exact g_vret X hr dX13_expects_46 (Option.some.inj h)
    · have h := (ite_s h).2 c6
      refine g_iconst X (v := (1 : Int32)) dX13_expects_17 (by decide) ?_
      refine g_goto X (tgt := 22) dX13_expects_18 (by decide) ?_
      refine g_put X (D := D2) (v := .int (1 : Int32)) (T := TX13) (D' := (setI D2 149 (1 : Int32))) 84 uX13 tyX13 tyX13_ok nmX13 (wg_84 E _) rfl 23 (by decide) fl_X13_217 rfl rfl rfl rfl (Nat.le_of_ble_eq_true rfl) (ws_I_149 E _ _) dX13_expects_22 ?_
      refine g_aload_n X 0 (i0 := 0) dX13_expects_25 rfl rfl ?_
      refine g_dup X dX13_expects_26 rfl ?_
      refine g_get X (D := (setI D2 149 (1 : Int32))) (v := .int (D2.1 146)) (T := TX13) 84 uX13 (wg_84 E _) rfl 20 (by decide) fl_X13_211 rfl rfl dX13_expects_27 ?_
      refine g_aload_n X 0 (i0 := 0) dX13_expects_30 rfl rfl ?_
      refine g_get X (D := (setI D2 149 (1 : Int32))) (v := .int (1 : Int32)) (T := TX13) 84 uX13 (wg_84 E _) rfl 23 (by decide) fl_X13_217 rfl rfl dX13_expects_31 ?_
      refine g_if_eq X (tgt := 41) dX13_expects_34 (by decide) (fun c5 => ?_) (fun c5 => ?_)
      · have h := (ite_s h).1 c5
        refine g_iconst X (v := (1 : Int32)) dX13_expects_41 (by decide) ?_
        refine g_iadd X dX13_expects_42 ?_
        refine g_put X (D := (setI D2 149 (1 : Int32))) (v := .int ((D2.1 146) + (1 : Int32))) (T := TX13) (D' := (setI (setI D2 149 (1 : Int32)) 146 ((D2.1 146) + (1 : Int32)))) 84 uX13 tyX13 tyX13_ok nmX13 (wg_84 E _) rfl 20 (by decide) fl_X13_211 rfl rfl rfl rfl (Nat.le_of_ble_eq_true rfl) (ws_I_146 E _ _) dX13_expects_43 ?_
        exact g_vret X hr dX13_expects_46 (Option.some.inj h)
      · have h := (ite_s h).2 c5
        refine g_iconst X (v := (0 : Int32)) dX13_expects_37 (by decide) ?_
        refine g_goto X (tgt := 42) dX13_expects_38 (by decide) ?_
        refine g_iadd X dX13_expects_42 ?_
        refine g_put X (D := (setI D2 149 (1 : Int32))) (v := .int ((D2.1 146) + (0 : Int32))) (T := TX13) (D' := (setI (setI D2 149 (1 : Int32)) 146 ((D2.1 146) + (0 : Int32)))) 84 uX13 tyX13 tyX13_ok nmX13 (wg_84 E _) rfl 20 (by decide) fl_X13_211 rfl rfl rfl rfl (Nat.le_of_ble_eq_true rfl) (ws_I_146 E _ _) dX13_expects_43 ?_
        exact g_vret X hr dX13_expects_46 (Option.some.inj h)
  · have h := (ite_s h).2 c7
    exact g_vret X hr dX13_expects_7 (Option.some.inj h)
theorem hd_X13_expects : yX13_expects.cls ≠ "java/lang/invoke/MethodHandle" ∧ yX13_expects.cls ≠ "java/lang/invoke/VarHandle" ∧ (parseMethodDescriptor yX13_expects.desc).map (fun d => d.parameters.length) = some 1 := by decide +kernel
theorem wc_X13_expects : Cond.code yX13_expects cX13_expects 2 none ∈ UT := ut 1770 (by decide +kernel) (by decide +kernel)
theorem we_X13_expects : Cond.selects RX13 yX13_expects yX13_expects ∈ UT := ut 72 (by decide +kernel) (by decide +kernel)
theorem wm_X13_expects : Cond.instanceMethod yX13_expects ∈ UT := ut 1769 (by decide +kernel) (by decide +kernel)
theorem kv_X13_224 : GoodIn UT (wsV RX13 224 RX13 yX13_expects (Cond.code yX13_expects cX13_expects 2 none :: UT)) := gu_V (ut 1767 (by decide +kernel) (by decide +kernel)) wm_X13_expects we_X13_expects wi_RX13 wc_X13_expects
def b_X13_number_0 (a0 : Int32) (D : DD) : Option ((Nat × List Int32 × DD) ⊕ RT) := (cV (S_X13_expects (32 : Int32) D) (fun D2 => some (.inl (1, [a0, (0 : Int32), (0 : Int32)], D2))))
def b_X13_number_1 (x1 : Int32) (x2 : Int32) (x3 : Int32) (D : DD) : Option ((Nat × List Int32 × DD) ⊕ RT) := (if (D.1 149) = 0 then (if x1 ≤ x3 then some (.inl (2, [x2, x3], D)) else (cI (S_X13_sign D) (fun r5 D4 => (cI (S_X13_isIn r5 (48 : Int32) (57 : Int32) D4) (fun r8 D7 => (if r8 = 0 then some (.inl (2, [x2, x3], D7)) else (cI (S_X13_sign D7) (fun r11 D10 => some (.inl (1, [x1, ((((10 : Int32) * x2) + r11) - (48 : Int32)), (x3 + (1 : Int32))], (setI D10 146 ((D10.1 146) + (1 : Int32))))))))))))) else some (.inl (2, [x2, x3], D)))
def b_X13_number_2 (x2 : Int32) (x3 : Int32) (D : DD) : Option ((Nat × List Int32 × DD) ⊕ RT) := (if x3 = 0 then (if ((D.1 149) ||| (1 : Int32)) = 0 ∨ ((D.1 149) ||| (1 : Int32)) = 1 then some (.inr (0, some (.int x2), (setI D 149 ((D.1 149) ||| (1 : Int32))))) else none) else (if ((D.1 149) ||| (0 : Int32)) = 0 ∨ ((D.1 149) ||| (0 : Int32)) = 1 then some (.inr (0, some (.int x2), (setI D 149 ((D.1 149) ||| (0 : Int32))))) else none))
def T_X13_number (k : Nat) (ls : List Int32) (D : DD) : Option ((Nat × List Int32 × DD) ⊕ RT) := match k, ls with
  | 0, [a0] => b_X13_number_0 a0 D
  | 1, [x1, x2, x3] => b_X13_number_1 x1 x2 x3 D
  | 2, [x2, x3] => b_X13_number_2 x2 x3 D
  | _, _ => none
def S_X13_number (a0 : Int32) (D : DD) : Option RT := run T_X13_number FUEL 0 [a0] D
def hg_X13_number (p : Program) (l : Launch) (e : Env) (s : State) (m : MethodId) (args : Array Value) (below : List Frame) (meth : Method) (c : Code) (G : va_G) (E : EE) (r : RT) (k : Nat) (ls : List Int32) (D : DD) : Prop := match k, ls with
  | 0, [a0] => GW p l e (rmm 2) s m args below meth c G E 4 (MQ below (QR G E s.heap.size r) args s 0 0 (fr E s.heap.size)) 0 0 D 0 [(0, .ref (E.1 84)), (1, .int a0)] []
  | 1, [x1, x2, x3] => GW p l e (rmm 2) s m args below meth c G E 4 (MQ below (QR G E s.heap.size r) args s 0 0 (fr E s.heap.size)) 0 0 D 10 [(0, .ref (E.1 84)), (1, .int x1), (2, .int x2), (3, .int x3)] []
  | 2, [x2, x3] => GW p l e (rmm 2) s m args below meth c G E 4 (MQ below (QR G E s.heap.size r) args s 0 0 (fr E s.heap.size)) 0 0 D 65 [(0, .ref (E.1 84)), (2, .int x2), (3, .int x3)] []
  | _, _ => True
set_option maxRecDepth 100000 in
set_option maxHeartbeats 4000000 in
theorem bl_X13_number_0 {p : Program} {l : Launch} {e : Env} {s : State} {m : MethodId} {args : Array Value} {below : List Frame} {meth : Method} {c : Code} {G : va_G} {E : EE} {r : RT} (X : CX p s m args meth c cX13_number RX13 4 G E) (hr : meth.sig.returnType = (some .int)) (a0 : Int32) (D : DD) (o : (Nat × List Int32 × DD) ⊕ RT) (h : b_X13_number_0 a0 D = some o) (h1 : ∀ x, o = .inl x → hg_X13_number p l e s m args below meth c G E r x.1 x.2.1 x.2.2) (h2 : ∀ x, o = .inr x → x = r) : GW p l e (rmm 2) s m args below meth c G E 4 (MQ below (QR G E s.heap.size r) args s 0 0 (fr E s.heap.size)) 0 0 D 0 [(0, .ref (E.1 84)), (1, .int a0)] [] := by
  unfold b_X13_number_0 at h
  refine g_aload_n X 0 (i0 := 0) dX13_number_0 rfl rfl ?_
  refine g_bipush X (v := (32 : Int32)) dX13_number_1 (by decide) ?_
  obtain ⟨D2, e1, h⟩ := cV_s h
  refine g_V X (As := [.int (32 : Int32)]) (rest := []) (c_X13_expects l G E (32 : Int32) _ _ e1) 84 (wg_84 E _) rfl rfl kv_X13_224 ⟨rfl, rfl⟩ ⟨rfl, hd_X13_expects⟩ (⟨Nat.le_of_ble_eq_true rfl, Nat.le_of_ble_eq_true rfl⟩) rfl rfl (Nat.le_of_ble_eq_true rfl) dX13_number_3 ?_
  refine g_iconst X (v := (0 : Int32)) dX13_number_6 (by decide) ?_
  refine g_istore_n X (i0 := 2) (lv' := [(2, .int (0 : Int32)), (0, .ref (E.1 84)), (1, .int a0)]) dX13_number_7 rfl (by decide) rfl ?_
  refine g_iconst X (v := (0 : Int32)) dX13_number_8 (by decide) ?_
  refine g_istore_n X (i0 := 3) (lv' := [(3, .int (0 : Int32)), (2, .int (0 : Int32)), (0, .ref (E.1 84)), (1, .int a0)]) dX13_number_9 rfl (by decide) rfl ?_
  refine g_sub (lv' := [(0, .ref (E.1 84)), (1, .int a0), (2, .int (0 : Int32)), (3, .int (0 : Int32))]) [2, 3, 1, 0] rfl ?_
  exact h1 _ (Option.some.inj h).symm
set_option maxRecDepth 100000 in
set_option maxHeartbeats 4000000 in
theorem bl_X13_number_1 {p : Program} {l : Launch} {e : Env} {s : State} {m : MethodId} {args : Array Value} {below : List Frame} {meth : Method} {c : Code} {G : va_G} {E : EE} {r : RT} (X : CX p s m args meth c cX13_number RX13 4 G E) (hr : meth.sig.returnType = (some .int)) (x1 : Int32) (x2 : Int32) (x3 : Int32) (D : DD) (o : (Nat × List Int32 × DD) ⊕ RT) (h : b_X13_number_1 x1 x2 x3 D = some o) (h1 : ∀ x, o = .inl x → hg_X13_number p l e s m args below meth c G E r x.1 x.2.1 x.2.2) (h2 : ∀ x, o = .inr x → x = r) : GW p l e (rmm 2) s m args below meth c G E 4 (MQ below (QR G E s.heap.size r) args s 0 0 (fr E s.heap.size)) 0 0 D 10 [(0, .ref (E.1 84)), (1, .int x1), (2, .int x2), (3, .int x3)] [] := by
  unfold b_X13_number_1 at h
  refine g_aload_n X 0 (i0 := 0) dX13_number_10 rfl rfl ?_
  refine g_get X (D := D) (v := .int (D.1 149)) (T := TX13) 84 uX13 (wg_84 E _) rfl 23 (by decide) fl_X13_217 rfl rfl dX13_number_11 ?_
  refine g_if_ne X (tgt := 65) dX13_number_14 (by decide) (fun c14 => ?_) (fun c14 => ?_)
  · have h := (ite_s h).2 c14
    refine g_sub (lv' := [(0, .ref (E.1 84)), (2, .int x2), (3, .int x3)]) [0, 2, 3] rfl ?_
    exact h1 _ (Option.some.inj h).symm
  · have h := (ite_s h).1 c14
    refine g_iload_n X 3 (i0 := 3) dX13_number_17 rfl rfl ?_
    refine g_iload_n X 1 (i0 := 1) dX13_number_18 rfl rfl ?_
    refine g_icmp_ge X (tgt := 65) dX13_number_19 (by decide) (fun c13 => ?_) (fun c13 => ?_)
    · have h := (ite_s h).1 c13
      refine g_sub (lv' := [(0, .ref (E.1 84)), (2, .int x2), (3, .int x3)]) [0, 2, 3] rfl ?_
      exact h1 _ (Option.some.inj h).symm
    · have h := (ite_s h).2 c13
      refine g_aload_n X 0 (i0 := 0) dX13_number_22 rfl rfl ?_
      obtain ⟨r5, D4, e3, h⟩ := cI_s h
      refine g_V X (As := []) (rest := []) (c_X13_sign l G E  _ _ e3) 84 (wg_84 E _) rfl rfl kv_X13_221 ⟨rfl, rfl⟩ ⟨rfl, hd_X13_sign⟩ (⟨Nat.le_of_ble_eq_true rfl, Nat.le_of_ble_eq_true rfl⟩) rfl rfl (Nat.le_of_ble_eq_true rfl) dX13_number_23 ?_
      refine g_bipush X (v := (48 : Int32)) dX13_number_26 (by decide) ?_
      refine g_bipush X (v := (57 : Int32)) dX13_number_28 (by decide) ?_
      obtain ⟨r8, D7, e6, h⟩ := cI_s h
      refine g_S X (As := [.int r5, .int (48 : Int32), .int (57 : Int32)]) (rest := []) (c_X13_isIn l G E r5 (48 : Int32) (57 : Int32) _ _ e6) ks_X13_69 ⟨rfl, rfl⟩ hd_X13_isIn (⟨Nat.le_of_ble_eq_true rfl, Nat.le_of_ble_eq_true rfl⟩) rfl rfl (Nat.le_of_ble_eq_true rfl) dX13_number_30 ?_
      refine g_if_eq X (tgt := 65) dX13_number_33 (by decide) (fun c12 => ?_) (fun c12 => ?_)
      · have h := (ite_s h).1 c12
        refine g_sub (lv' := [(0, .ref (E.1 84)), (2, .int x2), (3, .int x3)]) [0, 2, 3] rfl ?_
        exact h1 _ (Option.some.inj h).symm
      · have h := (ite_s h).2 c12
        refine g_bipush X (v := (10 : Int32)) dX13_number_36 (by decide) ?_
        refine g_iload_n X 2 (i0 := 2) dX13_number_38 rfl rfl ?_
        refine g_imul X dX13_number_39 ?_
        refine g_aload_n X 0 (i0 := 0) dX13_number_40 rfl rfl ?_
        obtain ⟨r11, D10, e9, h⟩ := cI_s h
        refine g_V X (As := []) (rest := [.int ((10 : Int32) * x2)]) (c_X13_sign l G E  _ _ e9) 84 (wg_84 E _) rfl rfl kv_X13_221 ⟨rfl, rfl⟩ ⟨rfl, hd_X13_sign⟩ (⟨Nat.le_of_ble_eq_true rfl, Nat.le_of_ble_eq_true rfl⟩) rfl rfl (Nat.le_of_ble_eq_true rfl) dX13_number_41 ?_
        refine g_iadd X dX13_number_44 ?_
        refine g_bipush X (v := (48 : Int32)) dX13_number_45 (by decide) ?_
        refine g_isub X dX13_number_47 ?_
        refine g_istore_n X (i0 := 2) (lv' := [(2, .int ((((10 : Int32) * x2) + r11) - (48 : Int32))), (0, .ref (E.1 84)), (1, .int x1), (3, .int x3)]) dX13_number_48 rfl (by decide) rfl ?_
        refine g_aload_n X 1 (i0 := 0) dX13_number_49 rfl rfl ?_
        refine g_dup X dX13_number_50 rfl ?_
        refine g_get X (D := D10) (v := .int (D10.1 146)) (T := TX13) 84 uX13 (wg_84 E _) rfl 20 (by decide) fl_X13_211 rfl rfl dX13_number_51 ?_
        refine g_iconst X (v := (1 : Int32)) dX13_number_54 (by decide) ?_
        refine g_iadd X dX13_number_55 ?_
        refine g_put X (D := D10) (v := .int ((D10.1 146) + (1 : Int32))) (T := TX13) (D' := (setI D10 146 ((D10.1 146) + (1 : Int32)))) 84 uX13 tyX13 tyX13_ok nmX13 (wg_84 E _) rfl 20 (by decide) fl_X13_211 rfl rfl rfl rfl (Nat.le_of_ble_eq_true rfl) (ws_I_146 E _ _) dX13_number_56 ?_
        refine g_iinc X 3 (v := (x3 + (1 : Int32))) (lv' := [(3, .int (x3 + (1 : Int32))), (2, .int ((((10 : Int32) * x2) + r11) - (48 : Int32))), (0, .ref (E.1 84)), (1, .int x1)]) dX13_number_59 rfl rfl (by decide) rfl ?_
        refine g_goto X (tgt := 10) dX13_number_62 (by decide) ?_
        refine g_sub (lv' := [(0, .ref (E.1 84)), (1, .int x1), (2, .int ((((10 : Int32) * x2) + r11) - (48 : Int32))), (3, .int (x3 + (1 : Int32)))]) [2, 3, 1, 0] rfl ?_
        exact h1 _ (Option.some.inj h).symm
set_option maxRecDepth 100000 in
set_option maxHeartbeats 4000000 in
theorem bl_X13_number_2 {p : Program} {l : Launch} {e : Env} {s : State} {m : MethodId} {args : Array Value} {below : List Frame} {meth : Method} {c : Code} {G : va_G} {E : EE} {r : RT} (X : CX p s m args meth c cX13_number RX13 4 G E) (hr : meth.sig.returnType = (some .int)) (x2 : Int32) (x3 : Int32) (D : DD) (o : (Nat × List Int32 × DD) ⊕ RT) (h : b_X13_number_2 x2 x3 D = some o) (h1 : ∀ x, o = .inl x → hg_X13_number p l e s m args below meth c G E r x.1 x.2.1 x.2.2) (h2 : ∀ x, o = .inr x → x = r) : GW p l e (rmm 2) s m args below meth c G E 4 (MQ below (QR G E s.heap.size r) args s 0 0 (fr E s.heap.size)) 0 0 D 65 [(0, .ref (E.1 84)), (2, .int x2), (3, .int x3)] [] := by
  unfold b_X13_number_2 at h
  refine g_aload_n X 0 (i0 := 0) dX13_number_65 rfl rfl ?_
  refine g_dup X dX13_number_66 rfl ?_
  refine g_get X (D := D) (v := .int (D.1 149)) (T := TX13) 84 uX13 (wg_84 E _) rfl 23 (by decide) fl_X13_217 rfl rfl dX13_number_67 ?_
  refine g_iload_n X 2 (i0 := 3) dX13_number_70 rfl rfl ?_
  refine g_if_ne X (tgt := 78) dX13_number_71 (by decide) (fun c17 => ?_) (fun c17 => ?_)
  · have h := (ite_s h).2 c17
    refine g_iconst X (v := (0 : Int32)) dX13_number_78 (by decide) ?_
    refine g_ior X dX13_number_79 ?_
    obtain ⟨z15, h⟩ := chk_s h
    refine g_put X (D := D) (v := .int ((D.1 149) ||| (0 : Int32))) (T := TX13) (D' := (setI D 149 ((D.1 149) ||| (0 : Int32)))) 84 uX13 tyX13 tyX13_ok nmX13 (wg_84 E _) rfl 23 (by decide) fl_X13_217 rfl rfl (narrow_z z15) (fits_z z15) (Nat.le_of_ble_eq_true rfl) (ws_I_149 E _ _) dX13_number_80 ?_
    refine g_iload_n X 1 (i0 := 2) dX13_number_83 rfl rfl ?_
    exact g_iret X hr rfl dX13_number_84 (h2 _ (Option.some.inj h).symm)
  · have h := (ite_s h).1 c17
    refine g_iconst X (v := (1 : Int32)) dX13_number_74 (by decide) ?_
    refine g_goto X (tgt := 79) dX13_number_75 (by decide) ?_
    refine g_ior X dX13_number_79 ?_
    obtain ⟨z16, h⟩ := chk_s h
    refine g_put X (D := D) (v := .int ((D.1 149) ||| (1 : Int32))) (T := TX13) (D' := (setI D 149 ((D.1 149) ||| (1 : Int32)))) 84 uX13 tyX13 tyX13_ok nmX13 (wg_84 E _) rfl 23 (by decide) fl_X13_217 rfl rfl (narrow_z z16) (fits_z z16) (Nat.le_of_ble_eq_true rfl) (ws_I_149 E _ _) dX13_number_80 ?_
    refine g_iload_n X 1 (i0 := 2) dX13_number_83 rfl rfl ?_
    exact g_iret X hr rfl dX13_number_84 (h2 _ (Option.some.inj h).symm)
set_option maxRecDepth 100000 in
set_option maxHeartbeats 4000000 in
theorem c_X13_number (l : Launch) (G : va_G) (E : EE) (a0 : Int32) (D : DD) (r : RT) (h : S_X13_number a0 D = some r) : MM l G E yX13_number cX13_number 4 (some .int) (rmm 2) [.ref (E.1 84), .int a0] D r := by
  unfold S_X13_number at h
  refine m_of rfl (Nat.le_of_ble_eq_true rfl) ?_
  intro p e s m args below meth c X hr
  exact run_G (T := T_X13_number) (HG := hg_X13_number p l e s m args below meth c G E r) (by
    intro k ls D o hT h1 h2
    unfold T_X13_number at hT
    split at hT
    · exact bl_X13_number_0 X hr _ D o hT h1 h2
    · exact bl_X13_number_1 X hr _ _ _ D o hT h1 h2
    · exact bl_X13_number_2 X hr _ _ D o hT h1 h2
    · cases hT) FUEL 0 [a0] D h
theorem fl_X13_50 : Cond.fieldLink RX13 50 "StoneQuarryModel" "isLeft" "[I" ∈ UT := ut 1366 (by decide +kernel) (by decide +kernel)
theorem fl_X13_53 : Cond.fieldLink RX13 53 "StoneQuarryModel" "words" "[I" ∈ UT := ut 1367 (by decide +kernel) (by decide +kernel)
theorem fl_X13_56 : Cond.fieldLink RX13 56 "StoneQuarryModel" "wordAt" "[I" ∈ UT := ut 1368 (by decide +kernel) (by decide +kernel)
theorem wg_96 (E : EE) (D : DD) : (wd E D)[96]? = some (E.1 96, .inl (E.2 0, 7, .inl (D.2.2.1 81))) := rfl
theorem wg_97 (E : EE) (D : DD) : (wd E D)[97]? = some (E.1 97, .inl (E.2 0, 34, .inl (D.2.2.1 82))) := rfl
theorem wg_98 (E : EE) (D : DD) : (wd E D)[98]? = some (E.1 98, .inl (E.2 0, 8, .inl (D.2.2.1 83))) := rfl
theorem ws_A_81 (E : EE) (D : DD) (f : Nat → Int32) : (wd E D).set 96 (E.1 96, .inl (E.2 0, 7, .inl f)) = wd E (setA D 81 f) := rfl
def b_X13_word_0  (D : DD) : Option ((Nat × List Int32 × DD) ⊕ RT) := some (.inl (1, [(0 : Int32)], D))
def b_X13_word_1 (x1 : Int32) (D : DD) : Option ((Nat × List Int32 × DD) ⊕ RT) := (if (7 : Int32) ≤ x1 then some (.inl (2, [(0 : Int32), (-1 : Int32)], D)) else (if inB x1 7 = true then some (.inl (1, [(x1 + (1 : Int32))], (setA D 81 (upd (D.2.2.1 81) x1.toNatClampNeg (1 : Int32))))) else none))
def b_X13_word_2 (x1 : Int32) (x2 : Int32) (D : DD) : Option ((Nat × List Int32 × DD) ⊕ RT) := (if 0 ≤ x2 then some (.inr (0, some (.int x2), D)) else (if (D.1 149) = 0 then some (.inl (3, [x1, x2, (0 : Int32), (0 : Int32)], D)) else some (.inr (0, some (.int x2), D))))
def b_X13_word_3 (x1 : Int32) (x2 : Int32) (x3 : Int32) (x4 : Int32) (D : DD) : Option ((Nat × List Int32 × DD) ⊕ RT) := (if (7 : Int32) ≤ x4 then (if x3 = 0 then (if x3 = 0 then some (.inl (4, [(x1 + (1 : Int32)), x2, (0 : Int32)], (setI (setI D 149 (1 : Int32)) 146 ((D.1 146) + (0 : Int32))))) else some (.inl (4, [(x1 + (1 : Int32)), x2, (0 : Int32)], (setI (setI D 149 (1 : Int32)) 146 ((D.1 146) + (1 : Int32)))))) else (if x3 = 0 then some (.inl (4, [(x1 + (1 : Int32)), x2, (0 : Int32)], (setI (setI D 149 (0 : Int32)) 146 ((D.1 146) + (0 : Int32))))) else some (.inl (4, [(x1 + (1 : Int32)), x2, (0 : Int32)], (setI (setI D 149 (0 : Int32)) 146 ((D.1 146) + (1 : Int32))))))) else (if inB x4 7 = true then (if inB x4 8 = true then (if inB (x4 + (1 : Int32)) 8 = true then (if ((D.2.2.1 83) (x4 + (1 : Int32)).toNatClampNeg) ≤ (((D.2.2.1 83) x4.toNatClampNeg) + x1) then (if inB x4 7 = true then (if inB x4 7 = true then (if ((upd (D.2.2.1 81) x4.toNatClampNeg (((D.2.2.1 81) x4.toNatClampNeg) &&& (0 : Int32))) x4.toNatClampNeg) = (1 : Int32) then some (.inl (3, [x1, x2, (x3 ||| (1 : Int32)), (x4 + (1 : Int32))], (setA D 81 (upd (D.2.2.1 81) x4.toNatClampNeg (((D.2.2.1 81) x4.toNatClampNeg) &&& (0 : Int32)))))) else some (.inl (3, [x1, x2, (x3 ||| (0 : Int32)), (x4 + (1 : Int32))], (setA D 81 (upd (D.2.2.1 81) x4.toNatClampNeg (((D.2.2.1 81) x4.toNatClampNeg) &&& (0 : Int32))))))) else none) else none) else (if inB x4 8 = true then (if inB (((D.2.2.1 83) x4.toNatClampNeg) + x1) 34 = true then (cI (S_X13_sign D) (fun r18 D17 => (if ((D.2.2.1 82) (((D.2.2.1 83) x4.toNatClampNeg) + x1).toNatClampNeg) = r18 then (if inB x4 7 = true then (if inB x4 7 = true then (if ((upd (D17.2.2.1 81) x4.toNatClampNeg (((D.2.2.1 81) x4.toNatClampNeg) &&& (1 : Int32))) x4.toNatClampNeg) = (1 : Int32) then some (.inl (3, [x1, x2, (x3 ||| (1 : Int32)), (x4 + (1 : Int32))], (setA D17 81 (upd (D17.2.2.1 81) x4.toNatClampNeg (((D.2.2.1 81) x4.toNatClampNeg) &&& (1 : Int32)))))) else some (.inl (3, [x1, x2, (x3 ||| (0 : Int32)), (x4 + (1 : Int32))], (setA D17 81 (upd (D17.2.2.1 81) x4.toNatClampNeg (((D.2.2.1 81) x4.toNatClampNeg) &&& (1 : Int32))))))) else none) else none) else (if inB x4 7 = true then (if inB x4 7 = true then (if ((upd (D17.2.2.1 81) x4.toNatClampNeg (((D.2.2.1 81) x4.toNatClampNeg) &&& (0 : Int32))) x4.toNatClampNeg) = (1 : Int32) then some (.inl (3, [x1, x2, (x3 ||| (1 : Int32)), (x4 + (1 : Int32))], (setA D17 81 (upd (D17.2.2.1 81) x4.toNatClampNeg (((D.2.2.1 81) x4.toNatClampNeg) &&& (0 : Int32)))))) else some (.inl (3, [x1, x2, (x3 ||| (0 : Int32)), (x4 + (1 : Int32))], (setA D17 81 (upd (D17.2.2.1 81) x4.toNatClampNeg (((D.2.2.1 81) x4.toNatClampNeg) &&& (0 : Int32))))))) else none) else none)))) else none) else none)) else none) else none) else none))
def b_X13_word_4 (x1 : Int32) (x2 : Int32) (x4 : Int32) (D : DD) : Option ((Nat × List Int32 × DD) ⊕ RT) := (if (7 : Int32) ≤ x4 then some (.inl (2, [x1, x2], D)) else (if inB x4 7 = true then (if ((D.2.2.1 81) x4.toNatClampNeg) = (1 : Int32) then (if inB x4 8 = true then (if inB (x4 + (1 : Int32)) 8 = true then (if (((D.2.2.1 83) x4.toNatClampNeg) + x1) = ((D.2.2.1 83) (x4 + (1 : Int32)).toNatClampNeg) then some (.inl (4, [x1, x4, (x4 + (1 : Int32))], D)) else some (.inl (4, [x1, x2, (x4 + (1 : Int32))], D))) else none) else none) else some (.inl (4, [x1, x2, (x4 + (1 : Int32))], D))) else none))
def T_X13_word (k : Nat) (ls : List Int32) (D : DD) : Option ((Nat × List Int32 × DD) ⊕ RT) := match k, ls with
  | 0, [] => b_X13_word_0  D
  | 1, [x1] => b_X13_word_1 x1 D
  | 2, [x1, x2] => b_X13_word_2 x1 x2 D
  | 3, [x1, x2, x3, x4] => b_X13_word_3 x1 x2 x3 x4 D
  | 4, [x1, x2, x4] => b_X13_word_4 x1 x2 x4 D
  | _, _ => none
def S_X13_word  (D : DD) : Option RT := run T_X13_word FUEL 0 [] D
def hg_X13_word (p : Program) (l : Launch) (e : Env) (s : State) (m : MethodId) (args : Array Value) (below : List Frame) (meth : Method) (c : Code) (G : va_G) (E : EE) (r : RT) (k : Nat) (ls : List Int32) (D : DD) : Prop := match k, ls with
  | 0, [] => GW p l e (rmm 1) s m args below meth c G E 5 (MQ below (QR G E s.heap.size r) args s 0 0 (fr E s.heap.size)) 0 0 D 0 [(0, .ref (E.1 84))] []
  | 1, [x1] => GW p l e (rmm 1) s m args below meth c G E 5 (MQ below (QR G E s.heap.size r) args s 0 0 (fr E s.heap.size)) 0 0 D 2 [(0, .ref (E.1 84)), (1, .int x1)] []
  | 2, [x1, x2] => GW p l e (rmm 1) s m args below meth c G E 5 (MQ below (QR G E s.heap.size r) args s 0 0 (fr E s.heap.size)) 0 0 D 25 [(0, .ref (E.1 84)), (1, .int x1), (2, .int x2)] []
  | 3, [x1, x2, x3, x4] => GW p l e (rmm 1) s m args below meth c G E 5 (MQ below (QR G E s.heap.size r) args s 0 0 (fr E s.heap.size)) 0 0 D 41 [(0, .ref (E.1 84)), (1, .int x1), (2, .int x2), (3, .int x3), (4, .int x4)] []
  | 4, [x1, x2, x4] => GW p l e (rmm 1) s m args below meth c G E 5 (MQ below (QR G E s.heap.size r) args s 0 0 (fr E s.heap.size)) 0 0 D 167 [(0, .ref (E.1 84)), (1, .int x1), (2, .int x2), (4, .int x4)] []
  | _, _ => True
set_option maxRecDepth 100000 in
set_option maxHeartbeats 4000000 in
theorem bl_X13_word_0 {p : Program} {l : Launch} {e : Env} {s : State} {m : MethodId} {args : Array Value} {below : List Frame} {meth : Method} {c : Code} {G : va_G} {E : EE} {r : RT} (X : CX p s m args meth c cX13_word RX13 5 G E) (hr : meth.sig.returnType = (some .int))  (D : DD) (o : (Nat × List Int32 × DD) ⊕ RT) (h : b_X13_word_0  D = some o) (h1 : ∀ x, o = .inl x → hg_X13_word p l e s m args below meth c G E r x.1 x.2.1 x.2.2) (h2 : ∀ x, o = .inr x → x = r) : GW p l e (rmm 1) s m args below meth c G E 5 (MQ below (QR G E s.heap.size r) args s 0 0 (fr E s.heap.size)) 0 0 D 0 [(0, .ref (E.1 84))] [] := by
  unfold b_X13_word_0 at h
  refine g_iconst X (v := (0 : Int32)) dX13_word_0 (by decide) ?_
  refine g_istore_n X (i0 := 1) (lv' := [(1, .int (0 : Int32)), (0, .ref (E.1 84))]) dX13_word_1 rfl (by decide) rfl ?_
  refine g_sub (lv' := [(0, .ref (E.1 84)), (1, .int (0 : Int32))]) [1, 0] rfl ?_
  exact h1 _ (Option.some.inj h).symm
set_option maxRecDepth 100000 in
set_option maxHeartbeats 4000000 in
theorem bl_X13_word_1 {p : Program} {l : Launch} {e : Env} {s : State} {m : MethodId} {args : Array Value} {below : List Frame} {meth : Method} {c : Code} {G : va_G} {E : EE} {r : RT} (X : CX p s m args meth c cX13_word RX13 5 G E) (hr : meth.sig.returnType = (some .int)) (x1 : Int32) (D : DD) (o : (Nat × List Int32 × DD) ⊕ RT) (h : b_X13_word_1 x1 D = some o) (h1 : ∀ x, o = .inl x → hg_X13_word p l e s m args below meth c G E r x.1 x.2.1 x.2.2) (h2 : ∀ x, o = .inr x → x = r) : GW p l e (rmm 1) s m args below meth c G E 5 (MQ below (QR G E s.heap.size r) args s 0 0 (fr E s.heap.size)) 0 0 D 2 [(0, .ref (E.1 84)), (1, .int x1)] [] := by
  unfold b_X13_word_1 at h
  refine g_iload_n X 1 (i0 := 1) dX13_word_2 rfl rfl ?_
  refine g_bipush X (v := (7 : Int32)) dX13_word_3 (by decide) ?_
  refine g_icmp_ge X (tgt := 21) dX13_word_5 (by decide) (fun c2 => ?_) (fun c2 => ?_)
  · have h := (ite_s h).1 c2
    refine g_iconst X (v := (0 : Int32)) dX13_word_21 (by decide) ?_
    refine g_istore_n X (i0 := 1) (lv' := [(1, .int (0 : Int32)), (0, .ref (E.1 84))]) dX13_word_22 rfl (by decide) rfl ?_
    refine g_iconst X (v := (-1 : Int32)) dX13_word_23 (by decide) ?_
    refine g_istore_n X (i0 := 2) (lv' := [(2, .int (-1 : Int32)), (1, .int (0 : Int32)), (0, .ref (E.1 84))]) dX13_word_24 rfl (by decide) rfl ?_
    refine g_sub (lv' := [(0, .ref (E.1 84)), (1, .int (0 : Int32)), (2, .int (-1 : Int32))]) [2, 1, 0] rfl ?_
    exact h1 _ (Option.some.inj h).symm
  · have h := (ite_s h).2 c2
    refine g_aload_n X 0 (i0 := 0) dX13_word_8 rfl rfl ?_
    refine g_get X (D := D) (v := .ref (E.1 96)) (T := TX13) 84 uX13 (wg_84 E _) rfl 16 (by decide) fl_X13_50 rfl rfl dX13_word_9 ?_
    refine g_iload_n X 1 (i0 := 1) dX13_word_12 rfl rfl ?_
    refine g_iconst X (v := (1 : Int32)) dX13_word_13 (by decide) ?_
    obtain ⟨b1, h⟩ := chk_s h
    refine g_iast X (D := D) (f := (D.2.2.1 81)) (i := x1) (x := (1 : Int32)) (D' := (setA D 81 (upd (D.2.2.1 81) x1.toNatClampNeg (1 : Int32)))) 96 (wg_96 E _) (inB_vp b1) (ws_A_81 E _ _) dX13_word_14 ?_
    refine g_iinc X 1 (v := (x1 + (1 : Int32))) (lv' := [(1, .int (x1 + (1 : Int32))), (0, .ref (E.1 84))]) dX13_word_15 rfl rfl (by decide) rfl ?_
    refine g_goto X (tgt := 2) dX13_word_18 (by decide) ?_
    refine g_sub (lv' := [(0, .ref (E.1 84)), (1, .int (x1 + (1 : Int32)))]) [1, 0] rfl ?_
    exact h1 _ (Option.some.inj h).symm
set_option maxRecDepth 100000 in
set_option maxHeartbeats 4000000 in
theorem bl_X13_word_2 {p : Program} {l : Launch} {e : Env} {s : State} {m : MethodId} {args : Array Value} {below : List Frame} {meth : Method} {c : Code} {G : va_G} {E : EE} {r : RT} (X : CX p s m args meth c cX13_word RX13 5 G E) (hr : meth.sig.returnType = (some .int)) (x1 : Int32) (x2 : Int32) (D : DD) (o : (Nat × List Int32 × DD) ⊕ RT) (h : b_X13_word_2 x1 x2 D = some o) (h1 : ∀ x, o = .inl x → hg_X13_word p l e s m args below meth c G E r x.1 x.2.1 x.2.2) (h2 : ∀ x, o = .inr x → x = r) : GW p l e (rmm 1) s m args below meth c G E 5 (MQ below (QR G E s.heap.size r) args s 0 0 (fr E s.heap.size)) 0 0 D 25 [(0, .ref (E.1 84)), (1, .int x1), (2, .int x2)] [] := by
  unfold b_X13_word_2 at h
  refine g_iload_n X 2 (i0 := 2) dX13_word_25 rfl rfl ?_
  refine g_if_ge X (tgt := 222) dX13_word_26 (by decide) (fun c4 => ?_) (fun c4 => ?_)
  · have h := (ite_s h).1 c4
    refine g_iload_n X 2 (i0 := 2) dX13_word_222 rfl rfl ?_
    exact g_iret X hr rfl dX13_word_223 (h2 _ (Option.some.inj h).symm)
  · have h := (ite_s h).2 c4
    refine g_aload_n X 0 (i0 := 0) dX13_word_29 rfl rfl ?_
    refine g_get X (D := D) (v := .int (D.1 149)) (T := TX13) 84 uX13 (wg_84 E _) rfl 23 (by decide) fl_X13_217 rfl rfl dX13_word_30 ?_
    refine g_if_ne X (tgt := 222) dX13_word_33 (by decide) (fun c3 => ?_) (fun c3 => ?_)
    · have h := (ite_s h).2 c3
      refine g_iload_n X 2 (i0 := 2) dX13_word_222 rfl rfl ?_
      exact g_iret X hr rfl dX13_word_223 (h2 _ (Option.some.inj h).symm)
    · have h := (ite_s h).1 c3
      refine g_iconst X (v := (0 : Int32)) dX13_word_36 (by decide) ?_
      refine g_istore_n X (i0 := 3) (lv' := [(3, .int (0 : Int32)), (0, .ref (E.1 84)), (1, .int x1), (2, .int x2)]) dX13_word_37 rfl (by decide) rfl ?_
      refine g_iconst X (v := (0 : Int32)) dX13_word_38 (by decide) ?_
      refine g_istore X (lv' := [(4, .int (0 : Int32)), (3, .int (0 : Int32)), (0, .ref (E.1 84)), (1, .int x1), (2, .int x2)]) dX13_word_39 (by decide) rfl ?_
      refine g_sub (lv' := [(0, .ref (E.1 84)), (1, .int x1), (2, .int x2), (3, .int (0 : Int32)), (4, .int (0 : Int32))]) [2, 3, 4, 1, 0] rfl ?_
      exact h1 _ (Option.some.inj h).symm
set_option maxRecDepth 100000 in
set_option maxHeartbeats 4000000 in
theorem bl_X13_word_3 {p : Program} {l : Launch} {e : Env} {s : State} {m : MethodId} {args : Array Value} {below : List Frame} {meth : Method} {c : Code} {G : va_G} {E : EE} {r : RT} (X : CX p s m args meth c cX13_word RX13 5 G E) (hr : meth.sig.returnType = (some .int)) (x1 : Int32) (x2 : Int32) (x3 : Int32) (x4 : Int32) (D : DD) (o : (Nat × List Int32 × DD) ⊕ RT) (h : b_X13_word_3 x1 x2 x3 x4 D = some o) (h1 : ∀ x, o = .inl x → hg_X13_word p l e s m args below meth c G E r x.1 x.2.1 x.2.2) (h2 : ∀ x, o = .inr x → x = r) : GW p l e (rmm 1) s m args below meth c G E 5 (MQ below (QR G E s.heap.size r) args s 0 0 (fr E s.heap.size)) 0 0 D 41 [(0, .ref (E.1 84)), (1, .int x1), (2, .int x2), (3, .int x3), (4, .int x4)] [] := by
  unfold b_X13_word_3 at h
  refine g_iload X 4 dX13_word_41 rfl ?_
  refine g_bipush X (v := (7 : Int32)) dX13_word_43 (by decide) ?_
  refine g_icmp_ge X (tgt := 130) dX13_word_45 (by decide) (fun c27 => ?_) (fun c27 => ?_)
  · have h := (ite_s h).1 c27
    refine g_aload_n X 0 (i0 := 0) dX13_word_130 rfl rfl ?_
    refine g_iload_n X 3 (i0 := 3) dX13_word_131 rfl rfl ?_
    refine g_if_ne X (tgt := 139) dX13_word_132 (by decide) (fun c7 => ?_) (fun c7 => ?_)
    · have h := (ite_s h).2 c7
      refine g_iconst X (v := (0 : Int32)) dX13_word_139 (by decide) ?_
      refine g_put X (D := D) (v := .int (0 : Int32)) (T := TX13) (D' := (setI D 149 (0 : Int32))) 84 uX13 tyX13 tyX13_ok nmX13 (wg_84 E _) rfl 23 (by decide) fl_X13_217 rfl rfl rfl rfl (Nat.le_of_ble_eq_true rfl) (ws_I_149 E _ _) dX13_word_140 ?_
      refine g_aload_n X 0 (i0 := 0) dX13_word_143 rfl rfl ?_
      refine g_dup X dX13_word_144 rfl ?_
      refine g_get X (D := (setI D 149 (0 : Int32))) (v := .int (D.1 146)) (T := TX13) 84 uX13 (wg_84 E _) rfl 20 (by decide) fl_X13_211 rfl rfl dX13_word_145 ?_
      refine g_iload_n X 3 (i0 := 3) dX13_word_148 rfl rfl ?_
      refine g_if_eq X (tgt := 156) dX13_word_149 (by decide) (fun c5 => ?_) (fun c5 => ?_)
      · have h := (ite_s h).1 c5
        refine g_iconst X (v := (0 : Int32)) dX13_word_156 (by decide) ?_
        refine g_iadd X dX13_word_157 ?_
        refine g_put X (D := (setI D 149 (0 : Int32))) (v := .int ((D.1 146) + (0 : Int32))) (T := TX13) (D' := (setI (setI D 149 (0 : Int32)) 146 ((D.1 146) + (0 : Int32)))) 84 uX13 tyX13 tyX13_ok nmX13 (wg_84 E _) rfl 20 (by decide) fl_X13_211 rfl rfl rfl rfl (Nat.le_of_ble_eq_true rfl) (ws_I_146 E _ _) dX13_word_158 ?_
        refine g_iinc X 1 (v := (x1 + (1 : Int32))) (lv' := [(1, .int (x1 + (1 : Int32))), (0, .ref (E.1 84)), (2, .int x2), (3, .int x3), (4, .int x4)]) dX13_word_161 rfl rfl (by decide) rfl ?_
        refine g_iconst X (v := (0 : Int32)) dX13_word_164 (by decide) ?_
        refine g_istore X (lv' := [(4, .int (0 : Int32)), (1, .int (x1 + (1 : Int32))), (0, .ref (E.1 84)), (2, .int x2), (3, .int x3)]) dX13_word_165 (by decide) rfl ?_
        refine g_sub (lv' := [(0, .ref (E.1 84)), (1, .int (x1 + (1 : Int32))), (2, .int x2), (4, .int (0 : Int32))]) [2, 1, 3, 0] rfl ?_
        exact h1 _ (Option.some.inj h).symm
      · have h := (ite_s h).2 c5
        refine g_iconst X (v := (1 : Int32)) dX13_word_152 (by decide) ?_
        refine g_goto X (tgt := 157) dX13_word_153 (by decide) ?_
        refine g_iadd X dX13_word_157 ?_
        refine g_put X (D := (setI D 149 (0 : Int32))) (v := .int ((D.1 146) + (1 : Int32))) (T := TX13) (D' := (setI (setI D 149 (0 : Int32)) 146 ((D.1 146) + (1 : Int32)))) 84 uX13 tyX13 tyX13_ok nmX13 (wg_84 E _) rfl 20 (by decide) fl_X13_211 rfl rfl rfl rfl (Nat.le_of_ble_eq_true rfl) (ws_I_146 E _ _) dX13_word_158 ?_
        refine g_iinc X 1 (v := (x1 + (1 : Int32))) (lv' := [(1, .int (x1 + (1 : Int32))), (0, .ref (E.1 84)), (2, .int x2), (3, .int x3), (4, .int x4)]) dX13_word_161 rfl rfl (by decide) rfl ?_
        refine g_iconst X (v := (0 : Int32)) dX13_word_164 (by decide) ?_
        refine g_istore X (lv' := [(4, .int (0 : Int32)), (1, .int (x1 + (1 : Int32))), (0, .ref (E.1 84)), (2, .int x2), (3, .int x3)]) dX13_word_165 (by decide) rfl ?_
        refine g_sub (lv' := [(0, .ref (E.1 84)), (1, .int (x1 + (1 : Int32))), (2, .int x2), (4, .int (0 : Int32))]) [2, 1, 3, 0] rfl ?_
        exact h1 _ (Option.some.inj h).symm
    · have h := (ite_s h).1 c7
      refine g_iconst X (v := (1 : Int32)) dX13_word_135 (by decide) ?_
      refine g_goto X (tgt := 140) dX13_word_136 (by decide) ?_
      refine g_put X (D := D) (v := .int (1 : Int32)) (T := TX13) (D' := (setI D 149 (1 : Int32))) 84 uX13 tyX13 tyX13_ok nmX13 (wg_84 E _) rfl 23 (by decide) fl_X13_217 rfl rfl rfl rfl (Nat.le_of_ble_eq_true rfl) (ws_I_149 E _ _) dX13_word_140 ?_
      refine g_aload_n X 0 (i0 := 0) dX13_word_143 rfl rfl ?_
      refine g_dup X dX13_word_144 rfl ?_
      refine g_get X (D := (setI D 149 (1 : Int32))) (v := .int (D.1 146)) (T := TX13) 84 uX13 (wg_84 E _) rfl 20 (by decide) fl_X13_211 rfl rfl dX13_word_145 ?_
      refine g_iload_n X 3 (i0 := 3) dX13_word_148 rfl rfl ?_
      refine g_if_eq X (tgt := 156) dX13_word_149 (by decide) (fun c6 => ?_) (fun c6 => ?_)
      · have h := (ite_s h).1 c6
        refine g_iconst X (v := (0 : Int32)) dX13_word_156 (by decide) ?_
        refine g_iadd X dX13_word_157 ?_
        refine g_put X (D := (setI D 149 (1 : Int32))) (v := .int ((D.1 146) + (0 : Int32))) (T := TX13) (D' := (setI (setI D 149 (1 : Int32)) 146 ((D.1 146) + (0 : Int32)))) 84 uX13 tyX13 tyX13_ok nmX13 (wg_84 E _) rfl 20 (by decide) fl_X13_211 rfl rfl rfl rfl (Nat.le_of_ble_eq_true rfl) (ws_I_146 E _ _) dX13_word_158 ?_
        refine g_iinc X 1 (v := (x1 + (1 : Int32))) (lv' := [(1, .int (x1 + (1 : Int32))), (0, .ref (E.1 84)), (2, .int x2), (3, .int x3), (4, .int x4)]) dX13_word_161 rfl rfl (by decide) rfl ?_
        refine g_iconst X (v := (0 : Int32)) dX13_word_164 (by decide) ?_
        refine g_istore X (lv' := [(4, .int (0 : Int32)), (1, .int (x1 + (1 : Int32))), (0, .ref (E.1 84)), (2, .int x2), (3, .int x3)]) dX13_word_165 (by decide) rfl ?_
        refine g_sub (lv' := [(0, .ref (E.1 84)), (1, .int (x1 + (1 : Int32))), (2, .int x2), (4, .int (0 : Int32))]) [2, 1, 3, 0] rfl ?_
        exact h1 _ (Option.some.inj h).symm
      · have h := (ite_s h).2 c6
        refine g_iconst X (v := (1 : Int32)) dX13_word_152 (by decide) ?_
        refine g_goto X (tgt := 157) dX13_word_153 (by decide) ?_
        refine g_iadd X dX13_word_157 ?_
        refine g_put X (D := (setI D 149 (1 : Int32))) (v := .int ((D.1 146) + (1 : Int32))) (T := TX13) (D' := (setI (setI D 149 (1 : Int32)) 146 ((D.1 146) + (1 : Int32)))) 84 uX13 tyX13 tyX13_ok nmX13 (wg_84 E _) rfl 20 (by decide) fl_X13_211 rfl rfl rfl rfl (Nat.le_of_ble_eq_true rfl) (ws_I_146 E _ _) dX13_word_158 ?_
        refine g_iinc X 1 (v := (x1 + (1 : Int32))) (lv' := [(1, .int (x1 + (1 : Int32))), (0, .ref (E.1 84)), (2, .int x2), (3, .int x3), (4, .int x4)]) dX13_word_161 rfl rfl (by decide) rfl ?_
        refine g_iconst X (v := (0 : Int32)) dX13_word_164 (by decide) ?_
        refine g_istore X (lv' := [(4, .int (0 : Int32)), (1, .int (x1 + (1 : Int32))), (0, .ref (E.1 84)), (2, .int x2), (3, .int x3)]) dX13_word_165 (by decide) rfl ?_
        refine g_sub (lv' := [(0, .ref (E.1 84)), (1, .int (x1 + (1 : Int32))), (2, .int x2), (4, .int (0 : Int32))]) [2, 1, 3, 0] rfl ?_
        exact h1 _ (Option.some.inj h).symm
  · have h := (ite_s h).2 c27
    refine g_aload_n X 0 (i0 := 0) dX13_word_48 rfl rfl ?_
    refine g_get X (D := D) (v := .ref (E.1 96)) (T := TX13) 84 uX13 (wg_84 E _) rfl 16 (by decide) fl_X13_50 rfl rfl dX13_word_49 ?_
    refine g_iload X 4 dX13_word_52 rfl ?_
    refine g_dup2 X dX13_word_54 rfl rfl ?_
    obtain ⟨b8, h⟩ := chk_s h
    refine g_iald X (D := D) (f := (D.2.2.1 81)) (i := x4) 96 (wg_96 E _) (inB_vp b8) dX13_word_55 ?_
    refine g_aload_n X 0 (i0 := 0) dX13_word_56 rfl rfl ?_
    refine g_get X (D := D) (v := .ref (E.1 98)) (T := TX13) 84 uX13 (wg_84 E _) rfl 18 (by decide) fl_X13_56 rfl rfl dX13_word_57 ?_
    refine g_iload X 4 dX13_word_60 rfl ?_
    obtain ⟨b9, h⟩ := chk_s h
    refine g_iald X (D := D) (f := (D.2.2.1 83)) (i := x4) 98 (wg_98 E _) (inB_vp b9) dX13_word_62 ?_
    refine g_iload_n X 1 (i0 := 1) dX13_word_63 rfl rfl ?_
    refine g_iadd X dX13_word_64 ?_
    refine g_aload_n X 0 (i0 := 0) dX13_word_65 rfl rfl ?_
    refine g_get X (D := D) (v := .ref (E.1 98)) (T := TX13) 84 uX13 (wg_84 E _) rfl 18 (by decide) fl_X13_56 rfl rfl dX13_word_66 ?_
    refine g_iload X 4 dX13_word_69 rfl ?_
    refine g_iconst X (v := (1 : Int32)) dX13_word_71 (by decide) ?_
    refine g_iadd X dX13_word_72 ?_
    obtain ⟨b10, h⟩ := chk_s h
    refine g_iald X (D := D) (f := (D.2.2.1 83)) (i := (x4 + (1 : Int32))) 98 (wg_98 E _) (inB_vp b10) dX13_word_73 ?_
    refine g_icmp_ge X (tgt := 102) dX13_word_74 (by decide) (fun c26 => ?_) (fun c26 => ?_)
    · have h := (ite_s h).1 c26
      refine g_iconst X (v := (0 : Int32)) dX13_word_102 (by decide) ?_
      refine g_iand X dX13_word_103 ?_
      obtain ⟨b11, h⟩ := chk_s h
      refine g_iast X (D := D) (f := (D.2.2.1 81)) (i := x4) (x := (((D.2.2.1 81) x4.toNatClampNeg) &&& (0 : Int32))) (D' := (setA D 81 (upd (D.2.2.1 81) x4.toNatClampNeg (((D.2.2.1 81) x4.toNatClampNeg) &&& (0 : Int32))))) 96 (wg_96 E _) (inB_vp b11) (ws_A_81 E _ _) dX13_word_104 ?_
      refine g_iload_n X 3 (i0 := 3) dX13_word_105 rfl rfl ?_
      refine g_aload_n X 0 (i0 := 0) dX13_word_106 rfl rfl ?_
      refine g_get X (D := (setA D 81 (upd (D.2.2.1 81) x4.toNatClampNeg (((D.2.2.1 81) x4.toNatClampNeg) &&& (0 : Int32))))) (v := .ref (E.1 96)) (T := TX13) 84 uX13 (wg_84 E _) rfl 16 (by decide) fl_X13_50 rfl rfl dX13_word_107 ?_
      refine g_iload X 4 dX13_word_110 rfl ?_
      obtain ⟨b12, h⟩ := chk_s h
      refine g_iald X (D := (setA D 81 (upd (D.2.2.1 81) x4.toNatClampNeg (((D.2.2.1 81) x4.toNatClampNeg) &&& (0 : Int32))))) (f := (upd (D.2.2.1 81) x4.toNatClampNeg (((D.2.2.1 81) x4.toNatClampNeg) &&& (0 : Int32)))) (i := x4) 96 (wg_96 E _) (inB_vp b12) dX13_word_112 ?_
      refine g_iconst X (v := (1 : Int32)) dX13_word_113 (by decide) ?_
      refine g_icmp_ne X (tgt := 121) dX13_word_114 (by decide) (fun c13 => ?_) (fun c13 => ?_)
      · have h := (ite_s h).2 c13
        refine g_iconst X (v := (0 : Int32)) dX13_word_121 (by decide) ?_
        refine g_ior X dX13_word_122 ?_
        refine g_istore_n X (i0 := 3) (lv' := [(3, .int (x3 ||| (0 : Int32))), (0, .ref (E.1 84)), (1, .int x1), (2, .int x2), (4, .int x4)]) dX13_word_123 rfl (by decide) rfl ?_
        refine g_iinc X 4 (v := (x4 + (1 : Int32))) (lv' := [(4, .int (x4 + (1 : Int32))), (3, .int (x3 ||| (0 : Int32))), (0, .ref (E.1 84)), (1, .int x1), (2, .int x2)]) dX13_word_124 rfl rfl (by decide) rfl ?_
        refine g_goto X (tgt := 41) dX13_word_127 (by decide) ?_
        refine g_sub (lv' := [(0, .ref (E.1 84)), (1, .int x1), (2, .int x2), (3, .int (x3 ||| (0 : Int32))), (4, .int (x4 + (1 : Int32)))]) [2, 3, 4, 1, 0] rfl ?_
        exact h1 _ (Option.some.inj h).symm
      · have h := (ite_s h).1 c13
        refine g_iconst X (v := (1 : Int32)) dX13_word_117 (by decide) ?_
        refine g_goto X (tgt := 122) dX13_word_118 (by decide) ?_
        refine g_ior X dX13_word_122 ?_
        refine g_istore_n X (i0 := 3) (lv' := [(3, .int (x3 ||| (1 : Int32))), (0, .ref (E.1 84)), (1, .int x1), (2, .int x2), (4, .int x4)]) dX13_word_123 rfl (by decide) rfl ?_
        refine g_iinc X 4 (v := (x4 + (1 : Int32))) (lv' := [(4, .int (x4 + (1 : Int32))), (3, .int (x3 ||| (1 : Int32))), (0, .ref (E.1 84)), (1, .int x1), (2, .int x2)]) dX13_word_124 rfl rfl (by decide) rfl ?_
        refine g_goto X (tgt := 41) dX13_word_127 (by decide) ?_
        refine g_sub (lv' := [(0, .ref (E.1 84)), (1, .int x1), (2, .int x2), (3, .int (x3 ||| (1 : Int32))), (4, .int (x4 + (1 : Int32)))]) [2, 3, 4, 1, 0] rfl ?_
        exact h1 _ (Option.some.inj h).symm
    · have h := (ite_s h).2 c26
      refine g_aload_n X 0 (i0 := 0) dX13_word_77 rfl rfl ?_
      refine g_get X (D := D) (v := .ref (E.1 97)) (T := TX13) 84 uX13 (wg_84 E _) rfl 17 (by decide) fl_X13_53 rfl rfl dX13_word_78 ?_
      refine g_aload_n X 0 (i0 := 0) dX13_word_81 rfl rfl ?_
      refine g_get X (D := D) (v := .ref (E.1 98)) (T := TX13) 84 uX13 (wg_84 E _) rfl 18 (by decide) fl_X13_56 rfl rfl dX13_word_82 ?_
      refine g_iload X 4 dX13_word_85 rfl ?_
      obtain ⟨b14, h⟩ := chk_s h
      refine g_iald X (D := D) (f := (D.2.2.1 83)) (i := x4) 98 (wg_98 E _) (inB_vp b14) dX13_word_87 ?_
      refine g_iload_n X 1 (i0 := 1) dX13_word_88 rfl rfl ?_
      refine g_iadd X dX13_word_89 ?_
      obtain ⟨b15, h⟩ := chk_s h
      refine g_iald X (D := D) (f := (D.2.2.1 82)) (i := (((D.2.2.1 83) x4.toNatClampNeg) + x1)) 97 (wg_97 E _) (inB_vp b15) dX13_word_90 ?_
      refine g_aload_n X 0 (i0 := 0) dX13_word_91 rfl rfl ?_
      obtain ⟨r18, D17, e16, h⟩ := cI_s h
      refine g_V X (As := []) (rest := [.int ((D.2.2.1 82) (((D.2.2.1 83) x4.toNatClampNeg) + x1).toNatClampNeg), .int ((D.2.2.1 81) x4.toNatClampNeg), .int x4, .ref (E.1 96)]) (c_X13_sign l G E  _ _ e16) 84 (wg_84 E _) rfl rfl kv_X13_221 ⟨rfl, rfl⟩ ⟨rfl, hd_X13_sign⟩ (⟨Nat.le_of_ble_eq_true rfl, Nat.le_of_ble_eq_true rfl⟩) rfl rfl (Nat.le_of_ble_eq_true rfl) dX13_word_92 ?_
      refine g_icmp_ne X (tgt := 102) dX13_word_95 (by decide) (fun c25 => ?_) (fun c25 => ?_)
      · have h := (ite_s h).2 c25
        refine g_iconst X (v := (0 : Int32)) dX13_word_102 (by decide) ?_
        refine g_iand X dX13_word_103 ?_
        obtain ⟨b19, h⟩ := chk_s h
        refine g_iast X (D := D17) (f := (D17.2.2.1 81)) (i := x4) (x := (((D.2.2.1 81) x4.toNatClampNeg) &&& (0 : Int32))) (D' := (setA D17 81 (upd (D17.2.2.1 81) x4.toNatClampNeg (((D.2.2.1 81) x4.toNatClampNeg) &&& (0 : Int32))))) 96 (wg_96 E _) (inB_vp b19) (ws_A_81 E _ _) dX13_word_104 ?_
        refine g_iload_n X 3 (i0 := 3) dX13_word_105 rfl rfl ?_
        refine g_aload_n X 0 (i0 := 0) dX13_word_106 rfl rfl ?_
        refine g_get X (D := (setA D17 81 (upd (D17.2.2.1 81) x4.toNatClampNeg (((D.2.2.1 81) x4.toNatClampNeg) &&& (0 : Int32))))) (v := .ref (E.1 96)) (T := TX13) 84 uX13 (wg_84 E _) rfl 16 (by decide) fl_X13_50 rfl rfl dX13_word_107 ?_
        refine g_iload X 4 dX13_word_110 rfl ?_
        obtain ⟨b20, h⟩ := chk_s h
        refine g_iald X (D := (setA D17 81 (upd (D17.2.2.1 81) x4.toNatClampNeg (((D.2.2.1 81) x4.toNatClampNeg) &&& (0 : Int32))))) (f := (upd (D17.2.2.1 81) x4.toNatClampNeg (((D.2.2.1 81) x4.toNatClampNeg) &&& (0 : Int32)))) (i := x4) 96 (wg_96 E _) (inB_vp b20) dX13_word_112 ?_
        refine g_iconst X (v := (1 : Int32)) dX13_word_113 (by decide) ?_
        refine g_icmp_ne X (tgt := 121) dX13_word_114 (by decide) (fun c21 => ?_) (fun c21 => ?_)
        · have h := (ite_s h).2 c21
          refine g_iconst X (v := (0 : Int32)) dX13_word_121 (by decide) ?_
          refine g_ior X dX13_word_122 ?_
          refine g_istore_n X (i0 := 3) (lv' := [(3, .int (x3 ||| (0 : Int32))), (0, .ref (E.1 84)), (1, .int x1), (2, .int x2), (4, .int x4)]) dX13_word_123 rfl (by decide) rfl ?_
          refine g_iinc X 4 (v := (x4 + (1 : Int32))) (lv' := [(4, .int (x4 + (1 : Int32))), (3, .int (x3 ||| (0 : Int32))), (0, .ref (E.1 84)), (1, .int x1), (2, .int x2)]) dX13_word_124 rfl rfl (by decide) rfl ?_
          refine g_goto X (tgt := 41) dX13_word_127 (by decide) ?_
          refine g_sub (lv' := [(0, .ref (E.1 84)), (1, .int x1), (2, .int x2), (3, .int (x3 ||| (0 : Int32))), (4, .int (x4 + (1 : Int32)))]) [2, 3, 4, 1, 0] rfl ?_
          exact h1 _ (Option.some.inj h).symm
        · have h := (ite_s h).1 c21
          refine g_iconst X (v := (1 : Int32)) dX13_word_117 (by decide) ?_
          refine g_goto X (tgt := 122) dX13_word_118 (by decide) ?_
          refine g_ior X dX13_word_122 ?_
          refine g_istore_n X (i0 := 3) (lv' := [(3, .int (x3 ||| (1 : Int32))), (0, .ref (E.1 84)), (1, .int x1), (2, .int x2), (4, .int x4)]) dX13_word_123 rfl (by decide) rfl ?_
          refine g_iinc X 4 (v := (x4 + (1 : Int32))) (lv' := [(4, .int (x4 + (1 : Int32))), (3, .int (x3 ||| (1 : Int32))), (0, .ref (E.1 84)), (1, .int x1), (2, .int x2)]) dX13_word_124 rfl rfl (by decide) rfl ?_
          refine g_goto X (tgt := 41) dX13_word_127 (by decide) ?_
          refine g_sub (lv' := [(0, .ref (E.1 84)), (1, .int x1), (2, .int x2), (3, .int (x3 ||| (1 : Int32))), (4, .int (x4 + (1 : Int32)))]) [2, 3, 4, 1, 0] rfl ?_
          exact h1 _ (Option.some.inj h).symm
      · have h := (ite_s h).1 c25
        refine g_iconst X (v := (1 : Int32)) dX13_word_98 (by decide) ?_
        refine g_goto X (tgt := 103) dX13_word_99 (by decide) ?_
        refine g_iand X dX13_word_103 ?_
        obtain ⟨b22, h⟩ := chk_s h
        refine g_iast X (D := D17) (f := (D17.2.2.1 81)) (i := x4) (x := (((D.2.2.1 81) x4.toNatClampNeg) &&& (1 : Int32))) (D' := (setA D17 81 (upd (D17.2.2.1 81) x4.toNatClampNeg (((D.2.2.1 81) x4.toNatClampNeg) &&& (1 : Int32))))) 96 (wg_96 E _) (inB_vp b22) (ws_A_81 E _ _) dX13_word_104 ?_
        refine g_iload_n X 3 (i0 := 3) dX13_word_105 rfl rfl ?_
        refine g_aload_n X 0 (i0 := 0) dX13_word_106 rfl rfl ?_
        refine g_get X (D := (setA D17 81 (upd (D17.2.2.1 81) x4.toNatClampNeg (((D.2.2.1 81) x4.toNatClampNeg) &&& (1 : Int32))))) (v := .ref (E.1 96)) (T := TX13) 84 uX13 (wg_84 E _) rfl 16 (by decide) fl_X13_50 rfl rfl dX13_word_107 ?_
        refine g_iload X 4 dX13_word_110 rfl ?_
        obtain ⟨b23, h⟩ := chk_s h
        refine g_iald X (D := (setA D17 81 (upd (D17.2.2.1 81) x4.toNatClampNeg (((D.2.2.1 81) x4.toNatClampNeg) &&& (1 : Int32))))) (f := (upd (D17.2.2.1 81) x4.toNatClampNeg (((D.2.2.1 81) x4.toNatClampNeg) &&& (1 : Int32)))) (i := x4) 96 (wg_96 E _) (inB_vp b23) dX13_word_112 ?_
        refine g_iconst X (v := (1 : Int32)) dX13_word_113 (by decide) ?_
        refine g_icmp_ne X (tgt := 121) dX13_word_114 (by decide) (fun c24 => ?_) (fun c24 => ?_)
        · have h := (ite_s h).2 c24
          refine g_iconst X (v := (0 : Int32)) dX13_word_121 (by decide) ?_
          refine g_ior X dX13_word_122 ?_
          refine g_istore_n X (i0 := 3) (lv' := [(3, .int (x3 ||| (0 : Int32))), (0, .ref (E.1 84)), (1, .int x1), (2, .int x2), (4, .int x4)]) dX13_word_123 rfl (by decide) rfl ?_
          refine g_iinc X 4 (v := (x4 + (1 : Int32))) (lv' := [(4, .int (x4 + (1 : Int32))), (3, .int (x3 ||| (0 : Int32))), (0, .ref (E.1 84)), (1, .int x1), (2, .int x2)]) dX13_word_124 rfl rfl (by decide) rfl ?_
          refine g_goto X (tgt := 41) dX13_word_127 (by decide) ?_
          refine g_sub (lv' := [(0, .ref (E.1 84)), (1, .int x1), (2, .int x2), (3, .int (x3 ||| (0 : Int32))), (4, .int (x4 + (1 : Int32)))]) [2, 3, 4, 1, 0] rfl ?_
          exact h1 _ (Option.some.inj h).symm
        · have h := (ite_s h).1 c24
          refine g_iconst X (v := (1 : Int32)) dX13_word_117 (by decide) ?_
          refine g_goto X (tgt := 122) dX13_word_118 (by decide) ?_
          refine g_ior X dX13_word_122 ?_
          refine g_istore_n X (i0 := 3) (lv' := [(3, .int (x3 ||| (1 : Int32))), (0, .ref (E.1 84)), (1, .int x1), (2, .int x2), (4, .int x4)]) dX13_word_123 rfl (by decide) rfl ?_
          refine g_iinc X 4 (v := (x4 + (1 : Int32))) (lv' := [(4, .int (x4 + (1 : Int32))), (3, .int (x3 ||| (1 : Int32))), (0, .ref (E.1 84)), (1, .int x1), (2, .int x2)]) dX13_word_124 rfl rfl (by decide) rfl ?_
          refine g_goto X (tgt := 41) dX13_word_127 (by decide) ?_
          refine g_sub (lv' := [(0, .ref (E.1 84)), (1, .int x1), (2, .int x2), (3, .int (x3 ||| (1 : Int32))), (4, .int (x4 + (1 : Int32)))]) [2, 3, 4, 1, 0] rfl ?_
          exact h1 _ (Option.some.inj h).symm
set_option maxRecDepth 100000 in
set_option maxHeartbeats 4000000 in
theorem bl_X13_word_4 {p : Program} {l : Launch} {e : Env} {s : State} {m : MethodId} {args : Array Value} {below : List Frame} {meth : Method} {c : Code} {G : va_G} {E : EE} {r : RT} (X : CX p s m args meth c cX13_word RX13 5 G E) (hr : meth.sig.returnType = (some .int)) (x1 : Int32) (x2 : Int32) (x4 : Int32) (D : DD) (o : (Nat × List Int32 × DD) ⊕ RT) (h : b_X13_word_4 x1 x2 x4 D = some o) (h1 : ∀ x, o = .inl x → hg_X13_word p l e s m args below meth c G E r x.1 x.2.1 x.2.2) (h2 : ∀ x, o = .inr x → x = r) : GW p l e (rmm 1) s m args below meth c G E 5 (MQ below (QR G E s.heap.size r) args s 0 0 (fr E s.heap.size)) 0 0 D 167 [(0, .ref (E.1 84)), (1, .int x1), (2, .int x2), (4, .int x4)] [] := by
  unfold b_X13_word_4 at h
  refine g_iload X 3 dX13_word_167 rfl ?_
  refine g_bipush X (v := (7 : Int32)) dX13_word_169 (by decide) ?_
  refine g_icmp_ge X (tgt := 219) dX13_word_171 (by decide) (fun c33 => ?_) (fun c33 => ?_)
  · have h := (ite_s h).1 c33
    refine g_goto X (tgt := 25) dX13_word_219 (by decide) ?_
    refine g_sub (lv' := [(0, .ref (E.1 84)), (1, .int x1), (2, .int x2)]) [0, 1, 2] rfl ?_
    exact h1 _ (Option.some.inj h).symm
  · have h := (ite_s h).2 c33
    refine g_aload_n X 0 (i0 := 0) dX13_word_174 rfl rfl ?_
    refine g_get X (D := D) (v := .ref (E.1 96)) (T := TX13) 84 uX13 (wg_84 E _) rfl 16 (by decide) fl_X13_50 rfl rfl dX13_word_175 ?_
    refine g_iload X 3 dX13_word_178 rfl ?_
    obtain ⟨b28, h⟩ := chk_s h
    refine g_iald X (D := D) (f := (D.2.2.1 81)) (i := x4) 96 (wg_96 E _) (inB_vp b28) dX13_word_180 ?_
    refine g_iconst X (v := (1 : Int32)) dX13_word_181 (by decide) ?_
    refine g_icmp_ne X (tgt := 211) dX13_word_182 (by decide) (fun c32 => ?_) (fun c32 => ?_)
    · have h := (ite_s h).2 c32
      refine g_iload_n X 2 (i0 := 2) dX13_word_211 rfl rfl ?_
      refine g_istore_n X (i0 := 2) (lv' := [(2, .int x2), (0, .ref (E.1 84)), (1, .int x1), (4, .int x4)]) dX13_word_212 rfl (by decide) rfl ?_
      refine g_iinc X 3 (v := (x4 + (1 : Int32))) (lv' := [(4, .int (x4 + (1 : Int32))), (2, .int x2), (0, .ref (E.1 84)), (1, .int x1)]) dX13_word_213 rfl rfl (by decide) rfl ?_
      refine g_goto X (tgt := 167) dX13_word_216 (by decide) ?_
      refine g_sub (lv' := [(0, .ref (E.1 84)), (1, .int x1), (2, .int x2), (4, .int (x4 + (1 : Int32)))]) [2, 3, 1, 0] rfl ?_
      exact h1 _ (Option.some.inj h).symm
    · have h := (ite_s h).1 c32
      refine g_aload_n X 0 (i0 := 0) dX13_word_185 rfl rfl ?_
      refine g_get X (D := D) (v := .ref (E.1 98)) (T := TX13) 84 uX13 (wg_84 E _) rfl 18 (by decide) fl_X13_56 rfl rfl dX13_word_186 ?_
      refine g_iload X 3 dX13_word_189 rfl ?_
      obtain ⟨b29, h⟩ := chk_s h
      refine g_iald X (D := D) (f := (D.2.2.1 83)) (i := x4) 98 (wg_98 E _) (inB_vp b29) dX13_word_191 ?_
      refine g_iload_n X 1 (i0 := 1) dX13_word_192 rfl rfl ?_
      refine g_iadd X dX13_word_193 ?_
      refine g_aload_n X 0 (i0 := 0) dX13_word_194 rfl rfl ?_
      refine g_get X (D := D) (v := .ref (E.1 98)) (T := TX13) 84 uX13 (wg_84 E _) rfl 18 (by decide) fl_X13_56 rfl rfl dX13_word_195 ?_
      refine g_iload X 3 dX13_word_198 rfl ?_
      refine g_iconst X (v := (1 : Int32)) dX13_word_200 (by decide) ?_
      refine g_iadd X dX13_word_201 ?_
      obtain ⟨b30, h⟩ := chk_s h
      refine g_iald X (D := D) (f := (D.2.2.1 83)) (i := (x4 + (1 : Int32))) 98 (wg_98 E _) (inB_vp b30) dX13_word_202 ?_
      refine g_icmp_ne X (tgt := 211) dX13_word_203 (by decide) (fun c31 => ?_) (fun c31 => ?_)
      · have h := (ite_s h).2 c31
        refine g_iload_n X 2 (i0 := 2) dX13_word_211 rfl rfl ?_
        refine g_istore_n X (i0 := 2) (lv' := [(2, .int x2), (0, .ref (E.1 84)), (1, .int x1), (4, .int x4)]) dX13_word_212 rfl (by decide) rfl ?_
        refine g_iinc X 3 (v := (x4 + (1 : Int32))) (lv' := [(4, .int (x4 + (1 : Int32))), (2, .int x2), (0, .ref (E.1 84)), (1, .int x1)]) dX13_word_213 rfl rfl (by decide) rfl ?_
        refine g_goto X (tgt := 167) dX13_word_216 (by decide) ?_
        refine g_sub (lv' := [(0, .ref (E.1 84)), (1, .int x1), (2, .int x2), (4, .int (x4 + (1 : Int32)))]) [2, 3, 1, 0] rfl ?_
        exact h1 _ (Option.some.inj h).symm
      · have h := (ite_s h).1 c31
        refine g_iload X 3 dX13_word_206 rfl ?_
        refine g_goto X (tgt := 212) dX13_word_208 (by decide) ?_
        refine g_istore_n X (i0 := 2) (lv' := [(2, .int x4), (0, .ref (E.1 84)), (1, .int x1), (4, .int x4)]) dX13_word_212 rfl (by decide) rfl ?_
        refine g_iinc X 3 (v := (x4 + (1 : Int32))) (lv' := [(4, .int (x4 + (1 : Int32))), (2, .int x4), (0, .ref (E.1 84)), (1, .int x1)]) dX13_word_213 rfl rfl (by decide) rfl ?_
        refine g_goto X (tgt := 167) dX13_word_216 (by decide) ?_
        refine g_sub (lv' := [(0, .ref (E.1 84)), (1, .int x1), (2, .int x4), (4, .int (x4 + (1 : Int32)))]) [2, 3, 1, 0] rfl ?_
        exact h1 _ (Option.some.inj h).symm
set_option maxRecDepth 100000 in
set_option maxHeartbeats 4000000 in
theorem c_X13_word (l : Launch) (G : va_G) (E : EE)  (D : DD) (r : RT) (h : S_X13_word  D = some r) : MM l G E yX13_word cX13_word 5 (some .int) (rmm 1) [.ref (E.1 84)] D r := by
  unfold S_X13_word at h
  refine m_of rfl (Nat.le_of_ble_eq_true rfl) ?_
  intro p e s m args below meth c X hr
  exact run_G (T := T_X13_word) (HG := hg_X13_word p l e s m args below meth c G E r) (by
    intro k ls D o hT h1 h2
    unfold T_X13_word at hT
    split at hT
    · exact bl_X13_word_0 X hr  D o hT h1 h2
    · exact bl_X13_word_1 X hr _ D o hT h1 h2
    · exact bl_X13_word_2 X hr _ _ D o hT h1 h2
    · exact bl_X13_word_3 X hr _ _ _ _ D o hT h1 h2
    · exact bl_X13_word_4 X hr _ _ _ D o hT h1 h2
    · cases hT) FUEL 0 [] D h
def S_X13_does (a0 : Int32) (a1 : Int32) (a2 : Int32) (a3 : Int32) (D : DD) : Option RT := (if a0 = (0 : Int32) then (cI (S_X13_hardens a1 a2 a3 D) (fun r4 D3 => some (0, some (.int r4), D3))) else (if a0 = (1 : Int32) then (cI (S_X13_charges a1 a2 a3 D) (fun r8 D7 => some (0, some (.int r8), D7))) else (if a0 = (2 : Int32) then (cI (S_X13_removes a1 D) (fun r12 D11 => some (0, some (.int r12), D11))) else (if a0 = (3 : Int32) then (cI (S_X13_ignites a1 D) (fun r16 D15 => some (0, some (.int r16), D15))) else (if a0 = (4 : Int32) then (cI (S_X13_digs a1 a2 D) (fun r20 D19 => some (0, some (.int r20), D19))) else (if a0 = (5 : Int32) then (cI (S_X13_prices a1 a2 D) (fun r24 D23 => some (0, some (.int r24), D23))) else (cI (S_X13_sells a1 D) (fun r27 D26 => some (0, some (.int r27), D26)))))))))
set_option maxRecDepth 100000 in
set_option maxHeartbeats 4000000 in
theorem c_X13_does (l : Launch) (G : va_G) (E : EE) (a0 : Int32) (a1 : Int32) (a2 : Int32) (a3 : Int32) (D : DD) (r : RT) (h : S_X13_does a0 a1 a2 a3 D = some r) : MM l G E yX13_does cX13_does 5 (some .int) (rmm 4) [.ref (E.1 84), .int a0, .int a1, .int a2, .int a3] D r := by
  refine m_of rfl (Nat.le_of_ble_eq_true rfl) ?_
  intro p e s m args below meth c X hr
  unfold S_X13_does at h
  refine g_iload_n X 1 (i0 := 1) dX13_does_0 rfl rfl ?_
  by_cases w1 : a0 = (0 : Int32)
  · have h := (ite_s h).1 w1
    refine g_tswIn X (tgt := 40) dX13_does_1 w1 (by decide) (by decide) rfl (by decide) ?_
    refine g_aload_n X 0 (i0 := 0) dX13_does_40 rfl rfl ?_
    refine g_iload_n X 2 (i0 := 2) dX13_does_41 rfl rfl ?_
    refine g_iload_n X 3 (i0 := 3) dX13_does_42 rfl rfl ?_
    refine g_iload X 4 dX13_does_43 rfl ?_
    obtain ⟨r4, D3, e2, h⟩ := cI_s h
    refine g_V X (As := [.int a1, .int a2, .int a3]) (rest := []) (c_X13_hardens l G E a1 a2 a3 _ _ e2) 84 (wg_84 E _) rfl rfl kv_X13_94 ⟨rfl, rfl⟩ ⟨rfl, hd_X13_hardens⟩ (⟨Nat.le_of_ble_eq_true rfl, Nat.le_of_ble_eq_true rfl⟩) rfl rfl (Nat.le_of_ble_eq_true rfl) dX13_does_45 ?_
    exact g_iret X hr rfl dX13_does_48 (Option.some.inj h)
  have h := (ite_s h).2 w1
  by_cases w5 : a0 = (1 : Int32)
  · have h := (ite_s h).1 w5
    refine g_tswIn X (tgt := 49) dX13_does_1 w5 (by decide) (by decide) rfl (by decide) ?_
    refine g_aload_n X 0 (i0 := 0) dX13_does_49 rfl rfl ?_
    refine g_iload_n X 2 (i0 := 2) dX13_does_50 rfl rfl ?_
    refine g_iload_n X 3 (i0 := 3) dX13_does_51 rfl rfl ?_
    refine g_iload X 4 dX13_does_52 rfl ?_
    obtain ⟨r8, D7, e6, h⟩ := cI_s h
    refine g_V X (As := [.int a1, .int a2, .int a3]) (rest := []) (c_X13_charges l G E a1 a2 a3 _ _ e6) 84 (wg_84 E _) rfl rfl kv_X13_121 ⟨rfl, rfl⟩ ⟨rfl, hd_X13_charges⟩ (⟨Nat.le_of_ble_eq_true rfl, Nat.le_of_ble_eq_true rfl⟩) rfl rfl (Nat.le_of_ble_eq_true rfl) dX13_does_54 ?_
    exact g_iret X hr rfl dX13_does_57 (Option.some.inj h)
  have h := (ite_s h).2 w5
  by_cases w9 : a0 = (2 : Int32)
  · have h := (ite_s h).1 w9
    refine g_tswIn X (tgt := 58) dX13_does_1 w9 (by decide) (by decide) rfl (by decide) ?_
    refine g_aload_n X 0 (i0 := 0) dX13_does_58 rfl rfl ?_
    refine g_iload_n X 2 (i0 := 2) dX13_does_59 rfl rfl ?_
    obtain ⟨r12, D11, e10, h⟩ := cI_s h
    refine g_V X (As := [.int a1]) (rest := []) (c_X13_removes l G E a1 _ _ e10) 84 (wg_84 E _) rfl rfl kv_X13_131 ⟨rfl, rfl⟩ ⟨rfl, hd_X13_removes⟩ (⟨Nat.le_of_ble_eq_true rfl, Nat.le_of_ble_eq_true rfl⟩) rfl rfl (Nat.le_of_ble_eq_true rfl) dX13_does_60 ?_
    exact g_iret X hr rfl dX13_does_63 (Option.some.inj h)
  have h := (ite_s h).2 w9
  by_cases w13 : a0 = (3 : Int32)
  · have h := (ite_s h).1 w13
    refine g_tswIn X (tgt := 64) dX13_does_1 w13 (by decide) (by decide) rfl (by decide) ?_
    refine g_aload_n X 0 (i0 := 0) dX13_does_64 rfl rfl ?_
    refine g_iload_n X 2 (i0 := 2) dX13_does_65 rfl rfl ?_
    obtain ⟨r16, D15, e14, h⟩ := cI_s h
    refine g_V X (As := [.int a1]) (rest := []) (c_X13_ignites l G E a1 _ _ e14) 84 (wg_84 E _) rfl rfl kv_X13_149 ⟨rfl, rfl⟩ ⟨rfl, hd_X13_ignites⟩ (⟨Nat.le_of_ble_eq_true rfl, Nat.le_of_ble_eq_true rfl⟩) rfl rfl (Nat.le_of_ble_eq_true rfl) dX13_does_66 ?_
    exact g_iret X hr rfl dX13_does_69 (Option.some.inj h)
  have h := (ite_s h).2 w13
  by_cases w17 : a0 = (4 : Int32)
  · have h := (ite_s h).1 w17
    refine g_tswIn X (tgt := 70) dX13_does_1 w17 (by decide) (by decide) rfl (by decide) ?_
    refine g_aload_n X 0 (i0 := 0) dX13_does_70 rfl rfl ?_
    refine g_iload_n X 2 (i0 := 2) dX13_does_71 rfl rfl ?_
    refine g_iload_n X 3 (i0 := 3) dX13_does_72 rfl rfl ?_
    obtain ⟨r20, D19, e18, h⟩ := cI_s h
    refine g_V X (As := [.int a1, .int a2]) (rest := []) (c_X13_digs l G E a1 a2 _ _ e18) 84 (wg_84 E _) rfl rfl kv_X13_111 ⟨rfl, rfl⟩ ⟨rfl, hd_X13_digs⟩ (⟨Nat.le_of_ble_eq_true rfl, Nat.le_of_ble_eq_true rfl⟩) rfl rfl (Nat.le_of_ble_eq_true rfl) dX13_does_73 ?_
    exact g_iret X hr rfl dX13_does_76 (Option.some.inj h)
  have h := (ite_s h).2 w17
  by_cases w21 : a0 = (5 : Int32)
  · have h := (ite_s h).1 w21
    refine g_tswIn X (tgt := 77) dX13_does_1 w21 (by decide) (by decide) rfl (by decide) ?_
    refine g_aload_n X 0 (i0 := 0) dX13_does_77 rfl rfl ?_
    refine g_iload_n X 2 (i0 := 2) dX13_does_78 rfl rfl ?_
    refine g_iload_n X 3 (i0 := 3) dX13_does_79 rfl rfl ?_
    obtain ⟨r24, D23, e22, h⟩ := cI_s h
    refine g_V X (As := [.int a1, .int a2]) (rest := []) (c_X13_prices l G E a1 a2 _ _ e22) 84 (wg_84 E _) rfl rfl kv_X13_189 ⟨rfl, rfl⟩ ⟨rfl, hd_X13_prices⟩ (⟨Nat.le_of_ble_eq_true rfl, Nat.le_of_ble_eq_true rfl⟩) rfl rfl (Nat.le_of_ble_eq_true rfl) dX13_does_80 ?_
    exact g_iret X hr rfl dX13_does_83 (Option.some.inj h)
  have h := (ite_s h).2 w21
  have zw1 := lv_neT w1 (show (0 : Int32).toInt = 0 by decide)
  have zw5 := lv_neT w5 (show (1 : Int32).toInt = 1 by decide)
  have zw9 := lv_neT w9 (show (2 : Int32).toInt = 2 by decide)
  have zw13 := lv_neT w13 (show (3 : Int32).toInt = 3 by decide)
  have zw17 := lv_neT w17 (show (4 : Int32).toInt = 4 by decide)
  have zw21 := lv_neT w21 (show (5 : Int32).toInt = 5 by decide)
  refine g_tswOut X (tgt := 84) dX13_does_1 (by omega) (by decide) ?_
  refine g_aload_n X 0 (i0 := 0) dX13_does_84 rfl rfl ?_
  refine g_iload_n X 2 (i0 := 2) dX13_does_85 rfl rfl ?_
  obtain ⟨r27, D26, e25, h⟩ := cI_s h
  refine g_V X (As := [.int a1]) (rest := []) (c_X13_sells l G E a1 _ _ e25) 84 (wg_84 E _) rfl rfl kv_X13_201 ⟨rfl, rfl⟩ ⟨rfl, hd_X13_sells⟩ (⟨Nat.le_of_ble_eq_true rfl, Nat.le_of_ble_eq_true rfl⟩) rfl rfl (Nat.le_of_ble_eq_true rfl) dX13_does_86 ?_
  exact g_iret X hr rfl dX13_does_89 (Option.some.inj h)
