theorem fl_J0_1053 : Cond.fieldLink RJ0 1053 "jdk/internal/util/Preconditions" "SIOOBE_FORMATTER" "Ljava/util/function/BiFunction;" ∈ UT := ut 1233 (by decide +kernel) (by decide +kernel)
theorem hd_J3_checkIndex_8e157 : yJ3_checkIndex_8e157.cls ≠ "java/lang/invoke/MethodHandle" ∧ yJ3_checkIndex_8e157.cls ≠ "java/lang/invoke/VarHandle" ∧ (parseMethodDescriptor yJ3_checkIndex_8e157.desc).map (fun d => d.parameters.length) = some 3 := by decide +kernel
theorem wc_J3_checkIndex_8e157 : Cond.code yJ3_checkIndex_8e157 cJ3_checkIndex_8e157 3 (some .int) ∈ UT := ut 1237 (by decide +kernel) (by decide +kernel)
theorem wi_RJ3 : Cond.initialized RJ3 ∈ UT := ut 102 (by decide +kernel) (by decide +kernel)
theorem wt_J3_checkIndex_8e157 : Cond.static yJ3_checkIndex_8e157 ∈ UT := ut 1236 (by decide +kernel) (by decide +kernel)
theorem ks_J0_1059 : GoodIn UT (va_wsS RJ0 1059 yJ3_checkIndex_8e157 (Cond.code yJ3_checkIndex_8e157 cJ3_checkIndex_8e157 3 (some .int) :: UT)) := gu_S (ut 1235 (by decide +kernel) (by decide +kernel)) wt_J3_checkIndex_8e157 wi_RJ3 wc_J3_checkIndex_8e157
set_option maxRecDepth 100000 in
set_option maxHeartbeats 4000000 in
theorem c_J3_checkIndex_8e157 (l : Launch) (G : va_G) (E : EE) (a b : Int32) (v : Value) (hv : v.category = 1) (D : DD) (h0 : ¬ a < 0) (h1 : a < b) : MM l G E yJ3_checkIndex_8e157 cJ3_checkIndex_8e157 3 (some .int) (rmm 0) [.int a, .int b, v] D (0, some (.int a), D) := by
  refine m_of rfl (by cases v <;> first | exact Nat.le_of_ble_eq_true rfl | (simp [Value.category] at hv)) ?_
  intro p e s m args below meth c X hr
  refine g_iload_n X 0 (i0 := 0) dJ3_checkIndex_8e157_0 rfl rfl ?_
  refine g_if_lt X (tgt := 9) dJ3_checkIndex_8e157_1 (by decide) (fun c => absurd c h0) (fun _ => ?_)
  refine g_iload_n X 0 (i0 := 0) dJ3_checkIndex_8e157_4 rfl rfl ?_
  refine g_iload_n X 1 (i0 := 1) dJ3_checkIndex_8e157_5 rfl rfl ?_
  refine g_icmp_lt X (tgt := 16) dJ3_checkIndex_8e157_6 (by decide) (fun _ => ?_) (fun c => absurd h1 c)
  refine g_iload_n X 0 (i0 := 0) dJ3_checkIndex_8e157_16 rfl rfl ?_
  exact g_iret X hr rfl dJ3_checkIndex_8e157_17 rfl
def S_J0_checkIndex_df160 (a0 : Int32) (a1 : Int32) (D : DD) : Option RT := (if a0 < 0 then none else (if a0 < a1 then some (0, none, D) else none))
set_option maxRecDepth 100000 in
set_option maxHeartbeats 4000000 in
theorem c_J0_checkIndex_df160 (l : Launch) (G : va_G) (E : EE) (a0 : Int32) (a1 : Int32) (D : DD) (r : RT) (h : S_J0_checkIndex_df160 a0 a1 D = some r) : MM l G E yJ0_checkIndex_df160 cJ0_checkIndex_df160 2 none (rmm 1) [.int a0, .int a1] D r := by
  refine m_of rfl (Nat.le_of_ble_eq_true rfl) ?_
  intro p e s m args below meth c X hr
  unfold S_J0_checkIndex_df160 at h
  by_cases h0 : a0 < 0
  · rw [if_pos h0] at h
    cases h
  rw [if_neg h0] at h
  obtain ⟨h1, h⟩ := chk_s h
  refine g_iload_n X 0 (i0 := 0) dJ0_checkIndex_df160_0 rfl rfl ?_
  refine g_iload_n X 1 (i0 := 1) dJ0_checkIndex_df160_1 rfl rfl ?_
  rcases X.2.2.2.2.2.2.2.2.2.2.2.2.2 with hz | ⟨t, hz⟩
  · refine g_gets X hz fl_J0_1053 dJ0_checkIndex_df160_2 ?_
    refine g_S X (As := [.int a0, .int a1, .null]) (rest := []) (c_J3_checkIndex_8e157 l G E a0 a1 .null rfl D h0 h1) ks_J0_1059 ⟨rfl, rfl⟩ hd_J3_checkIndex_8e157 ⟨Nat.le_of_ble_eq_true rfl, Nat.le_of_ble_eq_true rfl⟩ rfl rfl (Nat.le_of_ble_eq_true rfl) dJ0_checkIndex_df160_5 ?_
    refine g_pop X (va := .int a0) dJ0_checkIndex_df160_8 rfl ?_
    exact g_vret X hr dJ0_checkIndex_df160_9 (Option.some.inj h)
  · refine g_gets X hz fl_J0_1053 dJ0_checkIndex_df160_2 ?_
    refine g_S X (As := [.int a0, .int a1, .ref t]) (rest := []) (c_J3_checkIndex_8e157 l G E a0 a1 (.ref t) rfl D h0 h1) ks_J0_1059 ⟨rfl, rfl⟩ hd_J3_checkIndex_8e157 ⟨Nat.le_of_ble_eq_true rfl, Nat.le_of_ble_eq_true rfl⟩ rfl rfl (Nat.le_of_ble_eq_true rfl) dJ0_checkIndex_df160_5 ?_
    refine g_pop X (va := .int a0) dJ0_checkIndex_df160_8 rfl ?_
    exact g_vret X hr dJ0_checkIndex_df160_9 (Option.some.inj h)
theorem fl_X4_17 : Cond.fieldLink RX4 17 "StoneQuarry$CommandText" "commands" "[LStoneQuarry$Command;" ∈ UT := ut 296 (by decide +kernel) (by decide +kernel)
def S_X4_commandAt (a0 : Int32) (D : DD) : Option RT := (cI (S_X12_inRange a0 (0 : Int32) (9 : Int32) D) (fun r3 D2 => (if r3 = 0 then some (0, some .null, D2) else (if inB a0 10 = true then (oC ((D2.2.2.2.2.2) a0.toNatClampNeg) (fun q5 => some (0, some (.ref q5), D2)) (some (0, some .null, D2))) else none))))
set_option maxRecDepth 100000 in
set_option maxHeartbeats 4000000 in
theorem c_X4_commandAt (l : Launch) (G : va_G) (E : EE) (a0 : Int32) (D : DD) (r : RT) (h : S_X4_commandAt a0 D = some r) : MM l G E yX4_commandAt cX4_commandAt 2 (some (.object "StoneQuarry$Command")) (rmm 1) [.ref (E.1 80), .int a0] D r := by
  refine m_of rfl (Nat.le_of_ble_eq_true rfl) ?_
  intro p e s m args below meth c X hr
  unfold S_X4_commandAt at h
  refine g_iload_n X 1 (i0 := 1) dX4_commandAt_0 rfl rfl ?_
  refine g_iconst X (v := (0 : Int32)) dX4_commandAt_1 (by decide) ?_
  refine g_bipush X (v := (9 : Int32)) dX4_commandAt_2 (by decide) ?_
  obtain ⟨r3, D2, e1, h⟩ := cI_s h
  refine g_SN X (As := [.int a0, .int (0 : Int32), .int (9 : Int32)]) (rest := []) (c_X12_inRange l G E a0 (0 : Int32) (9 : Int32) _ _ e1) wc_X12_inRange kn_X4_29 wi_RX12 wt_X12_inRange ⟨rfl, rfl⟩ hd_X12_inRange (⟨Nat.le_of_ble_eq_true rfl, Nat.le_of_ble_eq_true rfl⟩) rfl rfl (Nat.le_of_ble_eq_true rfl) dX4_commandAt_4 ?_
  refine g_if_eq X (tgt := 19) dX4_commandAt_7 (by decide) (fun c7 => ?_) (fun c7 => ?_)
  · have h := (ite_s h).1 c7
    refine g_null X dX4_commandAt_19 ?_
    exact g_aretN X hr dX4_commandAt_20 (Option.some.inj h)
  · have h := (ite_s h).2 c7
    refine g_aload_n X 0 (i0 := 0) dX4_commandAt_10 rfl rfl ?_
    refine g_get X (D := D2) (v := .ref (E.1 82)) (T := TX4) 80 uX4 (wg_80 E _) rfl 1 (by decide) fl_X4_17 rfl rfl dX4_commandAt_11 ?_
    refine g_iload_n X 1 (i0 := 1) dX4_commandAt_14 rfl rfl ?_
    obtain ⟨b4, h⟩ := chk_s h
    rcases oC_s h with ⟨q5, hq6, h⟩ | ⟨hq6, h⟩
    · refine g_cmdld X (D := D2) (i := a0) (inB_vp b4) dX4_commandAt_15 ?_
      rw [hq6]
      refine g_goto X (tgt := 20) dX4_commandAt_16 (by decide) ?_
      exact g_aret X (q := q5) hr dX4_commandAt_20 (Option.some.inj h)
    · refine g_cmdld X (D := D2) (i := a0) (inB_vp b4) dX4_commandAt_15 ?_
      rw [hq6]
      refine g_goto X (tgt := 20) dX4_commandAt_16 (by decide) ?_
      exact g_aretN X hr dX4_commandAt_20 (Option.some.inj h)
theorem fl_J0_15 : Cond.fieldLink RJ0 15 "java/lang/String" "coder" "B" ∈ UT := ut 1823 (by decide +kernel) (by decide +kernel)
theorem fl_J0_38 : Cond.fieldLink RJ0 38 "java/lang/String" "COMPACT_STRINGS" "Z" ∈ UT := ut 1217 (by decide +kernel) (by decide +kernel)
def S_J0_coder_7d493_S0  (D : DD) : Option RT := some (0, some (.int (0 : Int32)), D)
set_option maxRecDepth 100000 in
set_option maxHeartbeats 4000000 in
theorem c_J0_coder_7d493_S0 (l : Launch) (G : va_G) (E : EE)  (D : DD) (r : RT) (h : S_J0_coder_7d493_S0  D = some r) : MM l G E yJ0_coder_7d493 cJ0_coder_7d493 1 (some .byte) (rmm 0) [.ref (E.1 1010)] D r := by
  refine m_of rfl (Nat.le_of_ble_eq_true rfl) ?_
  intro p e s m args below meth c X hr
  unfold S_J0_coder_7d493_S0 at h
  refine g_gets X (v := .int (1 : Int32)) X.2.2.2.2.2.2.2.2.2.2.2.2.1 fl_J0_38 dJ0_coder_7d493_0 ?_
  refine g_if_eq X (tgt := 13) dJ0_coder_7d493_3 (by decide) (fun q => absurd q (by decide)) (fun _ => ?_)
  refine g_aload_n X 0 (i0 := 0) dJ0_coder_7d493_6 rfl rfl ?_
  refine g_getK X (v := .int (0 : Int32)) (X.2.2.2.2.2.2.2.2.2.2.2.1 0 (by decide)).2.1 fl_J0_15 dJ0_coder_7d493_7 ?_
  refine g_goto X (tgt := 14) dJ0_coder_7d493_10 (by decide) ?_
  exact g_iret X hr rfl dJ0_coder_7d493_14 (Option.some.inj h)
theorem fl_J0_9 : Cond.fieldLink RJ0 9 "java/lang/String" "value" "[B" ∈ UT := ut 1822 (by decide +kernel) (by decide +kernel)
theorem hd_J0_coder_7d493 : yJ0_coder_7d493.cls ≠ "java/lang/invoke/MethodHandle" ∧ yJ0_coder_7d493.cls ≠ "java/lang/invoke/VarHandle" ∧ (parseMethodDescriptor yJ0_coder_7d493.desc).map (fun d => d.parameters.length) = some 0 := by decide +kernel
theorem wc_J0_coder_7d493 : Cond.code yJ0_coder_7d493 cJ0_coder_7d493 1 (some .byte) ∈ UT := ut 1216 (by decide +kernel) (by decide +kernel)
theorem we_J0_coder_7d493 : Cond.selects RJ0 yJ0_coder_7d493 yJ0_coder_7d493 ∈ UT := ut 1215 (by decide +kernel) (by decide +kernel)
theorem wi_RJ0 : Cond.initialized RJ0 ∈ UT := ut 98 (by decide +kernel) (by decide +kernel)
theorem wm_J0_coder_7d493 : Cond.instanceMethod yJ0_coder_7d493 ∈ UT := ut 1214 (by decide +kernel) (by decide +kernel)
theorem kv_J0_335 : GoodIn UT (wsV RJ0 335 RJ0 yJ0_coder_7d493 (Cond.code yJ0_coder_7d493 cJ0_coder_7d493 1 (some .byte) :: UT)) := gu_V (ut 1213 (by decide +kernel) (by decide +kernel)) wm_J0_coder_7d493 we_J0_coder_7d493 wi_RJ0 wc_J0_coder_7d493
def S_J0_length_8abf5_S0  (D : DD) : Option RT := (cI (S_J0_coder_7d493_S0 D) (fun r3 D2 => some (0, some (.int ((4 : Int32) >>> (r3 &&& 31))), D2)))
set_option maxRecDepth 100000 in
set_option maxHeartbeats 4000000 in
theorem c_J0_length_8abf5_S0 (l : Launch) (G : va_G) (E : EE)  (D : DD) (r : RT) (h : S_J0_length_8abf5_S0  D = some r) : MM l G E yJ0_length_8abf5 cJ0_length_8abf5 1 (some .int) (rmm 1) [.ref (E.1 1010)] D r := by
  refine m_of rfl (Nat.le_of_ble_eq_true rfl) ?_
  intro p e s m args below meth c X hr
  unfold S_J0_length_8abf5_S0 at h
  refine g_aload_n X 0 (i0 := 0) dJ0_length_8abf5_0 rfl rfl ?_
  refine g_getK X (v := .ref (E.1 1030)) (X.2.2.2.2.2.2.2.2.2.2.2.1 0 (by decide)).2.2.1 fl_J0_9 dJ0_length_8abf5_1 ?_
  refine g_tlen X (X.2.2.2.2.2.2.2.2.2.2.2.1 0 (by decide)).2.2.2 (v := (4 : Int32)) (by decide) dJ0_length_8abf5_4 ?_
  refine g_aload_n X 0 (i0 := 0) dJ0_length_8abf5_5 rfl rfl ?_
  obtain ⟨r3, D2, e1, h⟩ := cI_s h
  refine g_VK X (As := []) (rest := [.int (4 : Int32)]) (X.2.2.2.2.2.2.2.2.2.2.2.1 0 (by decide)).1 (c_J0_coder_7d493_S0 l G E  _ _ e1) kv_J0_335 ⟨rfl, rfl⟩ ⟨rfl, hd_J0_coder_7d493⟩ (⟨Nat.le_of_ble_eq_true rfl, Nat.le_of_ble_eq_true rfl⟩) rfl rfl (Nat.le_of_ble_eq_true rfl) dJ0_length_8abf5_6 ?_
  refine g_ishr X dJ0_length_8abf5_9 ?_
  exact g_iret X hr rfl dJ0_length_8abf5_10 (Option.some.inj h)
def S_J0_coder_7d493_S1  (D : DD) : Option RT := some (0, some (.int (0 : Int32)), D)
set_option maxRecDepth 100000 in
set_option maxHeartbeats 4000000 in
theorem c_J0_coder_7d493_S1 (l : Launch) (G : va_G) (E : EE)  (D : DD) (r : RT) (h : S_J0_coder_7d493_S1  D = some r) : MM l G E yJ0_coder_7d493 cJ0_coder_7d493 1 (some .byte) (rmm 0) [.ref (E.1 1011)] D r := by
  refine m_of rfl (Nat.le_of_ble_eq_true rfl) ?_
  intro p e s m args below meth c X hr
  unfold S_J0_coder_7d493_S1 at h
  refine g_gets X (v := .int (1 : Int32)) X.2.2.2.2.2.2.2.2.2.2.2.2.1 fl_J0_38 dJ0_coder_7d493_0 ?_
  refine g_if_eq X (tgt := 13) dJ0_coder_7d493_3 (by decide) (fun q => absurd q (by decide)) (fun _ => ?_)
  refine g_aload_n X 0 (i0 := 0) dJ0_coder_7d493_6 rfl rfl ?_
  refine g_getK X (v := .int (0 : Int32)) (X.2.2.2.2.2.2.2.2.2.2.2.1 1 (by decide)).2.1 fl_J0_15 dJ0_coder_7d493_7 ?_
  refine g_goto X (tgt := 14) dJ0_coder_7d493_10 (by decide) ?_
  exact g_iret X hr rfl dJ0_coder_7d493_14 (Option.some.inj h)
def S_J0_length_8abf5_S1  (D : DD) : Option RT := (cI (S_J0_coder_7d493_S1 D) (fun r3 D2 => some (0, some (.int ((6 : Int32) >>> (r3 &&& 31))), D2)))
set_option maxRecDepth 100000 in
set_option maxHeartbeats 4000000 in
theorem c_J0_length_8abf5_S1 (l : Launch) (G : va_G) (E : EE)  (D : DD) (r : RT) (h : S_J0_length_8abf5_S1  D = some r) : MM l G E yJ0_length_8abf5 cJ0_length_8abf5 1 (some .int) (rmm 1) [.ref (E.1 1011)] D r := by
  refine m_of rfl (Nat.le_of_ble_eq_true rfl) ?_
  intro p e s m args below meth c X hr
  unfold S_J0_length_8abf5_S1 at h
  refine g_aload_n X 0 (i0 := 0) dJ0_length_8abf5_0 rfl rfl ?_
  refine g_getK X (v := .ref (E.1 1031)) (X.2.2.2.2.2.2.2.2.2.2.2.1 1 (by decide)).2.2.1 fl_J0_9 dJ0_length_8abf5_1 ?_
  refine g_tlen X (X.2.2.2.2.2.2.2.2.2.2.2.1 1 (by decide)).2.2.2 (v := (6 : Int32)) (by decide) dJ0_length_8abf5_4 ?_
  refine g_aload_n X 0 (i0 := 0) dJ0_length_8abf5_5 rfl rfl ?_
  obtain ⟨r3, D2, e1, h⟩ := cI_s h
  refine g_VK X (As := []) (rest := [.int (6 : Int32)]) (X.2.2.2.2.2.2.2.2.2.2.2.1 1 (by decide)).1 (c_J0_coder_7d493_S1 l G E  _ _ e1) kv_J0_335 ⟨rfl, rfl⟩ ⟨rfl, hd_J0_coder_7d493⟩ (⟨Nat.le_of_ble_eq_true rfl, Nat.le_of_ble_eq_true rfl⟩) rfl rfl (Nat.le_of_ble_eq_true rfl) dJ0_length_8abf5_6 ?_
  refine g_ishr X dJ0_length_8abf5_9 ?_
  exact g_iret X hr rfl dJ0_length_8abf5_10 (Option.some.inj h)
def S_J0_coder_7d493_S2  (D : DD) : Option RT := some (0, some (.int (0 : Int32)), D)
set_option maxRecDepth 100000 in
set_option maxHeartbeats 4000000 in
theorem c_J0_coder_7d493_S2 (l : Launch) (G : va_G) (E : EE)  (D : DD) (r : RT) (h : S_J0_coder_7d493_S2  D = some r) : MM l G E yJ0_coder_7d493 cJ0_coder_7d493 1 (some .byte) (rmm 0) [.ref (E.1 1012)] D r := by
  refine m_of rfl (Nat.le_of_ble_eq_true rfl) ?_
  intro p e s m args below meth c X hr
  unfold S_J0_coder_7d493_S2 at h
  refine g_gets X (v := .int (1 : Int32)) X.2.2.2.2.2.2.2.2.2.2.2.2.1 fl_J0_38 dJ0_coder_7d493_0 ?_
  refine g_if_eq X (tgt := 13) dJ0_coder_7d493_3 (by decide) (fun q => absurd q (by decide)) (fun _ => ?_)
  refine g_aload_n X 0 (i0 := 0) dJ0_coder_7d493_6 rfl rfl ?_
  refine g_getK X (v := .int (0 : Int32)) (X.2.2.2.2.2.2.2.2.2.2.2.1 2 (by decide)).2.1 fl_J0_15 dJ0_coder_7d493_7 ?_
  refine g_goto X (tgt := 14) dJ0_coder_7d493_10 (by decide) ?_
  exact g_iret X hr rfl dJ0_coder_7d493_14 (Option.some.inj h)
def S_J0_length_8abf5_S2  (D : DD) : Option RT := (cI (S_J0_coder_7d493_S2 D) (fun r3 D2 => some (0, some (.int ((6 : Int32) >>> (r3 &&& 31))), D2)))
set_option maxRecDepth 100000 in
set_option maxHeartbeats 4000000 in
theorem c_J0_length_8abf5_S2 (l : Launch) (G : va_G) (E : EE)  (D : DD) (r : RT) (h : S_J0_length_8abf5_S2  D = some r) : MM l G E yJ0_length_8abf5 cJ0_length_8abf5 1 (some .int) (rmm 1) [.ref (E.1 1012)] D r := by
  refine m_of rfl (Nat.le_of_ble_eq_true rfl) ?_
  intro p e s m args below meth c X hr
  unfold S_J0_length_8abf5_S2 at h
  refine g_aload_n X 0 (i0 := 0) dJ0_length_8abf5_0 rfl rfl ?_
  refine g_getK X (v := .ref (E.1 1032)) (X.2.2.2.2.2.2.2.2.2.2.2.1 2 (by decide)).2.2.1 fl_J0_9 dJ0_length_8abf5_1 ?_
  refine g_tlen X (X.2.2.2.2.2.2.2.2.2.2.2.1 2 (by decide)).2.2.2 (v := (6 : Int32)) (by decide) dJ0_length_8abf5_4 ?_
  refine g_aload_n X 0 (i0 := 0) dJ0_length_8abf5_5 rfl rfl ?_
  obtain ⟨r3, D2, e1, h⟩ := cI_s h
  refine g_VK X (As := []) (rest := [.int (6 : Int32)]) (X.2.2.2.2.2.2.2.2.2.2.2.1 2 (by decide)).1 (c_J0_coder_7d493_S2 l G E  _ _ e1) kv_J0_335 ⟨rfl, rfl⟩ ⟨rfl, hd_J0_coder_7d493⟩ (⟨Nat.le_of_ble_eq_true rfl, Nat.le_of_ble_eq_true rfl⟩) rfl rfl (Nat.le_of_ble_eq_true rfl) dJ0_length_8abf5_6 ?_
  refine g_ishr X dJ0_length_8abf5_9 ?_
  exact g_iret X hr rfl dJ0_length_8abf5_10 (Option.some.inj h)
def S_J0_coder_7d493_S3  (D : DD) : Option RT := some (0, some (.int (0 : Int32)), D)
set_option maxRecDepth 100000 in
set_option maxHeartbeats 4000000 in
theorem c_J0_coder_7d493_S3 (l : Launch) (G : va_G) (E : EE)  (D : DD) (r : RT) (h : S_J0_coder_7d493_S3  D = some r) : MM l G E yJ0_coder_7d493 cJ0_coder_7d493 1 (some .byte) (rmm 0) [.ref (E.1 1013)] D r := by
  refine m_of rfl (Nat.le_of_ble_eq_true rfl) ?_
  intro p e s m args below meth c X hr
  unfold S_J0_coder_7d493_S3 at h
  refine g_gets X (v := .int (1 : Int32)) X.2.2.2.2.2.2.2.2.2.2.2.2.1 fl_J0_38 dJ0_coder_7d493_0 ?_
  refine g_if_eq X (tgt := 13) dJ0_coder_7d493_3 (by decide) (fun q => absurd q (by decide)) (fun _ => ?_)
  refine g_aload_n X 0 (i0 := 0) dJ0_coder_7d493_6 rfl rfl ?_
  refine g_getK X (v := .int (0 : Int32)) (X.2.2.2.2.2.2.2.2.2.2.2.1 3 (by decide)).2.1 fl_J0_15 dJ0_coder_7d493_7 ?_
  refine g_goto X (tgt := 14) dJ0_coder_7d493_10 (by decide) ?_
  exact g_iret X hr rfl dJ0_coder_7d493_14 (Option.some.inj h)
def S_J0_length_8abf5_S3  (D : DD) : Option RT := (cI (S_J0_coder_7d493_S3 D) (fun r3 D2 => some (0, some (.int ((6 : Int32) >>> (r3 &&& 31))), D2)))
set_option maxRecDepth 100000 in
set_option maxHeartbeats 4000000 in
theorem c_J0_length_8abf5_S3 (l : Launch) (G : va_G) (E : EE)  (D : DD) (r : RT) (h : S_J0_length_8abf5_S3  D = some r) : MM l G E yJ0_length_8abf5 cJ0_length_8abf5 1 (some .int) (rmm 1) [.ref (E.1 1013)] D r := by
  refine m_of rfl (Nat.le_of_ble_eq_true rfl) ?_
  intro p e s m args below meth c X hr
  unfold S_J0_length_8abf5_S3 at h
  refine g_aload_n X 0 (i0 := 0) dJ0_length_8abf5_0 rfl rfl ?_
  refine g_getK X (v := .ref (E.1 1033)) (X.2.2.2.2.2.2.2.2.2.2.2.1 3 (by decide)).2.2.1 fl_J0_9 dJ0_length_8abf5_1 ?_
  refine g_tlen X (X.2.2.2.2.2.2.2.2.2.2.2.1 3 (by decide)).2.2.2 (v := (6 : Int32)) (by decide) dJ0_length_8abf5_4 ?_
  refine g_aload_n X 0 (i0 := 0) dJ0_length_8abf5_5 rfl rfl ?_
  obtain ⟨r3, D2, e1, h⟩ := cI_s h
  refine g_VK X (As := []) (rest := [.int (6 : Int32)]) (X.2.2.2.2.2.2.2.2.2.2.2.1 3 (by decide)).1 (c_J0_coder_7d493_S3 l G E  _ _ e1) kv_J0_335 ⟨rfl, rfl⟩ ⟨rfl, hd_J0_coder_7d493⟩ (⟨Nat.le_of_ble_eq_true rfl, Nat.le_of_ble_eq_true rfl⟩) rfl rfl (Nat.le_of_ble_eq_true rfl) dJ0_length_8abf5_6 ?_
  refine g_ishr X dJ0_length_8abf5_9 ?_
  exact g_iret X hr rfl dJ0_length_8abf5_10 (Option.some.inj h)
def S_J0_coder_7d493_S4  (D : DD) : Option RT := some (0, some (.int (0 : Int32)), D)
set_option maxRecDepth 100000 in
set_option maxHeartbeats 4000000 in
theorem c_J0_coder_7d493_S4 (l : Launch) (G : va_G) (E : EE)  (D : DD) (r : RT) (h : S_J0_coder_7d493_S4  D = some r) : MM l G E yJ0_coder_7d493 cJ0_coder_7d493 1 (some .byte) (rmm 0) [.ref (E.1 1014)] D r := by
  refine m_of rfl (Nat.le_of_ble_eq_true rfl) ?_
  intro p e s m args below meth c X hr
  unfold S_J0_coder_7d493_S4 at h
  refine g_gets X (v := .int (1 : Int32)) X.2.2.2.2.2.2.2.2.2.2.2.2.1 fl_J0_38 dJ0_coder_7d493_0 ?_
  refine g_if_eq X (tgt := 13) dJ0_coder_7d493_3 (by decide) (fun q => absurd q (by decide)) (fun _ => ?_)
  refine g_aload_n X 0 (i0 := 0) dJ0_coder_7d493_6 rfl rfl ?_
  refine g_getK X (v := .int (0 : Int32)) (X.2.2.2.2.2.2.2.2.2.2.2.1 4 (by decide)).2.1 fl_J0_15 dJ0_coder_7d493_7 ?_
  refine g_goto X (tgt := 14) dJ0_coder_7d493_10 (by decide) ?_
  exact g_iret X hr rfl dJ0_coder_7d493_14 (Option.some.inj h)
def S_J0_length_8abf5_S4  (D : DD) : Option RT := (cI (S_J0_coder_7d493_S4 D) (fun r3 D2 => some (0, some (.int ((3 : Int32) >>> (r3 &&& 31))), D2)))
set_option maxRecDepth 100000 in
set_option maxHeartbeats 4000000 in
theorem c_J0_length_8abf5_S4 (l : Launch) (G : va_G) (E : EE)  (D : DD) (r : RT) (h : S_J0_length_8abf5_S4  D = some r) : MM l G E yJ0_length_8abf5 cJ0_length_8abf5 1 (some .int) (rmm 1) [.ref (E.1 1014)] D r := by
  refine m_of rfl (Nat.le_of_ble_eq_true rfl) ?_
  intro p e s m args below meth c X hr
  unfold S_J0_length_8abf5_S4 at h
  refine g_aload_n X 0 (i0 := 0) dJ0_length_8abf5_0 rfl rfl ?_
  refine g_getK X (v := .ref (E.1 1034)) (X.2.2.2.2.2.2.2.2.2.2.2.1 4 (by decide)).2.2.1 fl_J0_9 dJ0_length_8abf5_1 ?_
  refine g_tlen X (X.2.2.2.2.2.2.2.2.2.2.2.1 4 (by decide)).2.2.2 (v := (3 : Int32)) (by decide) dJ0_length_8abf5_4 ?_
  refine g_aload_n X 0 (i0 := 0) dJ0_length_8abf5_5 rfl rfl ?_
  obtain ⟨r3, D2, e1, h⟩ := cI_s h
  refine g_VK X (As := []) (rest := [.int (3 : Int32)]) (X.2.2.2.2.2.2.2.2.2.2.2.1 4 (by decide)).1 (c_J0_coder_7d493_S4 l G E  _ _ e1) kv_J0_335 ⟨rfl, rfl⟩ ⟨rfl, hd_J0_coder_7d493⟩ (⟨Nat.le_of_ble_eq_true rfl, Nat.le_of_ble_eq_true rfl⟩) rfl rfl (Nat.le_of_ble_eq_true rfl) dJ0_length_8abf5_6 ?_
  refine g_ishr X dJ0_length_8abf5_9 ?_
  exact g_iret X hr rfl dJ0_length_8abf5_10 (Option.some.inj h)
def S_J0_coder_7d493_S5  (D : DD) : Option RT := some (0, some (.int (0 : Int32)), D)
set_option maxRecDepth 100000 in
set_option maxHeartbeats 4000000 in
theorem c_J0_coder_7d493_S5 (l : Launch) (G : va_G) (E : EE)  (D : DD) (r : RT) (h : S_J0_coder_7d493_S5  D = some r) : MM l G E yJ0_coder_7d493 cJ0_coder_7d493 1 (some .byte) (rmm 0) [.ref (E.1 1015)] D r := by
  refine m_of rfl (Nat.le_of_ble_eq_true rfl) ?_
  intro p e s m args below meth c X hr
  unfold S_J0_coder_7d493_S5 at h
  refine g_gets X (v := .int (1 : Int32)) X.2.2.2.2.2.2.2.2.2.2.2.2.1 fl_J0_38 dJ0_coder_7d493_0 ?_
  refine g_if_eq X (tgt := 13) dJ0_coder_7d493_3 (by decide) (fun q => absurd q (by decide)) (fun _ => ?_)
  refine g_aload_n X 0 (i0 := 0) dJ0_coder_7d493_6 rfl rfl ?_
  refine g_getK X (v := .int (0 : Int32)) (X.2.2.2.2.2.2.2.2.2.2.2.1 5 (by decide)).2.1 fl_J0_15 dJ0_coder_7d493_7 ?_
  refine g_goto X (tgt := 14) dJ0_coder_7d493_10 (by decide) ?_
  exact g_iret X hr rfl dJ0_coder_7d493_14 (Option.some.inj h)
def S_J0_length_8abf5_S5  (D : DD) : Option RT := (cI (S_J0_coder_7d493_S5 D) (fun r3 D2 => some (0, some (.int ((5 : Int32) >>> (r3 &&& 31))), D2)))
set_option maxRecDepth 100000 in
set_option maxHeartbeats 4000000 in
theorem c_J0_length_8abf5_S5 (l : Launch) (G : va_G) (E : EE)  (D : DD) (r : RT) (h : S_J0_length_8abf5_S5  D = some r) : MM l G E yJ0_length_8abf5 cJ0_length_8abf5 1 (some .int) (rmm 1) [.ref (E.1 1015)] D r := by
  refine m_of rfl (Nat.le_of_ble_eq_true rfl) ?_
  intro p e s m args below meth c X hr
  unfold S_J0_length_8abf5_S5 at h
  refine g_aload_n X 0 (i0 := 0) dJ0_length_8abf5_0 rfl rfl ?_
  refine g_getK X (v := .ref (E.1 1035)) (X.2.2.2.2.2.2.2.2.2.2.2.1 5 (by decide)).2.2.1 fl_J0_9 dJ0_length_8abf5_1 ?_
  refine g_tlen X (X.2.2.2.2.2.2.2.2.2.2.2.1 5 (by decide)).2.2.2 (v := (5 : Int32)) (by decide) dJ0_length_8abf5_4 ?_
  refine g_aload_n X 0 (i0 := 0) dJ0_length_8abf5_5 rfl rfl ?_
  obtain ⟨r3, D2, e1, h⟩ := cI_s h
  refine g_VK X (As := []) (rest := [.int (5 : Int32)]) (X.2.2.2.2.2.2.2.2.2.2.2.1 5 (by decide)).1 (c_J0_coder_7d493_S5 l G E  _ _ e1) kv_J0_335 ⟨rfl, rfl⟩ ⟨rfl, hd_J0_coder_7d493⟩ (⟨Nat.le_of_ble_eq_true rfl, Nat.le_of_ble_eq_true rfl⟩) rfl rfl (Nat.le_of_ble_eq_true rfl) dJ0_length_8abf5_6 ?_
  refine g_ishr X dJ0_length_8abf5_9 ?_
  exact g_iret X hr rfl dJ0_length_8abf5_10 (Option.some.inj h)
def S_J0_coder_7d493_S6  (D : DD) : Option RT := some (0, some (.int (0 : Int32)), D)
set_option maxRecDepth 100000 in
set_option maxHeartbeats 4000000 in
theorem c_J0_coder_7d493_S6 (l : Launch) (G : va_G) (E : EE)  (D : DD) (r : RT) (h : S_J0_coder_7d493_S6  D = some r) : MM l G E yJ0_coder_7d493 cJ0_coder_7d493 1 (some .byte) (rmm 0) [.ref (E.1 1016)] D r := by
  refine m_of rfl (Nat.le_of_ble_eq_true rfl) ?_
  intro p e s m args below meth c X hr
  unfold S_J0_coder_7d493_S6 at h
  refine g_gets X (v := .int (1 : Int32)) X.2.2.2.2.2.2.2.2.2.2.2.2.1 fl_J0_38 dJ0_coder_7d493_0 ?_
  refine g_if_eq X (tgt := 13) dJ0_coder_7d493_3 (by decide) (fun q => absurd q (by decide)) (fun _ => ?_)
  refine g_aload_n X 0 (i0 := 0) dJ0_coder_7d493_6 rfl rfl ?_
  refine g_getK X (v := .int (0 : Int32)) (X.2.2.2.2.2.2.2.2.2.2.2.1 6 (by decide)).2.1 fl_J0_15 dJ0_coder_7d493_7 ?_
  refine g_goto X (tgt := 14) dJ0_coder_7d493_10 (by decide) ?_
  exact g_iret X hr rfl dJ0_coder_7d493_14 (Option.some.inj h)
def S_J0_length_8abf5_S6  (D : DD) : Option RT := (cI (S_J0_coder_7d493_S6 D) (fun r3 D2 => some (0, some (.int ((4 : Int32) >>> (r3 &&& 31))), D2)))
set_option maxRecDepth 100000 in
set_option maxHeartbeats 4000000 in
theorem c_J0_length_8abf5_S6 (l : Launch) (G : va_G) (E : EE)  (D : DD) (r : RT) (h : S_J0_length_8abf5_S6  D = some r) : MM l G E yJ0_length_8abf5 cJ0_length_8abf5 1 (some .int) (rmm 1) [.ref (E.1 1016)] D r := by
  refine m_of rfl (Nat.le_of_ble_eq_true rfl) ?_
  intro p e s m args below meth c X hr
  unfold S_J0_length_8abf5_S6 at h
  refine g_aload_n X 0 (i0 := 0) dJ0_length_8abf5_0 rfl rfl ?_
  refine g_getK X (v := .ref (E.1 1036)) (X.2.2.2.2.2.2.2.2.2.2.2.1 6 (by decide)).2.2.1 fl_J0_9 dJ0_length_8abf5_1 ?_
  refine g_tlen X (X.2.2.2.2.2.2.2.2.2.2.2.1 6 (by decide)).2.2.2 (v := (4 : Int32)) (by decide) dJ0_length_8abf5_4 ?_
  refine g_aload_n X 0 (i0 := 0) dJ0_length_8abf5_5 rfl rfl ?_
  obtain ⟨r3, D2, e1, h⟩ := cI_s h
  refine g_VK X (As := []) (rest := [.int (4 : Int32)]) (X.2.2.2.2.2.2.2.2.2.2.2.1 6 (by decide)).1 (c_J0_coder_7d493_S6 l G E  _ _ e1) kv_J0_335 ⟨rfl, rfl⟩ ⟨rfl, hd_J0_coder_7d493⟩ (⟨Nat.le_of_ble_eq_true rfl, Nat.le_of_ble_eq_true rfl⟩) rfl rfl (Nat.le_of_ble_eq_true rfl) dJ0_length_8abf5_6 ?_
  refine g_ishr X dJ0_length_8abf5_9 ?_
  exact g_iret X hr rfl dJ0_length_8abf5_10 (Option.some.inj h)
def S_J0_isLatin1_aae02_S0  (D : DD) : Option RT := some (0, some (.int (1 : Int32)), D)
set_option maxRecDepth 100000 in
set_option maxHeartbeats 4000000 in
theorem c_J0_isLatin1_aae02_S0 (l : Launch) (G : va_G) (E : EE)  (D : DD) (r : RT) (h : S_J0_isLatin1_aae02_S0  D = some r) : MM l G E yJ0_isLatin1_aae02 cJ0_isLatin1_aae02 1 (some .boolean) (rmm 0) [.ref (E.1 1010)] D r := by
  refine m_of rfl (Nat.le_of_ble_eq_true rfl) ?_
  intro p e s m args below meth c X hr
  unfold S_J0_isLatin1_aae02_S0 at h
  refine g_gets X (v := .int (1 : Int32)) X.2.2.2.2.2.2.2.2.2.2.2.2.1 fl_J0_38 dJ0_isLatin1_aae02_0 ?_
  refine g_if_eq X (tgt := 17) dJ0_isLatin1_aae02_3 (by decide) (fun q => absurd q (by decide)) (fun _ => ?_)
  refine g_aload_n X 0 (i0 := 0) dJ0_isLatin1_aae02_6 rfl rfl ?_
  refine g_getK X (v := .int (0 : Int32)) (X.2.2.2.2.2.2.2.2.2.2.2.1 0 (by decide)).2.1 fl_J0_15 dJ0_isLatin1_aae02_7 ?_
  refine g_if_ne X (tgt := 17) dJ0_isLatin1_aae02_10 (by decide) (fun q => absurd q (by decide)) (fun _ => ?_)
  refine g_iconst X (v := (1 : Int32)) dJ0_isLatin1_aae02_13 (by decide) ?_
  refine g_goto X (tgt := 18) dJ0_isLatin1_aae02_14 (by decide) ?_
  exact g_iret X hr rfl dJ0_isLatin1_aae02_18 (Option.some.inj h)
def S_J2_length_9d52b_V0  (D : DD) : Option RT := some (0, some (.int ((4 : Int32) >>> ((1 : Int32) &&& 31))), D)
set_option maxRecDepth 100000 in
set_option maxHeartbeats 4000000 in
theorem c_J2_length_9d52b_V0 (l : Launch) (G : va_G) (E : EE)  (D : DD) (r : RT) (h : S_J2_length_9d52b_V0  D = some r) : MM l G E yJ2_length_9d52b cJ2_length_9d52b 1 (some .int) (rmm 0) [.ref (E.1 1030)] D r := by
  refine m_of rfl (Nat.le_of_ble_eq_true rfl) ?_
  intro p e s m args below meth c X hr
  unfold S_J2_length_9d52b_V0 at h
  refine g_aload_n X 0 (i0 := 0) dJ2_length_9d52b_0 rfl rfl ?_
  refine g_tlen X (X.2.2.2.2.2.2.2.2.2.2.2.1 0 (by decide)).2.2.2 (v := (4 : Int32)) (by decide) dJ2_length_9d52b_1 ?_
  refine g_iconst X (v := (1 : Int32)) dJ2_length_9d52b_2 (by decide) ?_
  refine g_ishr X dJ2_length_9d52b_3 ?_
  exact g_iret X hr rfl dJ2_length_9d52b_4 (Option.some.inj h)
theorem hd_J0_checkIndex_df160 : yJ0_checkIndex_df160.cls ≠ "java/lang/invoke/MethodHandle" ∧ yJ0_checkIndex_df160.cls ≠ "java/lang/invoke/VarHandle" ∧ (parseMethodDescriptor yJ0_checkIndex_df160.desc).map (fun d => d.parameters.length) = some 2 := by decide +kernel
theorem hd_J2_length_9d52b : yJ2_length_9d52b.cls ≠ "java/lang/invoke/MethodHandle" ∧ yJ2_length_9d52b.cls ≠ "java/lang/invoke/VarHandle" ∧ (parseMethodDescriptor yJ2_length_9d52b.desc).map (fun d => d.parameters.length) = some 1 := by decide +kernel
theorem wc_J0_checkIndex_df160 : Cond.code yJ0_checkIndex_df160 cJ0_checkIndex_df160 2 none ∈ UT := ut 1232 (by decide +kernel) (by decide +kernel)
theorem wt_J0_checkIndex_df160 : Cond.static yJ0_checkIndex_df160 ∈ UT := ut 1231 (by decide +kernel) (by decide +kernel)
theorem ks_J2_414 : GoodIn UT (va_wsS RJ2 414 yJ0_checkIndex_df160 (Cond.code yJ0_checkIndex_df160 cJ0_checkIndex_df160 2 none :: UT)) := gu_S (ut 1247 (by decide +kernel) (by decide +kernel)) wt_J0_checkIndex_df160 wi_RJ0 wc_J0_checkIndex_df160
theorem wc_J2_length_9d52b : Cond.code yJ2_length_9d52b cJ2_length_9d52b 1 (some .int) ∈ UT := ut 1246 (by decide +kernel) (by decide +kernel)
theorem wi_RJ2 : Cond.initialized RJ2 ∈ UT := ut 103 (by decide +kernel) (by decide +kernel)
theorem wt_J2_length_9d52b : Cond.static yJ2_length_9d52b ∈ UT := ut 1245 (by decide +kernel) (by decide +kernel)
theorem ks_J2_48 : GoodIn UT (va_wsS RJ2 48 yJ2_length_9d52b (Cond.code yJ2_length_9d52b cJ2_length_9d52b 1 (some .int) :: UT)) := gu_S (ut 1244 (by decide +kernel) (by decide +kernel)) wt_J2_length_9d52b wi_RJ2 wc_J2_length_9d52b
def S_J2_checkIndex_2214a_V0 (a0 : Int32) (D : DD) : Option RT := (cI (S_J2_length_9d52b_V0 D) (fun r3 D2 => (cV (S_J0_checkIndex_df160 a0 r3 D2) (fun D5 => some (0, none, D5)))))
set_option maxRecDepth 100000 in
set_option maxHeartbeats 4000000 in
theorem c_J2_checkIndex_2214a_V0 (l : Launch) (G : va_G) (E : EE) (a0 : Int32) (D : DD) (r : RT) (h : S_J2_checkIndex_2214a_V0 a0 D = some r) : MM l G E yJ2_checkIndex_2214a cJ2_checkIndex_2214a 2 none (rmm 2) [.int a0, .ref (E.1 1030)] D r := by
  refine m_of rfl (Nat.le_of_ble_eq_true rfl) ?_
  intro p e s m args below meth c X hr
  unfold S_J2_checkIndex_2214a_V0 at h
  refine g_iload_n X 0 (i0 := 0) dJ2_checkIndex_2214a_0 rfl rfl ?_
  refine g_aload_n X 1 (i0 := 1) dJ2_checkIndex_2214a_1 rfl rfl ?_
  obtain ⟨r3, D2, e1, h⟩ := cI_s h
  refine g_S X (As := [.ref (E.1 1030)]) (rest := [.int a0]) (c_J2_length_9d52b_V0 l G E  _ _ e1) ks_J2_48 ⟨rfl, rfl⟩ hd_J2_length_9d52b (⟨Nat.le_of_ble_eq_true rfl, Nat.le_of_ble_eq_true rfl⟩) rfl rfl (Nat.le_of_ble_eq_true rfl) dJ2_checkIndex_2214a_2 ?_
  obtain ⟨D5, e4, h⟩ := cV_s h
  refine g_S X (As := [.int a0, .int r3]) (rest := []) (c_J0_checkIndex_df160 l G E a0 r3 _ _ e4) ks_J2_414 ⟨rfl, rfl⟩ hd_J0_checkIndex_df160 (⟨Nat.le_of_ble_eq_true rfl, Nat.le_of_ble_eq_true rfl⟩) rfl rfl (Nat.le_of_ble_eq_true rfl) dJ2_checkIndex_2214a_5 ?_
  exact g_vret X hr dJ2_checkIndex_2214a_8 (Option.some.inj h)
theorem hd_J2_checkIndex_2214a : yJ2_checkIndex_2214a.cls ≠ "java/lang/invoke/MethodHandle" ∧ yJ2_checkIndex_2214a.cls ≠ "java/lang/invoke/VarHandle" ∧ (parseMethodDescriptor yJ2_checkIndex_2214a.desc).map (fun d => d.parameters.length) = some 2 := by decide +kernel
theorem wc_J2_checkIndex_2214a : Cond.code yJ2_checkIndex_2214a cJ2_checkIndex_2214a 2 none ∈ UT := ut 1243 (by decide +kernel) (by decide +kernel)
theorem wt_J2_checkIndex_2214a : Cond.static yJ2_checkIndex_2214a ∈ UT := ut 1242 (by decide +kernel) (by decide +kernel)
theorem ks_J2_67 : GoodIn UT (va_wsS RJ2 67 yJ2_checkIndex_2214a (Cond.code yJ2_checkIndex_2214a cJ2_checkIndex_2214a 2 none :: UT)) := gu_S (ut 1241 (by decide +kernel) (by decide +kernel)) wt_J2_checkIndex_2214a wi_RJ2 wc_J2_checkIndex_2214a
def S_J2_charAt_3b067_V0 (a1 : Int32) (D : DD) : Option RT := (cV (S_J2_checkIndex_2214a_V0 a1 D) (fun D2 => none))
set_option maxRecDepth 100000 in
set_option maxHeartbeats 4000000 in
theorem c_J2_charAt_3b067_V0 (l : Launch) (G : va_G) (E : EE) (a1 : Int32) (D : DD) (r : RT) (h : S_J2_charAt_3b067_V0 a1 D = some r) : MM l G E yJ2_charAt_3b067 cJ2_charAt_3b067 2 (some .char) (rmm 3) [.ref (E.1 1030), .int a1] D r := by
  refine m_of rfl (Nat.le_of_ble_eq_true rfl) ?_
  intro p e s m args below meth c X hr
  unfold S_J2_charAt_3b067_V0 at h
  refine g_iload_n X 1 (i0 := 1) dJ2_charAt_3b067_0 rfl rfl ?_
  refine g_aload_n X 0 (i0 := 0) dJ2_charAt_3b067_1 rfl rfl ?_
  obtain ⟨D2, e1, h⟩ := cV_s h
  refine g_S X (As := [.int a1, .ref (E.1 1030)]) (rest := []) (c_J2_checkIndex_2214a_V0 l G E a1 _ _ e1) ks_J2_67 ⟨rfl, rfl⟩ hd_J2_checkIndex_2214a (⟨Nat.le_of_ble_eq_true rfl, Nat.le_of_ble_eq_true rfl⟩) rfl rfl (Nat.le_of_ble_eq_true rfl) dJ2_charAt_3b067_2 ?_
  refine g_aload_n X 0 (i0 := 0) dJ2_charAt_3b067_5 rfl rfl ?_
  refine g_iload_n X 1 (i0 := 1) dJ2_charAt_3b067_6 rfl rfl ?_
  cases h
theorem ks_J1_9 : GoodIn UT (va_wsS RJ1 9 yJ0_checkIndex_df160 (Cond.code yJ0_checkIndex_df160 cJ0_checkIndex_df160 2 none :: UT)) := gu_S (ut 1230 (by decide +kernel) (by decide +kernel)) wt_J0_checkIndex_df160 wi_RJ0 wc_J0_checkIndex_df160
def S_J1_charAt_3b067_V0 (a1 : Int32) (D : DD) : Option RT := (cV (S_J0_checkIndex_df160 a1 (4 : Int32) D) (fun D2 => (if inB a1 4 = true then (if vp_nar .char ((((cmdB 0).getD a1.toNatClampNeg 0) &&& (255 : Int32)).toUInt32 % 65536).toInt32 = ((((cmdB 0).getD a1.toNatClampNeg 0) &&& (255 : Int32)).toUInt32 % 65536).toInt32 then some (0, some (.int ((((cmdB 0).getD a1.toNatClampNeg 0) &&& (255 : Int32)).toUInt32 % 65536).toInt32), D2) else none) else none)))
set_option maxRecDepth 100000 in
set_option maxHeartbeats 4000000 in
theorem c_J1_charAt_3b067_V0 (l : Launch) (G : va_G) (E : EE) (a1 : Int32) (D : DD) (r : RT) (h : S_J1_charAt_3b067_V0 a1 D = some r) : MM l G E yJ1_charAt_3b067 cJ1_charAt_3b067 2 (some .char) (rmm 2) [.ref (E.1 1030), .int a1] D r := by
  refine m_of rfl (Nat.le_of_ble_eq_true rfl) ?_
  intro p e s m args below meth c X hr
  unfold S_J1_charAt_3b067_V0 at h
  refine g_iload_n X 1 (i0 := 1) dJ1_charAt_3b067_0 rfl rfl ?_
  refine g_aload_n X 0 (i0 := 0) dJ1_charAt_3b067_1 rfl rfl ?_
  refine g_tlen X (X.2.2.2.2.2.2.2.2.2.2.2.1 0 (by decide)).2.2.2 (v := (4 : Int32)) (by decide) dJ1_charAt_3b067_2 ?_
  obtain ⟨D2, e1, h⟩ := cV_s h
  refine g_S X (As := [.int a1, .int (4 : Int32)]) (rest := []) (c_J0_checkIndex_df160 l G E a1 (4 : Int32) _ _ e1) ks_J1_9 ⟨rfl, rfl⟩ hd_J0_checkIndex_df160 (⟨Nat.le_of_ble_eq_true rfl, Nat.le_of_ble_eq_true rfl⟩) rfl rfl (Nat.le_of_ble_eq_true rfl) dJ1_charAt_3b067_3 ?_
  refine g_aload_n X 0 (i0 := 0) dJ1_charAt_3b067_6 rfl rfl ?_
  refine g_iload_n X 1 (i0 := 1) dJ1_charAt_3b067_7 rfl rfl ?_
  obtain ⟨b3, h⟩ := chk_s h
  refine g_tb X (X.2.2.2.2.2.2.2.2.2.2.2.1 0 (by decide)).2.2.2 (i := a1) (v := .int ((cmdB 0).getD a1.toNatClampNeg 0)) (inB_vp b3) rfl dJ1_charAt_3b067_8 ?_
  refine g_sipush X (v := (255 : Int32)) dJ1_charAt_3b067_9 (by decide) ?_
  refine g_iand X dJ1_charAt_3b067_12 ?_
  refine g_i2c X dJ1_charAt_3b067_13 ?_
  obtain ⟨n4, h⟩ := chk_s h
  exact g_iret X hr (by first | exact congrArg Value.int n4 | (rw [show narrow .char (.int ((((cmdB 0).getD a1.toNatClampNeg 0) &&& (255 : Int32)).toUInt32 % 65536).toInt32) = .int (vp_nar .char ((((cmdB 0).getD a1.toNatClampNeg 0) &&& (255 : Int32)).toUInt32 % 65536).toInt32) from rfl, n4])) dJ1_charAt_3b067_14 (Option.some.inj h)
theorem hd_J0_isLatin1_aae02 : yJ0_isLatin1_aae02.cls ≠ "java/lang/invoke/MethodHandle" ∧ yJ0_isLatin1_aae02.cls ≠ "java/lang/invoke/VarHandle" ∧ (parseMethodDescriptor yJ0_isLatin1_aae02.desc).map (fun d => d.parameters.length) = some 0 := by decide +kernel
theorem hd_J1_charAt_3b067 : yJ1_charAt_3b067.cls ≠ "java/lang/invoke/MethodHandle" ∧ yJ1_charAt_3b067.cls ≠ "java/lang/invoke/VarHandle" ∧ (parseMethodDescriptor yJ1_charAt_3b067.desc).map (fun d => d.parameters.length) = some 2 := by decide +kernel
theorem hd_J2_charAt_3b067 : yJ2_charAt_3b067.cls ≠ "java/lang/invoke/MethodHandle" ∧ yJ2_charAt_3b067.cls ≠ "java/lang/invoke/VarHandle" ∧ (parseMethodDescriptor yJ2_charAt_3b067.desc).map (fun d => d.parameters.length) = some 2 := by decide +kernel
theorem wc_J1_charAt_3b067 : Cond.code yJ1_charAt_3b067 cJ1_charAt_3b067 2 (some .char) ∈ UT := ut 1229 (by decide +kernel) (by decide +kernel)
theorem wi_RJ1 : Cond.initialized RJ1 ∈ UT := ut 101 (by decide +kernel) (by decide +kernel)
theorem wt_J1_charAt_3b067 : Cond.static yJ1_charAt_3b067 ∈ UT := ut 1228 (by decide +kernel) (by decide +kernel)
theorem ks_J0_495 : GoodIn UT (va_wsS RJ0 495 yJ1_charAt_3b067 (Cond.code yJ1_charAt_3b067 cJ1_charAt_3b067 2 (some .char) :: UT)) := gu_S (ut 1227 (by decide +kernel) (by decide +kernel)) wt_J1_charAt_3b067 wi_RJ1 wc_J1_charAt_3b067
theorem wc_J2_charAt_3b067 : Cond.code yJ2_charAt_3b067 cJ2_charAt_3b067 2 (some .char) ∈ UT := ut 1240 (by decide +kernel) (by decide +kernel)
theorem wt_J2_charAt_3b067 : Cond.static yJ2_charAt_3b067 ∈ UT := ut 1239 (by decide +kernel) (by decide +kernel)
theorem ks_J0_498 : GoodIn UT (va_wsS RJ0 498 yJ2_charAt_3b067 (Cond.code yJ2_charAt_3b067 cJ2_charAt_3b067 2 (some .char) :: UT)) := gu_S (ut 1238 (by decide +kernel) (by decide +kernel)) wt_J2_charAt_3b067 wi_RJ2 wc_J2_charAt_3b067
theorem wc_J0_isLatin1_aae02 : Cond.code yJ0_isLatin1_aae02 cJ0_isLatin1_aae02 1 (some .boolean) ∈ UT := ut 1226 (by decide +kernel) (by decide +kernel)
theorem we_J0_isLatin1_aae02 : Cond.selects RJ0 yJ0_isLatin1_aae02 yJ0_isLatin1_aae02 ∈ UT := ut 1225 (by decide +kernel) (by decide +kernel)
theorem wm_J0_isLatin1_aae02 : Cond.instanceMethod yJ0_isLatin1_aae02 ∈ UT := ut 1224 (by decide +kernel) (by decide +kernel)
theorem kv_J0_492 : GoodIn UT (wsV RJ0 492 RJ0 yJ0_isLatin1_aae02 (Cond.code yJ0_isLatin1_aae02 cJ0_isLatin1_aae02 1 (some .boolean) :: UT)) := gu_V (ut 1223 (by decide +kernel) (by decide +kernel)) wm_J0_isLatin1_aae02 we_J0_isLatin1_aae02 wi_RJ0 wc_J0_isLatin1_aae02
def S_J0_charAt_5068e_S0 (a0 : Int32) (D : DD) : Option RT := (cI (S_J0_isLatin1_aae02_S0 D) (fun r3 D2 => (if r3 = 0 then (cI (S_J2_charAt_3b067_V0 a0 D2) (fun r6 D5 => (if vp_nar .char r6 = r6 then some (0, some (.int r6), D5) else none))) else (cI (S_J1_charAt_3b067_V0 a0 D2) (fun r10 D9 => (if vp_nar .char r10 = r10 then some (0, some (.int r10), D9) else none))))))
set_option maxRecDepth 100000 in
set_option maxHeartbeats 4000000 in
theorem c_J0_charAt_5068e_S0 (l : Launch) (G : va_G) (E : EE) (a0 : Int32) (D : DD) (r : RT) (h : S_J0_charAt_5068e_S0 a0 D = some r) : MM l G E yJ0_charAt_5068e cJ0_charAt_5068e 2 (some .char) (rmm 4) [.ref (E.1 1010), .int a0] D r := by
  refine m_of rfl (Nat.le_of_ble_eq_true rfl) ?_
  intro p e s m args below meth c X hr
  unfold S_J0_charAt_5068e_S0 at h
  refine g_aload_n X 0 (i0 := 0) dJ0_charAt_5068e_0 rfl rfl ?_
  obtain ⟨r3, D2, e1, h⟩ := cI_s h
  refine g_VK X (As := []) (rest := []) (X.2.2.2.2.2.2.2.2.2.2.2.1 0 (by decide)).1 (c_J0_isLatin1_aae02_S0 l G E  _ _ e1) kv_J0_492 ⟨rfl, rfl⟩ ⟨rfl, hd_J0_isLatin1_aae02⟩ (⟨Nat.le_of_ble_eq_true rfl, Nat.le_of_ble_eq_true rfl⟩) rfl rfl (Nat.le_of_ble_eq_true rfl) dJ0_charAt_5068e_1 ?_
  refine g_if_eq X (tgt := 16) dJ0_charAt_5068e_4 (by decide) (fun c12 => ?_) (fun c12 => ?_)
  · have h := (ite_s h).1 c12
    refine g_aload_n X 0 (i0 := 0) dJ0_charAt_5068e_16 rfl rfl ?_
    refine g_getK X (v := .ref (E.1 1030)) (X.2.2.2.2.2.2.2.2.2.2.2.1 0 (by decide)).2.2.1 fl_J0_9 dJ0_charAt_5068e_17 ?_
    refine g_iload_n X 1 (i0 := 1) dJ0_charAt_5068e_20 rfl rfl ?_
    obtain ⟨r6, D5, e4, h⟩ := cI_s h
    refine g_S X (As := [.ref (E.1 1030), .int a0]) (rest := []) (c_J2_charAt_3b067_V0 l G E a0 _ _ e4) ks_J0_498 ⟨rfl, rfl⟩ hd_J2_charAt_3b067 (⟨Nat.le_of_ble_eq_true rfl, Nat.le_of_ble_eq_true rfl⟩) rfl rfl (Nat.le_of_ble_eq_true rfl) dJ0_charAt_5068e_21 ?_
    obtain ⟨n7, h⟩ := chk_s h
    exact g_iret X hr (by first | exact congrArg Value.int n7 | (rw [show narrow .char (.int r6) = .int (vp_nar .char r6) from rfl, n7])) dJ0_charAt_5068e_24 (Option.some.inj h)
  · have h := (ite_s h).2 c12
    refine g_aload_n X 0 (i0 := 0) dJ0_charAt_5068e_7 rfl rfl ?_
    refine g_getK X (v := .ref (E.1 1030)) (X.2.2.2.2.2.2.2.2.2.2.2.1 0 (by decide)).2.2.1 fl_J0_9 dJ0_charAt_5068e_8 ?_
    refine g_iload_n X 1 (i0 := 1) dJ0_charAt_5068e_11 rfl rfl ?_
    obtain ⟨r10, D9, e8, h⟩ := cI_s h
    refine g_S X (As := [.ref (E.1 1030), .int a0]) (rest := []) (c_J1_charAt_3b067_V0 l G E a0 _ _ e8) ks_J0_495 ⟨rfl, rfl⟩ hd_J1_charAt_3b067 (⟨Nat.le_of_ble_eq_true rfl, Nat.le_of_ble_eq_true rfl⟩) rfl rfl (Nat.le_of_ble_eq_true rfl) dJ0_charAt_5068e_12 ?_
    obtain ⟨n11, h⟩ := chk_s h
    exact g_iret X hr (by first | exact congrArg Value.int n11 | (rw [show narrow .char (.int r10) = .int (vp_nar .char r10) from rfl, n11])) dJ0_charAt_5068e_15 (Option.some.inj h)
theorem hd_J0_charAt_5068e : yJ0_charAt_5068e.cls ≠ "java/lang/invoke/MethodHandle" ∧ yJ0_charAt_5068e.cls ≠ "java/lang/invoke/VarHandle" ∧ (parseMethodDescriptor yJ0_charAt_5068e.desc).map (fun d => d.parameters.length) = some 1 := by decide +kernel
theorem hd_J0_length_8abf5 : yJ0_length_8abf5.cls ≠ "java/lang/invoke/MethodHandle" ∧ yJ0_length_8abf5.cls ≠ "java/lang/invoke/VarHandle" ∧ (parseMethodDescriptor yJ0_length_8abf5.desc).map (fun d => d.parameters.length) = some 0 := by decide +kernel
theorem wc_J0_length_8abf5 : Cond.code yJ0_length_8abf5 cJ0_length_8abf5 1 (some .int) ∈ UT := ut 1212 (by decide +kernel) (by decide +kernel)
theorem we_J0_length_8abf5 : Cond.selects RJ0 yJ0_length_8abf5 yJ0_length_8abf5 ∈ UT := ut 1211 (by decide +kernel) (by decide +kernel)
theorem wm_J0_length_8abf5 : Cond.instanceMethod yJ0_length_8abf5 ∈ UT := ut 1210 (by decide +kernel) (by decide +kernel)
theorem kv_X4_71 : GoodIn UT (wsV RX4 71 RJ0 yJ0_length_8abf5 (Cond.code yJ0_length_8abf5 cJ0_length_8abf5 1 (some .int) :: UT)) := gu_V (ut 1209 (by decide +kernel) (by decide +kernel)) wm_J0_length_8abf5 we_J0_length_8abf5 wi_RJ0 wc_J0_length_8abf5
theorem wc_J0_charAt_5068e : Cond.code yJ0_charAt_5068e cJ0_charAt_5068e 2 (some .char) ∈ UT := ut 1222 (by decide +kernel) (by decide +kernel)
theorem we_J0_charAt_5068e : Cond.selects RJ0 yJ0_charAt_5068e yJ0_charAt_5068e ∈ UT := ut 1221 (by decide +kernel) (by decide +kernel)
theorem wm_J0_charAt_5068e : Cond.instanceMethod yJ0_charAt_5068e ∈ UT := ut 1220 (by decide +kernel) (by decide +kernel)
theorem kv_X4_82 : GoodIn UT (wsV RX4 82 RJ0 yJ0_charAt_5068e (Cond.code yJ0_charAt_5068e cJ0_charAt_5068e 2 (some .char) :: UT)) := gu_V (ut 1219 (by decide +kernel) (by decide +kernel)) wm_J0_charAt_5068e we_J0_charAt_5068e wi_RJ0 wc_J0_charAt_5068e
def b_X4_commonStart_text_S0_0  (D : DD) : Option ((Nat × List Int32 × DD) ⊕ RT) := some (.inl (1, [(0 : Int32)], D))
def b_X4_commonStart_text_S0_1 (x2 : Int32) (D : DD) : Option ((Nat × List Int32 × DD) ⊕ RT) := (cI (S_J0_length_8abf5_S0 D) (fun r3 D2 => (if r3 ≤ x2 then (cI (S_J0_length_8abf5_S0 D2) (fun r6 D5 => some (.inr (0, some (.int r6), D5)))) else (cI (S_J0_charAt_5068e_S0 x2 D2) (fun r9 D8 => (cI (S_X4_signIs ((D2.1 130) + x2) r9 D8) (fun r12 D11 => (if r12 = 0 then some (.inr (0, some (.int x2), D11)) else some (.inl (1, [(x2 + (1 : Int32))], D11))))))))))
def T_X4_commonStart_text_S0 (k : Nat) (ls : List Int32) (D : DD) : Option ((Nat × List Int32 × DD) ⊕ RT) := match k, ls with
  | 0, [] => b_X4_commonStart_text_S0_0  D
  | 1, [x2] => b_X4_commonStart_text_S0_1 x2 D
  | _, _ => none
def S_X4_commonStart_text_S0  (D : DD) : Option RT := run T_X4_commonStart_text_S0 FUEL 0 [] D
def hg_X4_commonStart_text_S0 (p : Program) (l : Launch) (e : Env) (s : State) (m : MethodId) (args : Array Value) (below : List Frame) (meth : Method) (c : Code) (G : va_G) (E : EE) (r : RT) (k : Nat) (ls : List Int32) (D : DD) : Prop := match k, ls with
  | 0, [] => GW p l e (rmm 5) s m args below meth c G E 3 (MQ below (QR G E s.heap.size r) args s 0 0 (fr E s.heap.size)) 0 0 D 0 [(0, .ref (E.1 80)), (1, .ref (E.1 1010))] []
  | 1, [x2] => GW p l e (rmm 5) s m args below meth c G E 3 (MQ below (QR G E s.heap.size r) args s 0 0 (fr E s.heap.size)) 0 0 D 2 [(0, .ref (E.1 80)), (1, .ref (E.1 1010)), (2, .int x2)] []
  | _, _ => True
set_option maxRecDepth 100000 in
set_option maxHeartbeats 4000000 in
theorem bl_X4_commonStart_text_S0_0 {p : Program} {l : Launch} {e : Env} {s : State} {m : MethodId} {args : Array Value} {below : List Frame} {meth : Method} {c : Code} {G : va_G} {E : EE} {r : RT} (X : CX p s m args meth c cX4_commonStart RX4 3 G E) (hr : meth.sig.returnType = (some .int))  (D : DD) (o : (Nat × List Int32 × DD) ⊕ RT) (h : b_X4_commonStart_text_S0_0  D = some o) (h1 : ∀ x, o = .inl x → hg_X4_commonStart_text_S0 p l e s m args below meth c G E r x.1 x.2.1 x.2.2) (h2 : ∀ x, o = .inr x → x = r) : GW p l e (rmm 5) s m args below meth c G E 3 (MQ below (QR G E s.heap.size r) args s 0 0 (fr E s.heap.size)) 0 0 D 0 [(0, .ref (E.1 80)), (1, .ref (E.1 1010))] [] := by
  unfold b_X4_commonStart_text_S0_0 at h
  refine g_iconst X (v := (0 : Int32)) dX4_commonStart_0 (by decide) ?_
  refine g_istore_n X (i0 := 2) (lv' := [(2, .int (0 : Int32)), (0, .ref (E.1 80)), (1, .ref (E.1 1010))]) dX4_commonStart_1 rfl (by decide) rfl ?_
  refine g_sub (lv' := [(0, .ref (E.1 80)), (1, .ref (E.1 1010)), (2, .int (0 : Int32))]) [1, 2, 0] rfl ?_
  exact h1 _ (Option.some.inj h).symm
set_option maxRecDepth 100000 in
set_option maxHeartbeats 4000000 in
theorem bl_X4_commonStart_text_S0_1 {p : Program} {l : Launch} {e : Env} {s : State} {m : MethodId} {args : Array Value} {below : List Frame} {meth : Method} {c : Code} {G : va_G} {E : EE} {r : RT} (X : CX p s m args meth c cX4_commonStart RX4 3 G E) (hr : meth.sig.returnType = (some .int)) (x2 : Int32) (D : DD) (o : (Nat × List Int32 × DD) ⊕ RT) (h : b_X4_commonStart_text_S0_1 x2 D = some o) (h1 : ∀ x, o = .inl x → hg_X4_commonStart_text_S0 p l e s m args below meth c G E r x.1 x.2.1 x.2.2) (h2 : ∀ x, o = .inr x → x = r) : GW p l e (rmm 5) s m args below meth c G E 3 (MQ below (QR G E s.heap.size r) args s 0 0 (fr E s.heap.size)) 0 0 D 2 [(0, .ref (E.1 80)), (1, .ref (E.1 1010)), (2, .int x2)] [] := by
  unfold b_X4_commonStart_text_S0_1 at h
  refine g_iload_n X 2 (i0 := 2) dX4_commonStart_2 rfl rfl ?_
  refine g_aload_n X 1 (i0 := 1) dX4_commonStart_3 rfl rfl ?_
  obtain ⟨r3, D2, e1, h⟩ := cI_s h
  refine g_VK X (As := []) (rest := [.int x2]) (X.2.2.2.2.2.2.2.2.2.2.2.1 0 (by decide)).1 (c_J0_length_8abf5_S0 l G E  _ _ e1) kv_X4_71 ⟨rfl, rfl⟩ ⟨rfl, hd_J0_length_8abf5⟩ (⟨Nat.le_of_ble_eq_true rfl, Nat.le_of_ble_eq_true rfl⟩) rfl rfl (Nat.le_of_ble_eq_true rfl) dX4_commonStart_4 ?_
  refine g_icmp_ge X (tgt := 36) dX4_commonStart_7 (by decide) (fun c14 => ?_) (fun c14 => ?_)
  · have h := (ite_s h).1 c14
    refine g_aload_n X 1 (i0 := 1) dX4_commonStart_36 rfl rfl ?_
    obtain ⟨r6, D5, e4, h⟩ := cI_s h
    refine g_VK X (As := []) (rest := []) (X.2.2.2.2.2.2.2.2.2.2.2.1 0 (by decide)).1 (c_J0_length_8abf5_S0 l G E  _ _ e4) kv_X4_71 ⟨rfl, rfl⟩ ⟨rfl, hd_J0_length_8abf5⟩ (⟨Nat.le_of_ble_eq_true rfl, Nat.le_of_ble_eq_true rfl⟩) rfl rfl (Nat.le_of_ble_eq_true rfl) dX4_commonStart_37 ?_
    exact g_iret X hr rfl dX4_commonStart_40 (h2 _ (Option.some.inj h).symm)
  · have h := (ite_s h).2 c14
    refine g_aload_n X 0 (i0 := 0) dX4_commonStart_10 rfl rfl ?_
    refine g_aload_n X 0 (i0 := 0) dX4_commonStart_11 rfl rfl ?_
    refine g_get X (D := D2) (v := .int (D2.1 130)) (T := TX4) 80 uX4 (wg_80 E _) rfl 4 (by decide) fl_X4_33 rfl rfl dX4_commonStart_12 ?_
    refine g_iload_n X 2 (i0 := 2) dX4_commonStart_15 rfl rfl ?_
    refine g_iadd X dX4_commonStart_16 ?_
    refine g_aload_n X 1 (i0 := 1) dX4_commonStart_17 rfl rfl ?_
    refine g_iload_n X 2 (i0 := 2) dX4_commonStart_18 rfl rfl ?_
    obtain ⟨r9, D8, e7, h⟩ := cI_s h
    refine g_VK X (As := [.int x2]) (rest := [.int ((D2.1 130) + x2), .ref (E.1 80)]) (X.2.2.2.2.2.2.2.2.2.2.2.1 0 (by decide)).1 (c_J0_charAt_5068e_S0 l G E x2 _ _ e7) kv_X4_82 ⟨rfl, rfl⟩ ⟨rfl, hd_J0_charAt_5068e⟩ (⟨Nat.le_of_ble_eq_true rfl, Nat.le_of_ble_eq_true rfl⟩) rfl rfl (Nat.le_of_ble_eq_true rfl) dX4_commonStart_19 ?_
    obtain ⟨r12, D11, e10, h⟩ := cI_s h
    refine g_V X (As := [.int ((D2.1 130) + x2), .int r9]) (rest := []) (c_X4_signIs l G E ((D2.1 130) + x2) r9 _ _ e10) 80 (wg_80 E _) rfl rfl kv_X4_86 ⟨rfl, rfl⟩ ⟨rfl, hd_X4_signIs⟩ (⟨Nat.le_of_ble_eq_true rfl, Nat.le_of_ble_eq_true rfl⟩) rfl rfl (Nat.le_of_ble_eq_true rfl) dX4_commonStart_22 ?_
    refine g_if_ne X (tgt := 30) dX4_commonStart_25 (by decide) (fun c13 => ?_) (fun c13 => ?_)
    · have h := (ite_s h).2 c13
      refine g_iinc X 2 (v := (x2 + (1 : Int32))) (lv' := [(2, .int (x2 + (1 : Int32))), (0, .ref (E.1 80)), (1, .ref (E.1 1010))]) dX4_commonStart_30 rfl rfl (by decide) rfl ?_
      refine g_goto X (tgt := 2) dX4_commonStart_33 (by decide) ?_
      refine g_sub (lv' := [(0, .ref (E.1 80)), (1, .ref (E.1 1010)), (2, .int (x2 + (1 : Int32)))]) [1, 2, 0] rfl ?_
      exact h1 _ (Option.some.inj h).symm
    · have h := (ite_s h).1 c13
      refine g_iload_n X 2 (i0 := 2) dX4_commonStart_28 rfl rfl ?_
      exact g_iret X hr rfl dX4_commonStart_29 (h2 _ (Option.some.inj h).symm)
set_option maxRecDepth 100000 in
set_option maxHeartbeats 4000000 in
theorem c_X4_commonStart_text_S0 (l : Launch) (G : va_G) (E : EE)  (D : DD) (r : RT) (h : S_X4_commonStart_text_S0  D = some r) : MM l G E yX4_commonStart cX4_commonStart 3 (some .int) (rmm 5) [.ref (E.1 80), .ref (E.1 1010)] D r := by
  unfold S_X4_commonStart_text_S0 at h
  refine m_of rfl (Nat.le_of_ble_eq_true rfl) ?_
  intro p e s m args below meth c X hr
  exact run_G (T := T_X4_commonStart_text_S0) (HG := hg_X4_commonStart_text_S0 p l e s m args below meth c G E r) (by
    intro k ls D o hT h1 h2
    unfold T_X4_commonStart_text_S0 at hT
    split at hT
    · exact bl_X4_commonStart_text_S0_0 X hr  D o hT h1 h2
    · exact bl_X4_commonStart_text_S0_1 X hr _ D o hT h1 h2
    · cases hT) FUEL 0 [] D h
def S_J0_isLatin1_aae02_S1  (D : DD) : Option RT := some (0, some (.int (1 : Int32)), D)
set_option maxRecDepth 100000 in
set_option maxHeartbeats 4000000 in
theorem c_J0_isLatin1_aae02_S1 (l : Launch) (G : va_G) (E : EE)  (D : DD) (r : RT) (h : S_J0_isLatin1_aae02_S1  D = some r) : MM l G E yJ0_isLatin1_aae02 cJ0_isLatin1_aae02 1 (some .boolean) (rmm 0) [.ref (E.1 1011)] D r := by
  refine m_of rfl (Nat.le_of_ble_eq_true rfl) ?_
  intro p e s m args below meth c X hr
  unfold S_J0_isLatin1_aae02_S1 at h
  refine g_gets X (v := .int (1 : Int32)) X.2.2.2.2.2.2.2.2.2.2.2.2.1 fl_J0_38 dJ0_isLatin1_aae02_0 ?_
  refine g_if_eq X (tgt := 17) dJ0_isLatin1_aae02_3 (by decide) (fun q => absurd q (by decide)) (fun _ => ?_)
  refine g_aload_n X 0 (i0 := 0) dJ0_isLatin1_aae02_6 rfl rfl ?_
  refine g_getK X (v := .int (0 : Int32)) (X.2.2.2.2.2.2.2.2.2.2.2.1 1 (by decide)).2.1 fl_J0_15 dJ0_isLatin1_aae02_7 ?_
  refine g_if_ne X (tgt := 17) dJ0_isLatin1_aae02_10 (by decide) (fun q => absurd q (by decide)) (fun _ => ?_)
  refine g_iconst X (v := (1 : Int32)) dJ0_isLatin1_aae02_13 (by decide) ?_
  refine g_goto X (tgt := 18) dJ0_isLatin1_aae02_14 (by decide) ?_
  exact g_iret X hr rfl dJ0_isLatin1_aae02_18 (Option.some.inj h)
def S_J2_length_9d52b_V1  (D : DD) : Option RT := some (0, some (.int ((6 : Int32) >>> ((1 : Int32) &&& 31))), D)
set_option maxRecDepth 100000 in
set_option maxHeartbeats 4000000 in
theorem c_J2_length_9d52b_V1 (l : Launch) (G : va_G) (E : EE)  (D : DD) (r : RT) (h : S_J2_length_9d52b_V1  D = some r) : MM l G E yJ2_length_9d52b cJ2_length_9d52b 1 (some .int) (rmm 0) [.ref (E.1 1031)] D r := by
  refine m_of rfl (Nat.le_of_ble_eq_true rfl) ?_
  intro p e s m args below meth c X hr
  unfold S_J2_length_9d52b_V1 at h
  refine g_aload_n X 0 (i0 := 0) dJ2_length_9d52b_0 rfl rfl ?_
  refine g_tlen X (X.2.2.2.2.2.2.2.2.2.2.2.1 1 (by decide)).2.2.2 (v := (6 : Int32)) (by decide) dJ2_length_9d52b_1 ?_
  refine g_iconst X (v := (1 : Int32)) dJ2_length_9d52b_2 (by decide) ?_
  refine g_ishr X dJ2_length_9d52b_3 ?_
  exact g_iret X hr rfl dJ2_length_9d52b_4 (Option.some.inj h)
def S_J2_checkIndex_2214a_V1 (a0 : Int32) (D : DD) : Option RT := (cI (S_J2_length_9d52b_V1 D) (fun r3 D2 => (cV (S_J0_checkIndex_df160 a0 r3 D2) (fun D5 => some (0, none, D5)))))
set_option maxRecDepth 100000 in
set_option maxHeartbeats 4000000 in
theorem c_J2_checkIndex_2214a_V1 (l : Launch) (G : va_G) (E : EE) (a0 : Int32) (D : DD) (r : RT) (h : S_J2_checkIndex_2214a_V1 a0 D = some r) : MM l G E yJ2_checkIndex_2214a cJ2_checkIndex_2214a 2 none (rmm 2) [.int a0, .ref (E.1 1031)] D r := by
  refine m_of rfl (Nat.le_of_ble_eq_true rfl) ?_
  intro p e s m args below meth c X hr
  unfold S_J2_checkIndex_2214a_V1 at h
  refine g_iload_n X 0 (i0 := 0) dJ2_checkIndex_2214a_0 rfl rfl ?_
  refine g_aload_n X 1 (i0 := 1) dJ2_checkIndex_2214a_1 rfl rfl ?_
  obtain ⟨r3, D2, e1, h⟩ := cI_s h
  refine g_S X (As := [.ref (E.1 1031)]) (rest := [.int a0]) (c_J2_length_9d52b_V1 l G E  _ _ e1) ks_J2_48 ⟨rfl, rfl⟩ hd_J2_length_9d52b (⟨Nat.le_of_ble_eq_true rfl, Nat.le_of_ble_eq_true rfl⟩) rfl rfl (Nat.le_of_ble_eq_true rfl) dJ2_checkIndex_2214a_2 ?_
  obtain ⟨D5, e4, h⟩ := cV_s h
  refine g_S X (As := [.int a0, .int r3]) (rest := []) (c_J0_checkIndex_df160 l G E a0 r3 _ _ e4) ks_J2_414 ⟨rfl, rfl⟩ hd_J0_checkIndex_df160 (⟨Nat.le_of_ble_eq_true rfl, Nat.le_of_ble_eq_true rfl⟩) rfl rfl (Nat.le_of_ble_eq_true rfl) dJ2_checkIndex_2214a_5 ?_
  exact g_vret X hr dJ2_checkIndex_2214a_8 (Option.some.inj h)
def S_J2_charAt_3b067_V1 (a1 : Int32) (D : DD) : Option RT := (cV (S_J2_checkIndex_2214a_V1 a1 D) (fun D2 => none))
set_option maxRecDepth 100000 in
set_option maxHeartbeats 4000000 in
theorem c_J2_charAt_3b067_V1 (l : Launch) (G : va_G) (E : EE) (a1 : Int32) (D : DD) (r : RT) (h : S_J2_charAt_3b067_V1 a1 D = some r) : MM l G E yJ2_charAt_3b067 cJ2_charAt_3b067 2 (some .char) (rmm 3) [.ref (E.1 1031), .int a1] D r := by
  refine m_of rfl (Nat.le_of_ble_eq_true rfl) ?_
  intro p e s m args below meth c X hr
  unfold S_J2_charAt_3b067_V1 at h
  refine g_iload_n X 1 (i0 := 1) dJ2_charAt_3b067_0 rfl rfl ?_
  refine g_aload_n X 0 (i0 := 0) dJ2_charAt_3b067_1 rfl rfl ?_
  obtain ⟨D2, e1, h⟩ := cV_s h
  refine g_S X (As := [.int a1, .ref (E.1 1031)]) (rest := []) (c_J2_checkIndex_2214a_V1 l G E a1 _ _ e1) ks_J2_67 ⟨rfl, rfl⟩ hd_J2_checkIndex_2214a (⟨Nat.le_of_ble_eq_true rfl, Nat.le_of_ble_eq_true rfl⟩) rfl rfl (Nat.le_of_ble_eq_true rfl) dJ2_charAt_3b067_2 ?_
  refine g_aload_n X 0 (i0 := 0) dJ2_charAt_3b067_5 rfl rfl ?_
  refine g_iload_n X 1 (i0 := 1) dJ2_charAt_3b067_6 rfl rfl ?_
  cases h
def S_J1_charAt_3b067_V1 (a1 : Int32) (D : DD) : Option RT := (cV (S_J0_checkIndex_df160 a1 (6 : Int32) D) (fun D2 => (if inB a1 6 = true then (if vp_nar .char ((((cmdB 1).getD a1.toNatClampNeg 0) &&& (255 : Int32)).toUInt32 % 65536).toInt32 = ((((cmdB 1).getD a1.toNatClampNeg 0) &&& (255 : Int32)).toUInt32 % 65536).toInt32 then some (0, some (.int ((((cmdB 1).getD a1.toNatClampNeg 0) &&& (255 : Int32)).toUInt32 % 65536).toInt32), D2) else none) else none)))
set_option maxRecDepth 100000 in
set_option maxHeartbeats 4000000 in
theorem c_J1_charAt_3b067_V1 (l : Launch) (G : va_G) (E : EE) (a1 : Int32) (D : DD) (r : RT) (h : S_J1_charAt_3b067_V1 a1 D = some r) : MM l G E yJ1_charAt_3b067 cJ1_charAt_3b067 2 (some .char) (rmm 2) [.ref (E.1 1031), .int a1] D r := by
  refine m_of rfl (Nat.le_of_ble_eq_true rfl) ?_
  intro p e s m args below meth c X hr
  unfold S_J1_charAt_3b067_V1 at h
  refine g_iload_n X 1 (i0 := 1) dJ1_charAt_3b067_0 rfl rfl ?_
  refine g_aload_n X 0 (i0 := 0) dJ1_charAt_3b067_1 rfl rfl ?_
  refine g_tlen X (X.2.2.2.2.2.2.2.2.2.2.2.1 1 (by decide)).2.2.2 (v := (6 : Int32)) (by decide) dJ1_charAt_3b067_2 ?_
  obtain ⟨D2, e1, h⟩ := cV_s h
  refine g_S X (As := [.int a1, .int (6 : Int32)]) (rest := []) (c_J0_checkIndex_df160 l G E a1 (6 : Int32) _ _ e1) ks_J1_9 ⟨rfl, rfl⟩ hd_J0_checkIndex_df160 (⟨Nat.le_of_ble_eq_true rfl, Nat.le_of_ble_eq_true rfl⟩) rfl rfl (Nat.le_of_ble_eq_true rfl) dJ1_charAt_3b067_3 ?_
  refine g_aload_n X 0 (i0 := 0) dJ1_charAt_3b067_6 rfl rfl ?_
  refine g_iload_n X 1 (i0 := 1) dJ1_charAt_3b067_7 rfl rfl ?_
  obtain ⟨b3, h⟩ := chk_s h
  refine g_tb X (X.2.2.2.2.2.2.2.2.2.2.2.1 1 (by decide)).2.2.2 (i := a1) (v := .int ((cmdB 1).getD a1.toNatClampNeg 0)) (inB_vp b3) rfl dJ1_charAt_3b067_8 ?_
  refine g_sipush X (v := (255 : Int32)) dJ1_charAt_3b067_9 (by decide) ?_
  refine g_iand X dJ1_charAt_3b067_12 ?_
  refine g_i2c X dJ1_charAt_3b067_13 ?_
  obtain ⟨n4, h⟩ := chk_s h
  exact g_iret X hr (by first | exact congrArg Value.int n4 | (rw [show narrow .char (.int ((((cmdB 1).getD a1.toNatClampNeg 0) &&& (255 : Int32)).toUInt32 % 65536).toInt32) = .int (vp_nar .char ((((cmdB 1).getD a1.toNatClampNeg 0) &&& (255 : Int32)).toUInt32 % 65536).toInt32) from rfl, n4])) dJ1_charAt_3b067_14 (Option.some.inj h)
def S_J0_charAt_5068e_S1 (a0 : Int32) (D : DD) : Option RT := (cI (S_J0_isLatin1_aae02_S1 D) (fun r3 D2 => (if r3 = 0 then (cI (S_J2_charAt_3b067_V1 a0 D2) (fun r6 D5 => (if vp_nar .char r6 = r6 then some (0, some (.int r6), D5) else none))) else (cI (S_J1_charAt_3b067_V1 a0 D2) (fun r10 D9 => (if vp_nar .char r10 = r10 then some (0, some (.int r10), D9) else none))))))
set_option maxRecDepth 100000 in
set_option maxHeartbeats 4000000 in
theorem c_J0_charAt_5068e_S1 (l : Launch) (G : va_G) (E : EE) (a0 : Int32) (D : DD) (r : RT) (h : S_J0_charAt_5068e_S1 a0 D = some r) : MM l G E yJ0_charAt_5068e cJ0_charAt_5068e 2 (some .char) (rmm 4) [.ref (E.1 1011), .int a0] D r := by
  refine m_of rfl (Nat.le_of_ble_eq_true rfl) ?_
  intro p e s m args below meth c X hr
  unfold S_J0_charAt_5068e_S1 at h
  refine g_aload_n X 0 (i0 := 0) dJ0_charAt_5068e_0 rfl rfl ?_
  obtain ⟨r3, D2, e1, h⟩ := cI_s h
  refine g_VK X (As := []) (rest := []) (X.2.2.2.2.2.2.2.2.2.2.2.1 1 (by decide)).1 (c_J0_isLatin1_aae02_S1 l G E  _ _ e1) kv_J0_492 ⟨rfl, rfl⟩ ⟨rfl, hd_J0_isLatin1_aae02⟩ (⟨Nat.le_of_ble_eq_true rfl, Nat.le_of_ble_eq_true rfl⟩) rfl rfl (Nat.le_of_ble_eq_true rfl) dJ0_charAt_5068e_1 ?_
  refine g_if_eq X (tgt := 16) dJ0_charAt_5068e_4 (by decide) (fun c12 => ?_) (fun c12 => ?_)
  · have h := (ite_s h).1 c12
    refine g_aload_n X 0 (i0 := 0) dJ0_charAt_5068e_16 rfl rfl ?_
    refine g_getK X (v := .ref (E.1 1031)) (X.2.2.2.2.2.2.2.2.2.2.2.1 1 (by decide)).2.2.1 fl_J0_9 dJ0_charAt_5068e_17 ?_
    refine g_iload_n X 1 (i0 := 1) dJ0_charAt_5068e_20 rfl rfl ?_
    obtain ⟨r6, D5, e4, h⟩ := cI_s h
    refine g_S X (As := [.ref (E.1 1031), .int a0]) (rest := []) (c_J2_charAt_3b067_V1 l G E a0 _ _ e4) ks_J0_498 ⟨rfl, rfl⟩ hd_J2_charAt_3b067 (⟨Nat.le_of_ble_eq_true rfl, Nat.le_of_ble_eq_true rfl⟩) rfl rfl (Nat.le_of_ble_eq_true rfl) dJ0_charAt_5068e_21 ?_
    obtain ⟨n7, h⟩ := chk_s h
    exact g_iret X hr (by first | exact congrArg Value.int n7 | (rw [show narrow .char (.int r6) = .int (vp_nar .char r6) from rfl, n7])) dJ0_charAt_5068e_24 (Option.some.inj h)
  · have h := (ite_s h).2 c12
    refine g_aload_n X 0 (i0 := 0) dJ0_charAt_5068e_7 rfl rfl ?_
    refine g_getK X (v := .ref (E.1 1031)) (X.2.2.2.2.2.2.2.2.2.2.2.1 1 (by decide)).2.2.1 fl_J0_9 dJ0_charAt_5068e_8 ?_
    refine g_iload_n X 1 (i0 := 1) dJ0_charAt_5068e_11 rfl rfl ?_
    obtain ⟨r10, D9, e8, h⟩ := cI_s h
    refine g_S X (As := [.ref (E.1 1031), .int a0]) (rest := []) (c_J1_charAt_3b067_V1 l G E a0 _ _ e8) ks_J0_495 ⟨rfl, rfl⟩ hd_J1_charAt_3b067 (⟨Nat.le_of_ble_eq_true rfl, Nat.le_of_ble_eq_true rfl⟩) rfl rfl (Nat.le_of_ble_eq_true rfl) dJ0_charAt_5068e_12 ?_
    obtain ⟨n11, h⟩ := chk_s h
    exact g_iret X hr (by first | exact congrArg Value.int n11 | (rw [show narrow .char (.int r10) = .int (vp_nar .char r10) from rfl, n11])) dJ0_charAt_5068e_15 (Option.some.inj h)
def b_X4_commonStart_text_S1_0  (D : DD) : Option ((Nat × List Int32 × DD) ⊕ RT) := some (.inl (1, [(0 : Int32)], D))
def b_X4_commonStart_text_S1_1 (x2 : Int32) (D : DD) : Option ((Nat × List Int32 × DD) ⊕ RT) := (cI (S_J0_length_8abf5_S1 D) (fun r3 D2 => (if r3 ≤ x2 then (cI (S_J0_length_8abf5_S1 D2) (fun r6 D5 => some (.inr (0, some (.int r6), D5)))) else (cI (S_J0_charAt_5068e_S1 x2 D2) (fun r9 D8 => (cI (S_X4_signIs ((D2.1 130) + x2) r9 D8) (fun r12 D11 => (if r12 = 0 then some (.inr (0, some (.int x2), D11)) else some (.inl (1, [(x2 + (1 : Int32))], D11))))))))))
def T_X4_commonStart_text_S1 (k : Nat) (ls : List Int32) (D : DD) : Option ((Nat × List Int32 × DD) ⊕ RT) := match k, ls with
  | 0, [] => b_X4_commonStart_text_S1_0  D
  | 1, [x2] => b_X4_commonStart_text_S1_1 x2 D
  | _, _ => none
def S_X4_commonStart_text_S1  (D : DD) : Option RT := run T_X4_commonStart_text_S1 FUEL 0 [] D
def hg_X4_commonStart_text_S1 (p : Program) (l : Launch) (e : Env) (s : State) (m : MethodId) (args : Array Value) (below : List Frame) (meth : Method) (c : Code) (G : va_G) (E : EE) (r : RT) (k : Nat) (ls : List Int32) (D : DD) : Prop := match k, ls with
  | 0, [] => GW p l e (rmm 5) s m args below meth c G E 3 (MQ below (QR G E s.heap.size r) args s 0 0 (fr E s.heap.size)) 0 0 D 0 [(0, .ref (E.1 80)), (1, .ref (E.1 1011))] []
  | 1, [x2] => GW p l e (rmm 5) s m args below meth c G E 3 (MQ below (QR G E s.heap.size r) args s 0 0 (fr E s.heap.size)) 0 0 D 2 [(0, .ref (E.1 80)), (1, .ref (E.1 1011)), (2, .int x2)] []
  | _, _ => True
set_option maxRecDepth 100000 in
set_option maxHeartbeats 4000000 in
theorem bl_X4_commonStart_text_S1_0 {p : Program} {l : Launch} {e : Env} {s : State} {m : MethodId} {args : Array Value} {below : List Frame} {meth : Method} {c : Code} {G : va_G} {E : EE} {r : RT} (X : CX p s m args meth c cX4_commonStart RX4 3 G E) (hr : meth.sig.returnType = (some .int))  (D : DD) (o : (Nat × List Int32 × DD) ⊕ RT) (h : b_X4_commonStart_text_S1_0  D = some o) (h1 : ∀ x, o = .inl x → hg_X4_commonStart_text_S1 p l e s m args below meth c G E r x.1 x.2.1 x.2.2) (h2 : ∀ x, o = .inr x → x = r) : GW p l e (rmm 5) s m args below meth c G E 3 (MQ below (QR G E s.heap.size r) args s 0 0 (fr E s.heap.size)) 0 0 D 0 [(0, .ref (E.1 80)), (1, .ref (E.1 1011))] [] := by
  unfold b_X4_commonStart_text_S1_0 at h
  refine g_iconst X (v := (0 : Int32)) dX4_commonStart_0 (by decide) ?_
  refine g_istore_n X (i0 := 2) (lv' := [(2, .int (0 : Int32)), (0, .ref (E.1 80)), (1, .ref (E.1 1011))]) dX4_commonStart_1 rfl (by decide) rfl ?_
  refine g_sub (lv' := [(0, .ref (E.1 80)), (1, .ref (E.1 1011)), (2, .int (0 : Int32))]) [1, 2, 0] rfl ?_
  exact h1 _ (Option.some.inj h).symm
set_option maxRecDepth 100000 in
set_option maxHeartbeats 4000000 in
theorem bl_X4_commonStart_text_S1_1 {p : Program} {l : Launch} {e : Env} {s : State} {m : MethodId} {args : Array Value} {below : List Frame} {meth : Method} {c : Code} {G : va_G} {E : EE} {r : RT} (X : CX p s m args meth c cX4_commonStart RX4 3 G E) (hr : meth.sig.returnType = (some .int)) (x2 : Int32) (D : DD) (o : (Nat × List Int32 × DD) ⊕ RT) (h : b_X4_commonStart_text_S1_1 x2 D = some o) (h1 : ∀ x, o = .inl x → hg_X4_commonStart_text_S1 p l e s m args below meth c G E r x.1 x.2.1 x.2.2) (h2 : ∀ x, o = .inr x → x = r) : GW p l e (rmm 5) s m args below meth c G E 3 (MQ below (QR G E s.heap.size r) args s 0 0 (fr E s.heap.size)) 0 0 D 2 [(0, .ref (E.1 80)), (1, .ref (E.1 1011)), (2, .int x2)] [] := by
  unfold b_X4_commonStart_text_S1_1 at h
  refine g_iload_n X 2 (i0 := 2) dX4_commonStart_2 rfl rfl ?_
  refine g_aload_n X 1 (i0 := 1) dX4_commonStart_3 rfl rfl ?_
  obtain ⟨r3, D2, e1, h⟩ := cI_s h
  refine g_VK X (As := []) (rest := [.int x2]) (X.2.2.2.2.2.2.2.2.2.2.2.1 1 (by decide)).1 (c_J0_length_8abf5_S1 l G E  _ _ e1) kv_X4_71 ⟨rfl, rfl⟩ ⟨rfl, hd_J0_length_8abf5⟩ (⟨Nat.le_of_ble_eq_true rfl, Nat.le_of_ble_eq_true rfl⟩) rfl rfl (Nat.le_of_ble_eq_true rfl) dX4_commonStart_4 ?_
  refine g_icmp_ge X (tgt := 36) dX4_commonStart_7 (by decide) (fun c14 => ?_) (fun c14 => ?_)
  · have h := (ite_s h).1 c14
    refine g_aload_n X 1 (i0 := 1) dX4_commonStart_36 rfl rfl ?_
    obtain ⟨r6, D5, e4, h⟩ := cI_s h
    refine g_VK X (As := []) (rest := []) (X.2.2.2.2.2.2.2.2.2.2.2.1 1 (by decide)).1 (c_J0_length_8abf5_S1 l G E  _ _ e4) kv_X4_71 ⟨rfl, rfl⟩ ⟨rfl, hd_J0_length_8abf5⟩ (⟨Nat.le_of_ble_eq_true rfl, Nat.le_of_ble_eq_true rfl⟩) rfl rfl (Nat.le_of_ble_eq_true rfl) dX4_commonStart_37 ?_
    exact g_iret X hr rfl dX4_commonStart_40 (h2 _ (Option.some.inj h).symm)
  · have h := (ite_s h).2 c14
    refine g_aload_n X 0 (i0 := 0) dX4_commonStart_10 rfl rfl ?_
    refine g_aload_n X 0 (i0 := 0) dX4_commonStart_11 rfl rfl ?_
    refine g_get X (D := D2) (v := .int (D2.1 130)) (T := TX4) 80 uX4 (wg_80 E _) rfl 4 (by decide) fl_X4_33 rfl rfl dX4_commonStart_12 ?_
    refine g_iload_n X 2 (i0 := 2) dX4_commonStart_15 rfl rfl ?_
    refine g_iadd X dX4_commonStart_16 ?_
    refine g_aload_n X 1 (i0 := 1) dX4_commonStart_17 rfl rfl ?_
    refine g_iload_n X 2 (i0 := 2) dX4_commonStart_18 rfl rfl ?_
    obtain ⟨r9, D8, e7, h⟩ := cI_s h
    refine g_VK X (As := [.int x2]) (rest := [.int ((D2.1 130) + x2), .ref (E.1 80)]) (X.2.2.2.2.2.2.2.2.2.2.2.1 1 (by decide)).1 (c_J0_charAt_5068e_S1 l G E x2 _ _ e7) kv_X4_82 ⟨rfl, rfl⟩ ⟨rfl, hd_J0_charAt_5068e⟩ (⟨Nat.le_of_ble_eq_true rfl, Nat.le_of_ble_eq_true rfl⟩) rfl rfl (Nat.le_of_ble_eq_true rfl) dX4_commonStart_19 ?_
    obtain ⟨r12, D11, e10, h⟩ := cI_s h
    refine g_V X (As := [.int ((D2.1 130) + x2), .int r9]) (rest := []) (c_X4_signIs l G E ((D2.1 130) + x2) r9 _ _ e10) 80 (wg_80 E _) rfl rfl kv_X4_86 ⟨rfl, rfl⟩ ⟨rfl, hd_X4_signIs⟩ (⟨Nat.le_of_ble_eq_true rfl, Nat.le_of_ble_eq_true rfl⟩) rfl rfl (Nat.le_of_ble_eq_true rfl) dX4_commonStart_22 ?_
    refine g_if_ne X (tgt := 30) dX4_commonStart_25 (by decide) (fun c13 => ?_) (fun c13 => ?_)
    · have h := (ite_s h).2 c13
      refine g_iinc X 2 (v := (x2 + (1 : Int32))) (lv' := [(2, .int (x2 + (1 : Int32))), (0, .ref (E.1 80)), (1, .ref (E.1 1011))]) dX4_commonStart_30 rfl rfl (by decide) rfl ?_
      refine g_goto X (tgt := 2) dX4_commonStart_33 (by decide) ?_
      refine g_sub (lv' := [(0, .ref (E.1 80)), (1, .ref (E.1 1011)), (2, .int (x2 + (1 : Int32)))]) [1, 2, 0] rfl ?_
      exact h1 _ (Option.some.inj h).symm
    · have h := (ite_s h).1 c13
      refine g_iload_n X 2 (i0 := 2) dX4_commonStart_28 rfl rfl ?_
      exact g_iret X hr rfl dX4_commonStart_29 (h2 _ (Option.some.inj h).symm)
set_option maxRecDepth 100000 in
set_option maxHeartbeats 4000000 in
theorem c_X4_commonStart_text_S1 (l : Launch) (G : va_G) (E : EE)  (D : DD) (r : RT) (h : S_X4_commonStart_text_S1  D = some r) : MM l G E yX4_commonStart cX4_commonStart 3 (some .int) (rmm 5) [.ref (E.1 80), .ref (E.1 1011)] D r := by
  unfold S_X4_commonStart_text_S1 at h
  refine m_of rfl (Nat.le_of_ble_eq_true rfl) ?_
  intro p e s m args below meth c X hr
  exact run_G (T := T_X4_commonStart_text_S1) (HG := hg_X4_commonStart_text_S1 p l e s m args below meth c G E r) (by
    intro k ls D o hT h1 h2
    unfold T_X4_commonStart_text_S1 at hT
    split at hT
    · exact bl_X4_commonStart_text_S1_0 X hr  D o hT h1 h2
    · exact bl_X4_commonStart_text_S1_1 X hr _ D o hT h1 h2
    · cases hT) FUEL 0 [] D h
def S_J0_isLatin1_aae02_S2  (D : DD) : Option RT := some (0, some (.int (1 : Int32)), D)
set_option maxRecDepth 100000 in
set_option maxHeartbeats 4000000 in
theorem c_J0_isLatin1_aae02_S2 (l : Launch) (G : va_G) (E : EE)  (D : DD) (r : RT) (h : S_J0_isLatin1_aae02_S2  D = some r) : MM l G E yJ0_isLatin1_aae02 cJ0_isLatin1_aae02 1 (some .boolean) (rmm 0) [.ref (E.1 1012)] D r := by
  refine m_of rfl (Nat.le_of_ble_eq_true rfl) ?_
  intro p e s m args below meth c X hr
  unfold S_J0_isLatin1_aae02_S2 at h
  refine g_gets X (v := .int (1 : Int32)) X.2.2.2.2.2.2.2.2.2.2.2.2.1 fl_J0_38 dJ0_isLatin1_aae02_0 ?_
  refine g_if_eq X (tgt := 17) dJ0_isLatin1_aae02_3 (by decide) (fun q => absurd q (by decide)) (fun _ => ?_)
  refine g_aload_n X 0 (i0 := 0) dJ0_isLatin1_aae02_6 rfl rfl ?_
  refine g_getK X (v := .int (0 : Int32)) (X.2.2.2.2.2.2.2.2.2.2.2.1 2 (by decide)).2.1 fl_J0_15 dJ0_isLatin1_aae02_7 ?_
  refine g_if_ne X (tgt := 17) dJ0_isLatin1_aae02_10 (by decide) (fun q => absurd q (by decide)) (fun _ => ?_)
  refine g_iconst X (v := (1 : Int32)) dJ0_isLatin1_aae02_13 (by decide) ?_
  refine g_goto X (tgt := 18) dJ0_isLatin1_aae02_14 (by decide) ?_
  exact g_iret X hr rfl dJ0_isLatin1_aae02_18 (Option.some.inj h)
def S_J2_length_9d52b_V2  (D : DD) : Option RT := some (0, some (.int ((6 : Int32) >>> ((1 : Int32) &&& 31))), D)
set_option maxRecDepth 100000 in
set_option maxHeartbeats 4000000 in
theorem c_J2_length_9d52b_V2 (l : Launch) (G : va_G) (E : EE)  (D : DD) (r : RT) (h : S_J2_length_9d52b_V2  D = some r) : MM l G E yJ2_length_9d52b cJ2_length_9d52b 1 (some .int) (rmm 0) [.ref (E.1 1032)] D r := by
  refine m_of rfl (Nat.le_of_ble_eq_true rfl) ?_
  intro p e s m args below meth c X hr
  unfold S_J2_length_9d52b_V2 at h
  refine g_aload_n X 0 (i0 := 0) dJ2_length_9d52b_0 rfl rfl ?_
  refine g_tlen X (X.2.2.2.2.2.2.2.2.2.2.2.1 2 (by decide)).2.2.2 (v := (6 : Int32)) (by decide) dJ2_length_9d52b_1 ?_
  refine g_iconst X (v := (1 : Int32)) dJ2_length_9d52b_2 (by decide) ?_
  refine g_ishr X dJ2_length_9d52b_3 ?_
  exact g_iret X hr rfl dJ2_length_9d52b_4 (Option.some.inj h)
def S_J2_checkIndex_2214a_V2 (a0 : Int32) (D : DD) : Option RT := (cI (S_J2_length_9d52b_V2 D) (fun r3 D2 => (cV (S_J0_checkIndex_df160 a0 r3 D2) (fun D5 => some (0, none, D5)))))
set_option maxRecDepth 100000 in
set_option maxHeartbeats 4000000 in
theorem c_J2_checkIndex_2214a_V2 (l : Launch) (G : va_G) (E : EE) (a0 : Int32) (D : DD) (r : RT) (h : S_J2_checkIndex_2214a_V2 a0 D = some r) : MM l G E yJ2_checkIndex_2214a cJ2_checkIndex_2214a 2 none (rmm 2) [.int a0, .ref (E.1 1032)] D r := by
  refine m_of rfl (Nat.le_of_ble_eq_true rfl) ?_
  intro p e s m args below meth c X hr
  unfold S_J2_checkIndex_2214a_V2 at h
  refine g_iload_n X 0 (i0 := 0) dJ2_checkIndex_2214a_0 rfl rfl ?_
  refine g_aload_n X 1 (i0 := 1) dJ2_checkIndex_2214a_1 rfl rfl ?_
  obtain ⟨r3, D2, e1, h⟩ := cI_s h
  refine g_S X (As := [.ref (E.1 1032)]) (rest := [.int a0]) (c_J2_length_9d52b_V2 l G E  _ _ e1) ks_J2_48 ⟨rfl, rfl⟩ hd_J2_length_9d52b (⟨Nat.le_of_ble_eq_true rfl, Nat.le_of_ble_eq_true rfl⟩) rfl rfl (Nat.le_of_ble_eq_true rfl) dJ2_checkIndex_2214a_2 ?_
  obtain ⟨D5, e4, h⟩ := cV_s h
  refine g_S X (As := [.int a0, .int r3]) (rest := []) (c_J0_checkIndex_df160 l G E a0 r3 _ _ e4) ks_J2_414 ⟨rfl, rfl⟩ hd_J0_checkIndex_df160 (⟨Nat.le_of_ble_eq_true rfl, Nat.le_of_ble_eq_true rfl⟩) rfl rfl (Nat.le_of_ble_eq_true rfl) dJ2_checkIndex_2214a_5 ?_
  exact g_vret X hr dJ2_checkIndex_2214a_8 (Option.some.inj h)
def S_J2_charAt_3b067_V2 (a1 : Int32) (D : DD) : Option RT := (cV (S_J2_checkIndex_2214a_V2 a1 D) (fun D2 => none))
set_option maxRecDepth 100000 in
set_option maxHeartbeats 4000000 in
theorem c_J2_charAt_3b067_V2 (l : Launch) (G : va_G) (E : EE) (a1 : Int32) (D : DD) (r : RT) (h : S_J2_charAt_3b067_V2 a1 D = some r) : MM l G E yJ2_charAt_3b067 cJ2_charAt_3b067 2 (some .char) (rmm 3) [.ref (E.1 1032), .int a1] D r := by
  refine m_of rfl (Nat.le_of_ble_eq_true rfl) ?_
  intro p e s m args below meth c X hr
  unfold S_J2_charAt_3b067_V2 at h
  refine g_iload_n X 1 (i0 := 1) dJ2_charAt_3b067_0 rfl rfl ?_
  refine g_aload_n X 0 (i0 := 0) dJ2_charAt_3b067_1 rfl rfl ?_
  obtain ⟨D2, e1, h⟩ := cV_s h
  refine g_S X (As := [.int a1, .ref (E.1 1032)]) (rest := []) (c_J2_checkIndex_2214a_V2 l G E a1 _ _ e1) ks_J2_67 ⟨rfl, rfl⟩ hd_J2_checkIndex_2214a (⟨Nat.le_of_ble_eq_true rfl, Nat.le_of_ble_eq_true rfl⟩) rfl rfl (Nat.le_of_ble_eq_true rfl) dJ2_charAt_3b067_2 ?_
  refine g_aload_n X 0 (i0 := 0) dJ2_charAt_3b067_5 rfl rfl ?_
  refine g_iload_n X 1 (i0 := 1) dJ2_charAt_3b067_6 rfl rfl ?_
  cases h
def S_J1_charAt_3b067_V2 (a1 : Int32) (D : DD) : Option RT := (cV (S_J0_checkIndex_df160 a1 (6 : Int32) D) (fun D2 => (if inB a1 6 = true then (if vp_nar .char ((((cmdB 2).getD a1.toNatClampNeg 0) &&& (255 : Int32)).toUInt32 % 65536).toInt32 = ((((cmdB 2).getD a1.toNatClampNeg 0) &&& (255 : Int32)).toUInt32 % 65536).toInt32 then some (0, some (.int ((((cmdB 2).getD a1.toNatClampNeg 0) &&& (255 : Int32)).toUInt32 % 65536).toInt32), D2) else none) else none)))
set_option maxRecDepth 100000 in
set_option maxHeartbeats 4000000 in
theorem c_J1_charAt_3b067_V2 (l : Launch) (G : va_G) (E : EE) (a1 : Int32) (D : DD) (r : RT) (h : S_J1_charAt_3b067_V2 a1 D = some r) : MM l G E yJ1_charAt_3b067 cJ1_charAt_3b067 2 (some .char) (rmm 2) [.ref (E.1 1032), .int a1] D r := by
  refine m_of rfl (Nat.le_of_ble_eq_true rfl) ?_
  intro p e s m args below meth c X hr
  unfold S_J1_charAt_3b067_V2 at h
  refine g_iload_n X 1 (i0 := 1) dJ1_charAt_3b067_0 rfl rfl ?_
  refine g_aload_n X 0 (i0 := 0) dJ1_charAt_3b067_1 rfl rfl ?_
  refine g_tlen X (X.2.2.2.2.2.2.2.2.2.2.2.1 2 (by decide)).2.2.2 (v := (6 : Int32)) (by decide) dJ1_charAt_3b067_2 ?_
  obtain ⟨D2, e1, h⟩ := cV_s h
  refine g_S X (As := [.int a1, .int (6 : Int32)]) (rest := []) (c_J0_checkIndex_df160 l G E a1 (6 : Int32) _ _ e1) ks_J1_9 ⟨rfl, rfl⟩ hd_J0_checkIndex_df160 (⟨Nat.le_of_ble_eq_true rfl, Nat.le_of_ble_eq_true rfl⟩) rfl rfl (Nat.le_of_ble_eq_true rfl) dJ1_charAt_3b067_3 ?_
  refine g_aload_n X 0 (i0 := 0) dJ1_charAt_3b067_6 rfl rfl ?_
  refine g_iload_n X 1 (i0 := 1) dJ1_charAt_3b067_7 rfl rfl ?_
  obtain ⟨b3, h⟩ := chk_s h
  refine g_tb X (X.2.2.2.2.2.2.2.2.2.2.2.1 2 (by decide)).2.2.2 (i := a1) (v := .int ((cmdB 2).getD a1.toNatClampNeg 0)) (inB_vp b3) rfl dJ1_charAt_3b067_8 ?_
  refine g_sipush X (v := (255 : Int32)) dJ1_charAt_3b067_9 (by decide) ?_
  refine g_iand X dJ1_charAt_3b067_12 ?_
  refine g_i2c X dJ1_charAt_3b067_13 ?_
  obtain ⟨n4, h⟩ := chk_s h
  exact g_iret X hr (by first | exact congrArg Value.int n4 | (rw [show narrow .char (.int ((((cmdB 2).getD a1.toNatClampNeg 0) &&& (255 : Int32)).toUInt32 % 65536).toInt32) = .int (vp_nar .char ((((cmdB 2).getD a1.toNatClampNeg 0) &&& (255 : Int32)).toUInt32 % 65536).toInt32) from rfl, n4])) dJ1_charAt_3b067_14 (Option.some.inj h)
def S_J0_charAt_5068e_S2 (a0 : Int32) (D : DD) : Option RT := (cI (S_J0_isLatin1_aae02_S2 D) (fun r3 D2 => (if r3 = 0 then (cI (S_J2_charAt_3b067_V2 a0 D2) (fun r6 D5 => (if vp_nar .char r6 = r6 then some (0, some (.int r6), D5) else none))) else (cI (S_J1_charAt_3b067_V2 a0 D2) (fun r10 D9 => (if vp_nar .char r10 = r10 then some (0, some (.int r10), D9) else none))))))
set_option maxRecDepth 100000 in
set_option maxHeartbeats 4000000 in
theorem c_J0_charAt_5068e_S2 (l : Launch) (G : va_G) (E : EE) (a0 : Int32) (D : DD) (r : RT) (h : S_J0_charAt_5068e_S2 a0 D = some r) : MM l G E yJ0_charAt_5068e cJ0_charAt_5068e 2 (some .char) (rmm 4) [.ref (E.1 1012), .int a0] D r := by
  refine m_of rfl (Nat.le_of_ble_eq_true rfl) ?_
  intro p e s m args below meth c X hr
  unfold S_J0_charAt_5068e_S2 at h
  refine g_aload_n X 0 (i0 := 0) dJ0_charAt_5068e_0 rfl rfl ?_
  obtain ⟨r3, D2, e1, h⟩ := cI_s h
  refine g_VK X (As := []) (rest := []) (X.2.2.2.2.2.2.2.2.2.2.2.1 2 (by decide)).1 (c_J0_isLatin1_aae02_S2 l G E  _ _ e1) kv_J0_492 ⟨rfl, rfl⟩ ⟨rfl, hd_J0_isLatin1_aae02⟩ (⟨Nat.le_of_ble_eq_true rfl, Nat.le_of_ble_eq_true rfl⟩) rfl rfl (Nat.le_of_ble_eq_true rfl) dJ0_charAt_5068e_1 ?_
  refine g_if_eq X (tgt := 16) dJ0_charAt_5068e_4 (by decide) (fun c12 => ?_) (fun c12 => ?_)
  · have h := (ite_s h).1 c12
    refine g_aload_n X 0 (i0 := 0) dJ0_charAt_5068e_16 rfl rfl ?_
    refine g_getK X (v := .ref (E.1 1032)) (X.2.2.2.2.2.2.2.2.2.2.2.1 2 (by decide)).2.2.1 fl_J0_9 dJ0_charAt_5068e_17 ?_
    refine g_iload_n X 1 (i0 := 1) dJ0_charAt_5068e_20 rfl rfl ?_
    obtain ⟨r6, D5, e4, h⟩ := cI_s h
    refine g_S X (As := [.ref (E.1 1032), .int a0]) (rest := []) (c_J2_charAt_3b067_V2 l G E a0 _ _ e4) ks_J0_498 ⟨rfl, rfl⟩ hd_J2_charAt_3b067 (⟨Nat.le_of_ble_eq_true rfl, Nat.le_of_ble_eq_true rfl⟩) rfl rfl (Nat.le_of_ble_eq_true rfl) dJ0_charAt_5068e_21 ?_
    obtain ⟨n7, h⟩ := chk_s h
    exact g_iret X hr (by first | exact congrArg Value.int n7 | (rw [show narrow .char (.int r6) = .int (vp_nar .char r6) from rfl, n7])) dJ0_charAt_5068e_24 (Option.some.inj h)
  · have h := (ite_s h).2 c12
    refine g_aload_n X 0 (i0 := 0) dJ0_charAt_5068e_7 rfl rfl ?_
    refine g_getK X (v := .ref (E.1 1032)) (X.2.2.2.2.2.2.2.2.2.2.2.1 2 (by decide)).2.2.1 fl_J0_9 dJ0_charAt_5068e_8 ?_
    refine g_iload_n X 1 (i0 := 1) dJ0_charAt_5068e_11 rfl rfl ?_
    obtain ⟨r10, D9, e8, h⟩ := cI_s h
    refine g_S X (As := [.ref (E.1 1032), .int a0]) (rest := []) (c_J1_charAt_3b067_V2 l G E a0 _ _ e8) ks_J0_495 ⟨rfl, rfl⟩ hd_J1_charAt_3b067 (⟨Nat.le_of_ble_eq_true rfl, Nat.le_of_ble_eq_true rfl⟩) rfl rfl (Nat.le_of_ble_eq_true rfl) dJ0_charAt_5068e_12 ?_
    obtain ⟨n11, h⟩ := chk_s h
    exact g_iret X hr (by first | exact congrArg Value.int n11 | (rw [show narrow .char (.int r10) = .int (vp_nar .char r10) from rfl, n11])) dJ0_charAt_5068e_15 (Option.some.inj h)
def b_X4_commonStart_text_S2_0  (D : DD) : Option ((Nat × List Int32 × DD) ⊕ RT) := some (.inl (1, [(0 : Int32)], D))
def b_X4_commonStart_text_S2_1 (x2 : Int32) (D : DD) : Option ((Nat × List Int32 × DD) ⊕ RT) := (cI (S_J0_length_8abf5_S2 D) (fun r3 D2 => (if r3 ≤ x2 then (cI (S_J0_length_8abf5_S2 D2) (fun r6 D5 => some (.inr (0, some (.int r6), D5)))) else (cI (S_J0_charAt_5068e_S2 x2 D2) (fun r9 D8 => (cI (S_X4_signIs ((D2.1 130) + x2) r9 D8) (fun r12 D11 => (if r12 = 0 then some (.inr (0, some (.int x2), D11)) else some (.inl (1, [(x2 + (1 : Int32))], D11))))))))))
def T_X4_commonStart_text_S2 (k : Nat) (ls : List Int32) (D : DD) : Option ((Nat × List Int32 × DD) ⊕ RT) := match k, ls with
  | 0, [] => b_X4_commonStart_text_S2_0  D
  | 1, [x2] => b_X4_commonStart_text_S2_1 x2 D
  | _, _ => none
def S_X4_commonStart_text_S2  (D : DD) : Option RT := run T_X4_commonStart_text_S2 FUEL 0 [] D
def hg_X4_commonStart_text_S2 (p : Program) (l : Launch) (e : Env) (s : State) (m : MethodId) (args : Array Value) (below : List Frame) (meth : Method) (c : Code) (G : va_G) (E : EE) (r : RT) (k : Nat) (ls : List Int32) (D : DD) : Prop := match k, ls with
  | 0, [] => GW p l e (rmm 5) s m args below meth c G E 3 (MQ below (QR G E s.heap.size r) args s 0 0 (fr E s.heap.size)) 0 0 D 0 [(0, .ref (E.1 80)), (1, .ref (E.1 1012))] []
  | 1, [x2] => GW p l e (rmm 5) s m args below meth c G E 3 (MQ below (QR G E s.heap.size r) args s 0 0 (fr E s.heap.size)) 0 0 D 2 [(0, .ref (E.1 80)), (1, .ref (E.1 1012)), (2, .int x2)] []
  | _, _ => True
set_option maxRecDepth 100000 in
set_option maxHeartbeats 4000000 in
theorem bl_X4_commonStart_text_S2_0 {p : Program} {l : Launch} {e : Env} {s : State} {m : MethodId} {args : Array Value} {below : List Frame} {meth : Method} {c : Code} {G : va_G} {E : EE} {r : RT} (X : CX p s m args meth c cX4_commonStart RX4 3 G E) (hr : meth.sig.returnType = (some .int))  (D : DD) (o : (Nat × List Int32 × DD) ⊕ RT) (h : b_X4_commonStart_text_S2_0  D = some o) (h1 : ∀ x, o = .inl x → hg_X4_commonStart_text_S2 p l e s m args below meth c G E r x.1 x.2.1 x.2.2) (h2 : ∀ x, o = .inr x → x = r) : GW p l e (rmm 5) s m args below meth c G E 3 (MQ below (QR G E s.heap.size r) args s 0 0 (fr E s.heap.size)) 0 0 D 0 [(0, .ref (E.1 80)), (1, .ref (E.1 1012))] [] := by
  unfold b_X4_commonStart_text_S2_0 at h
  refine g_iconst X (v := (0 : Int32)) dX4_commonStart_0 (by decide) ?_
  refine g_istore_n X (i0 := 2) (lv' := [(2, .int (0 : Int32)), (0, .ref (E.1 80)), (1, .ref (E.1 1012))]) dX4_commonStart_1 rfl (by decide) rfl ?_
  refine g_sub (lv' := [(0, .ref (E.1 80)), (1, .ref (E.1 1012)), (2, .int (0 : Int32))]) [1, 2, 0] rfl ?_
  exact h1 _ (Option.some.inj h).symm
set_option maxRecDepth 100000 in
set_option maxHeartbeats 4000000 in
theorem bl_X4_commonStart_text_S2_1 {p : Program} {l : Launch} {e : Env} {s : State} {m : MethodId} {args : Array Value} {below : List Frame} {meth : Method} {c : Code} {G : va_G} {E : EE} {r : RT} (X : CX p s m args meth c cX4_commonStart RX4 3 G E) (hr : meth.sig.returnType = (some .int)) (x2 : Int32) (D : DD) (o : (Nat × List Int32 × DD) ⊕ RT) (h : b_X4_commonStart_text_S2_1 x2 D = some o) (h1 : ∀ x, o = .inl x → hg_X4_commonStart_text_S2 p l e s m args below meth c G E r x.1 x.2.1 x.2.2) (h2 : ∀ x, o = .inr x → x = r) : GW p l e (rmm 5) s m args below meth c G E 3 (MQ below (QR G E s.heap.size r) args s 0 0 (fr E s.heap.size)) 0 0 D 2 [(0, .ref (E.1 80)), (1, .ref (E.1 1012)), (2, .int x2)] [] := by
  unfold b_X4_commonStart_text_S2_1 at h
  refine g_iload_n X 2 (i0 := 2) dX4_commonStart_2 rfl rfl ?_
  refine g_aload_n X 1 (i0 := 1) dX4_commonStart_3 rfl rfl ?_
  obtain ⟨r3, D2, e1, h⟩ := cI_s h
  refine g_VK X (As := []) (rest := [.int x2]) (X.2.2.2.2.2.2.2.2.2.2.2.1 2 (by decide)).1 (c_J0_length_8abf5_S2 l G E  _ _ e1) kv_X4_71 ⟨rfl, rfl⟩ ⟨rfl, hd_J0_length_8abf5⟩ (⟨Nat.le_of_ble_eq_true rfl, Nat.le_of_ble_eq_true rfl⟩) rfl rfl (Nat.le_of_ble_eq_true rfl) dX4_commonStart_4 ?_
  refine g_icmp_ge X (tgt := 36) dX4_commonStart_7 (by decide) (fun c14 => ?_) (fun c14 => ?_)
  · have h := (ite_s h).1 c14
    refine g_aload_n X 1 (i0 := 1) dX4_commonStart_36 rfl rfl ?_
    obtain ⟨r6, D5, e4, h⟩ := cI_s h
    refine g_VK X (As := []) (rest := []) (X.2.2.2.2.2.2.2.2.2.2.2.1 2 (by decide)).1 (c_J0_length_8abf5_S2 l G E  _ _ e4) kv_X4_71 ⟨rfl, rfl⟩ ⟨rfl, hd_J0_length_8abf5⟩ (⟨Nat.le_of_ble_eq_true rfl, Nat.le_of_ble_eq_true rfl⟩) rfl rfl (Nat.le_of_ble_eq_true rfl) dX4_commonStart_37 ?_
    exact g_iret X hr rfl dX4_commonStart_40 (h2 _ (Option.some.inj h).symm)
  · have h := (ite_s h).2 c14
    refine g_aload_n X 0 (i0 := 0) dX4_commonStart_10 rfl rfl ?_
    refine g_aload_n X 0 (i0 := 0) dX4_commonStart_11 rfl rfl ?_
    refine g_get X (D := D2) (v := .int (D2.1 130)) (T := TX4) 80 uX4 (wg_80 E _) rfl 4 (by decide) fl_X4_33 rfl rfl dX4_commonStart_12 ?_
    refine g_iload_n X 2 (i0 := 2) dX4_commonStart_15 rfl rfl ?_
    refine g_iadd X dX4_commonStart_16 ?_
    refine g_aload_n X 1 (i0 := 1) dX4_commonStart_17 rfl rfl ?_
    refine g_iload_n X 2 (i0 := 2) dX4_commonStart_18 rfl rfl ?_
    obtain ⟨r9, D8, e7, h⟩ := cI_s h
    refine g_VK X (As := [.int x2]) (rest := [.int ((D2.1 130) + x2), .ref (E.1 80)]) (X.2.2.2.2.2.2.2.2.2.2.2.1 2 (by decide)).1 (c_J0_charAt_5068e_S2 l G E x2 _ _ e7) kv_X4_82 ⟨rfl, rfl⟩ ⟨rfl, hd_J0_charAt_5068e⟩ (⟨Nat.le_of_ble_eq_true rfl, Nat.le_of_ble_eq_true rfl⟩) rfl rfl (Nat.le_of_ble_eq_true rfl) dX4_commonStart_19 ?_
    obtain ⟨r12, D11, e10, h⟩ := cI_s h
    refine g_V X (As := [.int ((D2.1 130) + x2), .int r9]) (rest := []) (c_X4_signIs l G E ((D2.1 130) + x2) r9 _ _ e10) 80 (wg_80 E _) rfl rfl kv_X4_86 ⟨rfl, rfl⟩ ⟨rfl, hd_X4_signIs⟩ (⟨Nat.le_of_ble_eq_true rfl, Nat.le_of_ble_eq_true rfl⟩) rfl rfl (Nat.le_of_ble_eq_true rfl) dX4_commonStart_22 ?_
    refine g_if_ne X (tgt := 30) dX4_commonStart_25 (by decide) (fun c13 => ?_) (fun c13 => ?_)
    · have h := (ite_s h).2 c13
      refine g_iinc X 2 (v := (x2 + (1 : Int32))) (lv' := [(2, .int (x2 + (1 : Int32))), (0, .ref (E.1 80)), (1, .ref (E.1 1012))]) dX4_commonStart_30 rfl rfl (by decide) rfl ?_
      refine g_goto X (tgt := 2) dX4_commonStart_33 (by decide) ?_
      refine g_sub (lv' := [(0, .ref (E.1 80)), (1, .ref (E.1 1012)), (2, .int (x2 + (1 : Int32)))]) [1, 2, 0] rfl ?_
      exact h1 _ (Option.some.inj h).symm
    · have h := (ite_s h).1 c13
      refine g_iload_n X 2 (i0 := 2) dX4_commonStart_28 rfl rfl ?_
      exact g_iret X hr rfl dX4_commonStart_29 (h2 _ (Option.some.inj h).symm)
set_option maxRecDepth 100000 in
set_option maxHeartbeats 4000000 in
theorem c_X4_commonStart_text_S2 (l : Launch) (G : va_G) (E : EE)  (D : DD) (r : RT) (h : S_X4_commonStart_text_S2  D = some r) : MM l G E yX4_commonStart cX4_commonStart 3 (some .int) (rmm 5) [.ref (E.1 80), .ref (E.1 1012)] D r := by
  unfold S_X4_commonStart_text_S2 at h
  refine m_of rfl (Nat.le_of_ble_eq_true rfl) ?_
  intro p e s m args below meth c X hr
  exact run_G (T := T_X4_commonStart_text_S2) (HG := hg_X4_commonStart_text_S2 p l e s m args below meth c G E r) (by
    intro k ls D o hT h1 h2
    unfold T_X4_commonStart_text_S2 at hT
    split at hT
    · exact bl_X4_commonStart_text_S2_0 X hr  D o hT h1 h2
    · exact bl_X4_commonStart_text_S2_1 X hr _ D o hT h1 h2
    · cases hT) FUEL 0 [] D h
def S_J0_isLatin1_aae02_S3  (D : DD) : Option RT := some (0, some (.int (1 : Int32)), D)
set_option maxRecDepth 100000 in
set_option maxHeartbeats 4000000 in
theorem c_J0_isLatin1_aae02_S3 (l : Launch) (G : va_G) (E : EE)  (D : DD) (r : RT) (h : S_J0_isLatin1_aae02_S3  D = some r) : MM l G E yJ0_isLatin1_aae02 cJ0_isLatin1_aae02 1 (some .boolean) (rmm 0) [.ref (E.1 1013)] D r := by
  refine m_of rfl (Nat.le_of_ble_eq_true rfl) ?_
  intro p e s m args below meth c X hr
  unfold S_J0_isLatin1_aae02_S3 at h
  refine g_gets X (v := .int (1 : Int32)) X.2.2.2.2.2.2.2.2.2.2.2.2.1 fl_J0_38 dJ0_isLatin1_aae02_0 ?_
  refine g_if_eq X (tgt := 17) dJ0_isLatin1_aae02_3 (by decide) (fun q => absurd q (by decide)) (fun _ => ?_)
  refine g_aload_n X 0 (i0 := 0) dJ0_isLatin1_aae02_6 rfl rfl ?_
  refine g_getK X (v := .int (0 : Int32)) (X.2.2.2.2.2.2.2.2.2.2.2.1 3 (by decide)).2.1 fl_J0_15 dJ0_isLatin1_aae02_7 ?_
  refine g_if_ne X (tgt := 17) dJ0_isLatin1_aae02_10 (by decide) (fun q => absurd q (by decide)) (fun _ => ?_)
  refine g_iconst X (v := (1 : Int32)) dJ0_isLatin1_aae02_13 (by decide) ?_
  refine g_goto X (tgt := 18) dJ0_isLatin1_aae02_14 (by decide) ?_
  exact g_iret X hr rfl dJ0_isLatin1_aae02_18 (Option.some.inj h)
def S_J2_length_9d52b_V3  (D : DD) : Option RT := some (0, some (.int ((6 : Int32) >>> ((1 : Int32) &&& 31))), D)
set_option maxRecDepth 100000 in
set_option maxHeartbeats 4000000 in
theorem c_J2_length_9d52b_V3 (l : Launch) (G : va_G) (E : EE)  (D : DD) (r : RT) (h : S_J2_length_9d52b_V3  D = some r) : MM l G E yJ2_length_9d52b cJ2_length_9d52b 1 (some .int) (rmm 0) [.ref (E.1 1033)] D r := by
  refine m_of rfl (Nat.le_of_ble_eq_true rfl) ?_
  intro p e s m args below meth c X hr
  unfold S_J2_length_9d52b_V3 at h
  refine g_aload_n X 0 (i0 := 0) dJ2_length_9d52b_0 rfl rfl ?_
  refine g_tlen X (X.2.2.2.2.2.2.2.2.2.2.2.1 3 (by decide)).2.2.2 (v := (6 : Int32)) (by decide) dJ2_length_9d52b_1 ?_
  refine g_iconst X (v := (1 : Int32)) dJ2_length_9d52b_2 (by decide) ?_
  refine g_ishr X dJ2_length_9d52b_3 ?_
  exact g_iret X hr rfl dJ2_length_9d52b_4 (Option.some.inj h)
def S_J2_checkIndex_2214a_V3 (a0 : Int32) (D : DD) : Option RT := (cI (S_J2_length_9d52b_V3 D) (fun r3 D2 => (cV (S_J0_checkIndex_df160 a0 r3 D2) (fun D5 => some (0, none, D5)))))
set_option maxRecDepth 100000 in
set_option maxHeartbeats 4000000 in
theorem c_J2_checkIndex_2214a_V3 (l : Launch) (G : va_G) (E : EE) (a0 : Int32) (D : DD) (r : RT) (h : S_J2_checkIndex_2214a_V3 a0 D = some r) : MM l G E yJ2_checkIndex_2214a cJ2_checkIndex_2214a 2 none (rmm 2) [.int a0, .ref (E.1 1033)] D r := by
  refine m_of rfl (Nat.le_of_ble_eq_true rfl) ?_
  intro p e s m args below meth c X hr
  unfold S_J2_checkIndex_2214a_V3 at h
  refine g_iload_n X 0 (i0 := 0) dJ2_checkIndex_2214a_0 rfl rfl ?_
  refine g_aload_n X 1 (i0 := 1) dJ2_checkIndex_2214a_1 rfl rfl ?_
  obtain ⟨r3, D2, e1, h⟩ := cI_s h
  refine g_S X (As := [.ref (E.1 1033)]) (rest := [.int a0]) (c_J2_length_9d52b_V3 l G E  _ _ e1) ks_J2_48 ⟨rfl, rfl⟩ hd_J2_length_9d52b (⟨Nat.le_of_ble_eq_true rfl, Nat.le_of_ble_eq_true rfl⟩) rfl rfl (Nat.le_of_ble_eq_true rfl) dJ2_checkIndex_2214a_2 ?_
  obtain ⟨D5, e4, h⟩ := cV_s h
  refine g_S X (As := [.int a0, .int r3]) (rest := []) (c_J0_checkIndex_df160 l G E a0 r3 _ _ e4) ks_J2_414 ⟨rfl, rfl⟩ hd_J0_checkIndex_df160 (⟨Nat.le_of_ble_eq_true rfl, Nat.le_of_ble_eq_true rfl⟩) rfl rfl (Nat.le_of_ble_eq_true rfl) dJ2_checkIndex_2214a_5 ?_
  exact g_vret X hr dJ2_checkIndex_2214a_8 (Option.some.inj h)
def S_J2_charAt_3b067_V3 (a1 : Int32) (D : DD) : Option RT := (cV (S_J2_checkIndex_2214a_V3 a1 D) (fun D2 => none))
set_option maxRecDepth 100000 in
set_option maxHeartbeats 4000000 in
theorem c_J2_charAt_3b067_V3 (l : Launch) (G : va_G) (E : EE) (a1 : Int32) (D : DD) (r : RT) (h : S_J2_charAt_3b067_V3 a1 D = some r) : MM l G E yJ2_charAt_3b067 cJ2_charAt_3b067 2 (some .char) (rmm 3) [.ref (E.1 1033), .int a1] D r := by
  refine m_of rfl (Nat.le_of_ble_eq_true rfl) ?_
  intro p e s m args below meth c X hr
  unfold S_J2_charAt_3b067_V3 at h
  refine g_iload_n X 1 (i0 := 1) dJ2_charAt_3b067_0 rfl rfl ?_
  refine g_aload_n X 0 (i0 := 0) dJ2_charAt_3b067_1 rfl rfl ?_
  obtain ⟨D2, e1, h⟩ := cV_s h
  refine g_S X (As := [.int a1, .ref (E.1 1033)]) (rest := []) (c_J2_checkIndex_2214a_V3 l G E a1 _ _ e1) ks_J2_67 ⟨rfl, rfl⟩ hd_J2_checkIndex_2214a (⟨Nat.le_of_ble_eq_true rfl, Nat.le_of_ble_eq_true rfl⟩) rfl rfl (Nat.le_of_ble_eq_true rfl) dJ2_charAt_3b067_2 ?_
  refine g_aload_n X 0 (i0 := 0) dJ2_charAt_3b067_5 rfl rfl ?_
  refine g_iload_n X 1 (i0 := 1) dJ2_charAt_3b067_6 rfl rfl ?_
  cases h
def S_J1_charAt_3b067_V3 (a1 : Int32) (D : DD) : Option RT := (cV (S_J0_checkIndex_df160 a1 (6 : Int32) D) (fun D2 => (if inB a1 6 = true then (if vp_nar .char ((((cmdB 3).getD a1.toNatClampNeg 0) &&& (255 : Int32)).toUInt32 % 65536).toInt32 = ((((cmdB 3).getD a1.toNatClampNeg 0) &&& (255 : Int32)).toUInt32 % 65536).toInt32 then some (0, some (.int ((((cmdB 3).getD a1.toNatClampNeg 0) &&& (255 : Int32)).toUInt32 % 65536).toInt32), D2) else none) else none)))
set_option maxRecDepth 100000 in
set_option maxHeartbeats 4000000 in
theorem c_J1_charAt_3b067_V3 (l : Launch) (G : va_G) (E : EE) (a1 : Int32) (D : DD) (r : RT) (h : S_J1_charAt_3b067_V3 a1 D = some r) : MM l G E yJ1_charAt_3b067 cJ1_charAt_3b067 2 (some .char) (rmm 2) [.ref (E.1 1033), .int a1] D r := by
  refine m_of rfl (Nat.le_of_ble_eq_true rfl) ?_
  intro p e s m args below meth c X hr
  unfold S_J1_charAt_3b067_V3 at h
  refine g_iload_n X 1 (i0 := 1) dJ1_charAt_3b067_0 rfl rfl ?_
  refine g_aload_n X 0 (i0 := 0) dJ1_charAt_3b067_1 rfl rfl ?_
  refine g_tlen X (X.2.2.2.2.2.2.2.2.2.2.2.1 3 (by decide)).2.2.2 (v := (6 : Int32)) (by decide) dJ1_charAt_3b067_2 ?_
  obtain ⟨D2, e1, h⟩ := cV_s h
  refine g_S X (As := [.int a1, .int (6 : Int32)]) (rest := []) (c_J0_checkIndex_df160 l G E a1 (6 : Int32) _ _ e1) ks_J1_9 ⟨rfl, rfl⟩ hd_J0_checkIndex_df160 (⟨Nat.le_of_ble_eq_true rfl, Nat.le_of_ble_eq_true rfl⟩) rfl rfl (Nat.le_of_ble_eq_true rfl) dJ1_charAt_3b067_3 ?_
  refine g_aload_n X 0 (i0 := 0) dJ1_charAt_3b067_6 rfl rfl ?_
  refine g_iload_n X 1 (i0 := 1) dJ1_charAt_3b067_7 rfl rfl ?_
  obtain ⟨b3, h⟩ := chk_s h
  refine g_tb X (X.2.2.2.2.2.2.2.2.2.2.2.1 3 (by decide)).2.2.2 (i := a1) (v := .int ((cmdB 3).getD a1.toNatClampNeg 0)) (inB_vp b3) rfl dJ1_charAt_3b067_8 ?_
  refine g_sipush X (v := (255 : Int32)) dJ1_charAt_3b067_9 (by decide) ?_
  refine g_iand X dJ1_charAt_3b067_12 ?_
  refine g_i2c X dJ1_charAt_3b067_13 ?_
  obtain ⟨n4, h⟩ := chk_s h
  exact g_iret X hr (by first | exact congrArg Value.int n4 | (rw [show narrow .char (.int ((((cmdB 3).getD a1.toNatClampNeg 0) &&& (255 : Int32)).toUInt32 % 65536).toInt32) = .int (vp_nar .char ((((cmdB 3).getD a1.toNatClampNeg 0) &&& (255 : Int32)).toUInt32 % 65536).toInt32) from rfl, n4])) dJ1_charAt_3b067_14 (Option.some.inj h)
def S_J0_charAt_5068e_S3 (a0 : Int32) (D : DD) : Option RT := (cI (S_J0_isLatin1_aae02_S3 D) (fun r3 D2 => (if r3 = 0 then (cI (S_J2_charAt_3b067_V3 a0 D2) (fun r6 D5 => (if vp_nar .char r6 = r6 then some (0, some (.int r6), D5) else none))) else (cI (S_J1_charAt_3b067_V3 a0 D2) (fun r10 D9 => (if vp_nar .char r10 = r10 then some (0, some (.int r10), D9) else none))))))
set_option maxRecDepth 100000 in
set_option maxHeartbeats 4000000 in
theorem c_J0_charAt_5068e_S3 (l : Launch) (G : va_G) (E : EE) (a0 : Int32) (D : DD) (r : RT) (h : S_J0_charAt_5068e_S3 a0 D = some r) : MM l G E yJ0_charAt_5068e cJ0_charAt_5068e 2 (some .char) (rmm 4) [.ref (E.1 1013), .int a0] D r := by
  refine m_of rfl (Nat.le_of_ble_eq_true rfl) ?_
  intro p e s m args below meth c X hr
  unfold S_J0_charAt_5068e_S3 at h
  refine g_aload_n X 0 (i0 := 0) dJ0_charAt_5068e_0 rfl rfl ?_
  obtain ⟨r3, D2, e1, h⟩ := cI_s h
  refine g_VK X (As := []) (rest := []) (X.2.2.2.2.2.2.2.2.2.2.2.1 3 (by decide)).1 (c_J0_isLatin1_aae02_S3 l G E  _ _ e1) kv_J0_492 ⟨rfl, rfl⟩ ⟨rfl, hd_J0_isLatin1_aae02⟩ (⟨Nat.le_of_ble_eq_true rfl, Nat.le_of_ble_eq_true rfl⟩) rfl rfl (Nat.le_of_ble_eq_true rfl) dJ0_charAt_5068e_1 ?_
  refine g_if_eq X (tgt := 16) dJ0_charAt_5068e_4 (by decide) (fun c12 => ?_) (fun c12 => ?_)
  · have h := (ite_s h).1 c12
    refine g_aload_n X 0 (i0 := 0) dJ0_charAt_5068e_16 rfl rfl ?_
    refine g_getK X (v := .ref (E.1 1033)) (X.2.2.2.2.2.2.2.2.2.2.2.1 3 (by decide)).2.2.1 fl_J0_9 dJ0_charAt_5068e_17 ?_
    refine g_iload_n X 1 (i0 := 1) dJ0_charAt_5068e_20 rfl rfl ?_
    obtain ⟨r6, D5, e4, h⟩ := cI_s h
    refine g_S X (As := [.ref (E.1 1033), .int a0]) (rest := []) (c_J2_charAt_3b067_V3 l G E a0 _ _ e4) ks_J0_498 ⟨rfl, rfl⟩ hd_J2_charAt_3b067 (⟨Nat.le_of_ble_eq_true rfl, Nat.le_of_ble_eq_true rfl⟩) rfl rfl (Nat.le_of_ble_eq_true rfl) dJ0_charAt_5068e_21 ?_
    obtain ⟨n7, h⟩ := chk_s h
    exact g_iret X hr (by first | exact congrArg Value.int n7 | (rw [show narrow .char (.int r6) = .int (vp_nar .char r6) from rfl, n7])) dJ0_charAt_5068e_24 (Option.some.inj h)
  · have h := (ite_s h).2 c12
    refine g_aload_n X 0 (i0 := 0) dJ0_charAt_5068e_7 rfl rfl ?_
    refine g_getK X (v := .ref (E.1 1033)) (X.2.2.2.2.2.2.2.2.2.2.2.1 3 (by decide)).2.2.1 fl_J0_9 dJ0_charAt_5068e_8 ?_
    refine g_iload_n X 1 (i0 := 1) dJ0_charAt_5068e_11 rfl rfl ?_
    obtain ⟨r10, D9, e8, h⟩ := cI_s h
    refine g_S X (As := [.ref (E.1 1033), .int a0]) (rest := []) (c_J1_charAt_3b067_V3 l G E a0 _ _ e8) ks_J0_495 ⟨rfl, rfl⟩ hd_J1_charAt_3b067 (⟨Nat.le_of_ble_eq_true rfl, Nat.le_of_ble_eq_true rfl⟩) rfl rfl (Nat.le_of_ble_eq_true rfl) dJ0_charAt_5068e_12 ?_
    obtain ⟨n11, h⟩ := chk_s h
    exact g_iret X hr (by first | exact congrArg Value.int n11 | (rw [show narrow .char (.int r10) = .int (vp_nar .char r10) from rfl, n11])) dJ0_charAt_5068e_15 (Option.some.inj h)
def b_X4_commonStart_text_S3_0  (D : DD) : Option ((Nat × List Int32 × DD) ⊕ RT) := some (.inl (1, [(0 : Int32)], D))
def b_X4_commonStart_text_S3_1 (x2 : Int32) (D : DD) : Option ((Nat × List Int32 × DD) ⊕ RT) := (cI (S_J0_length_8abf5_S3 D) (fun r3 D2 => (if r3 ≤ x2 then (cI (S_J0_length_8abf5_S3 D2) (fun r6 D5 => some (.inr (0, some (.int r6), D5)))) else (cI (S_J0_charAt_5068e_S3 x2 D2) (fun r9 D8 => (cI (S_X4_signIs ((D2.1 130) + x2) r9 D8) (fun r12 D11 => (if r12 = 0 then some (.inr (0, some (.int x2), D11)) else some (.inl (1, [(x2 + (1 : Int32))], D11))))))))))
def T_X4_commonStart_text_S3 (k : Nat) (ls : List Int32) (D : DD) : Option ((Nat × List Int32 × DD) ⊕ RT) := match k, ls with
  | 0, [] => b_X4_commonStart_text_S3_0  D
  | 1, [x2] => b_X4_commonStart_text_S3_1 x2 D
  | _, _ => none
def S_X4_commonStart_text_S3  (D : DD) : Option RT := run T_X4_commonStart_text_S3 FUEL 0 [] D
def hg_X4_commonStart_text_S3 (p : Program) (l : Launch) (e : Env) (s : State) (m : MethodId) (args : Array Value) (below : List Frame) (meth : Method) (c : Code) (G : va_G) (E : EE) (r : RT) (k : Nat) (ls : List Int32) (D : DD) : Prop := match k, ls with
  | 0, [] => GW p l e (rmm 5) s m args below meth c G E 3 (MQ below (QR G E s.heap.size r) args s 0 0 (fr E s.heap.size)) 0 0 D 0 [(0, .ref (E.1 80)), (1, .ref (E.1 1013))] []
  | 1, [x2] => GW p l e (rmm 5) s m args below meth c G E 3 (MQ below (QR G E s.heap.size r) args s 0 0 (fr E s.heap.size)) 0 0 D 2 [(0, .ref (E.1 80)), (1, .ref (E.1 1013)), (2, .int x2)] []
  | _, _ => True
set_option maxRecDepth 100000 in
set_option maxHeartbeats 4000000 in
theorem bl_X4_commonStart_text_S3_0 {p : Program} {l : Launch} {e : Env} {s : State} {m : MethodId} {args : Array Value} {below : List Frame} {meth : Method} {c : Code} {G : va_G} {E : EE} {r : RT} (X : CX p s m args meth c cX4_commonStart RX4 3 G E) (hr : meth.sig.returnType = (some .int))  (D : DD) (o : (Nat × List Int32 × DD) ⊕ RT) (h : b_X4_commonStart_text_S3_0  D = some o) (h1 : ∀ x, o = .inl x → hg_X4_commonStart_text_S3 p l e s m args below meth c G E r x.1 x.2.1 x.2.2) (h2 : ∀ x, o = .inr x → x = r) : GW p l e (rmm 5) s m args below meth c G E 3 (MQ below (QR G E s.heap.size r) args s 0 0 (fr E s.heap.size)) 0 0 D 0 [(0, .ref (E.1 80)), (1, .ref (E.1 1013))] [] := by
  unfold b_X4_commonStart_text_S3_0 at h
  refine g_iconst X (v := (0 : Int32)) dX4_commonStart_0 (by decide) ?_
  refine g_istore_n X (i0 := 2) (lv' := [(2, .int (0 : Int32)), (0, .ref (E.1 80)), (1, .ref (E.1 1013))]) dX4_commonStart_1 rfl (by decide) rfl ?_
  refine g_sub (lv' := [(0, .ref (E.1 80)), (1, .ref (E.1 1013)), (2, .int (0 : Int32))]) [1, 2, 0] rfl ?_
  exact h1 _ (Option.some.inj h).symm
set_option maxRecDepth 100000 in
set_option maxHeartbeats 4000000 in
theorem bl_X4_commonStart_text_S3_1 {p : Program} {l : Launch} {e : Env} {s : State} {m : MethodId} {args : Array Value} {below : List Frame} {meth : Method} {c : Code} {G : va_G} {E : EE} {r : RT} (X : CX p s m args meth c cX4_commonStart RX4 3 G E) (hr : meth.sig.returnType = (some .int)) (x2 : Int32) (D : DD) (o : (Nat × List Int32 × DD) ⊕ RT) (h : b_X4_commonStart_text_S3_1 x2 D = some o) (h1 : ∀ x, o = .inl x → hg_X4_commonStart_text_S3 p l e s m args below meth c G E r x.1 x.2.1 x.2.2) (h2 : ∀ x, o = .inr x → x = r) : GW p l e (rmm 5) s m args below meth c G E 3 (MQ below (QR G E s.heap.size r) args s 0 0 (fr E s.heap.size)) 0 0 D 2 [(0, .ref (E.1 80)), (1, .ref (E.1 1013)), (2, .int x2)] [] := by
  unfold b_X4_commonStart_text_S3_1 at h
  refine g_iload_n X 2 (i0 := 2) dX4_commonStart_2 rfl rfl ?_
  refine g_aload_n X 1 (i0 := 1) dX4_commonStart_3 rfl rfl ?_
  obtain ⟨r3, D2, e1, h⟩ := cI_s h
  refine g_VK X (As := []) (rest := [.int x2]) (X.2.2.2.2.2.2.2.2.2.2.2.1 3 (by decide)).1 (c_J0_length_8abf5_S3 l G E  _ _ e1) kv_X4_71 ⟨rfl, rfl⟩ ⟨rfl, hd_J0_length_8abf5⟩ (⟨Nat.le_of_ble_eq_true rfl, Nat.le_of_ble_eq_true rfl⟩) rfl rfl (Nat.le_of_ble_eq_true rfl) dX4_commonStart_4 ?_
  refine g_icmp_ge X (tgt := 36) dX4_commonStart_7 (by decide) (fun c14 => ?_) (fun c14 => ?_)
  · have h := (ite_s h).1 c14
    refine g_aload_n X 1 (i0 := 1) dX4_commonStart_36 rfl rfl ?_
    obtain ⟨r6, D5, e4, h⟩ := cI_s h
    refine g_VK X (As := []) (rest := []) (X.2.2.2.2.2.2.2.2.2.2.2.1 3 (by decide)).1 (c_J0_length_8abf5_S3 l G E  _ _ e4) kv_X4_71 ⟨rfl, rfl⟩ ⟨rfl, hd_J0_length_8abf5⟩ (⟨Nat.le_of_ble_eq_true rfl, Nat.le_of_ble_eq_true rfl⟩) rfl rfl (Nat.le_of_ble_eq_true rfl) dX4_commonStart_37 ?_
    exact g_iret X hr rfl dX4_commonStart_40 (h2 _ (Option.some.inj h).symm)
  · have h := (ite_s h).2 c14
    refine g_aload_n X 0 (i0 := 0) dX4_commonStart_10 rfl rfl ?_
    refine g_aload_n X 0 (i0 := 0) dX4_commonStart_11 rfl rfl ?_
    refine g_get X (D := D2) (v := .int (D2.1 130)) (T := TX4) 80 uX4 (wg_80 E _) rfl 4 (by decide) fl_X4_33 rfl rfl dX4_commonStart_12 ?_
    refine g_iload_n X 2 (i0 := 2) dX4_commonStart_15 rfl rfl ?_
    refine g_iadd X dX4_commonStart_16 ?_
    refine g_aload_n X 1 (i0 := 1) dX4_commonStart_17 rfl rfl ?_
    refine g_iload_n X 2 (i0 := 2) dX4_commonStart_18 rfl rfl ?_
    obtain ⟨r9, D8, e7, h⟩ := cI_s h
    refine g_VK X (As := [.int x2]) (rest := [.int ((D2.1 130) + x2), .ref (E.1 80)]) (X.2.2.2.2.2.2.2.2.2.2.2.1 3 (by decide)).1 (c_J0_charAt_5068e_S3 l G E x2 _ _ e7) kv_X4_82 ⟨rfl, rfl⟩ ⟨rfl, hd_J0_charAt_5068e⟩ (⟨Nat.le_of_ble_eq_true rfl, Nat.le_of_ble_eq_true rfl⟩) rfl rfl (Nat.le_of_ble_eq_true rfl) dX4_commonStart_19 ?_
    obtain ⟨r12, D11, e10, h⟩ := cI_s h
    refine g_V X (As := [.int ((D2.1 130) + x2), .int r9]) (rest := []) (c_X4_signIs l G E ((D2.1 130) + x2) r9 _ _ e10) 80 (wg_80 E _) rfl rfl kv_X4_86 ⟨rfl, rfl⟩ ⟨rfl, hd_X4_signIs⟩ (⟨Nat.le_of_ble_eq_true rfl, Nat.le_of_ble_eq_true rfl⟩) rfl rfl (Nat.le_of_ble_eq_true rfl) dX4_commonStart_22 ?_
    refine g_if_ne X (tgt := 30) dX4_commonStart_25 (by decide) (fun c13 => ?_) (fun c13 => ?_)
    · have h := (ite_s h).2 c13
      refine g_iinc X 2 (v := (x2 + (1 : Int32))) (lv' := [(2, .int (x2 + (1 : Int32))), (0, .ref (E.1 80)), (1, .ref (E.1 1013))]) dX4_commonStart_30 rfl rfl (by decide) rfl ?_
      refine g_goto X (tgt := 2) dX4_commonStart_33 (by decide) ?_
      refine g_sub (lv' := [(0, .ref (E.1 80)), (1, .ref (E.1 1013)), (2, .int (x2 + (1 : Int32)))]) [1, 2, 0] rfl ?_
      exact h1 _ (Option.some.inj h).symm
    · have h := (ite_s h).1 c13
      refine g_iload_n X 2 (i0 := 2) dX4_commonStart_28 rfl rfl ?_
      exact g_iret X hr rfl dX4_commonStart_29 (h2 _ (Option.some.inj h).symm)
set_option maxRecDepth 100000 in
set_option maxHeartbeats 4000000 in
theorem c_X4_commonStart_text_S3 (l : Launch) (G : va_G) (E : EE)  (D : DD) (r : RT) (h : S_X4_commonStart_text_S3  D = some r) : MM l G E yX4_commonStart cX4_commonStart 3 (some .int) (rmm 5) [.ref (E.1 80), .ref (E.1 1013)] D r := by
  unfold S_X4_commonStart_text_S3 at h
  refine m_of rfl (Nat.le_of_ble_eq_true rfl) ?_
  intro p e s m args below meth c X hr
  exact run_G (T := T_X4_commonStart_text_S3) (HG := hg_X4_commonStart_text_S3 p l e s m args below meth c G E r) (by
    intro k ls D o hT h1 h2
    unfold T_X4_commonStart_text_S3 at hT
    split at hT
    · exact bl_X4_commonStart_text_S3_0 X hr  D o hT h1 h2
    · exact bl_X4_commonStart_text_S3_1 X hr _ D o hT h1 h2
    · cases hT) FUEL 0 [] D h
def S_J0_isLatin1_aae02_S4  (D : DD) : Option RT := some (0, some (.int (1 : Int32)), D)
set_option maxRecDepth 100000 in
set_option maxHeartbeats 4000000 in
theorem c_J0_isLatin1_aae02_S4 (l : Launch) (G : va_G) (E : EE)  (D : DD) (r : RT) (h : S_J0_isLatin1_aae02_S4  D = some r) : MM l G E yJ0_isLatin1_aae02 cJ0_isLatin1_aae02 1 (some .boolean) (rmm 0) [.ref (E.1 1014)] D r := by
  refine m_of rfl (Nat.le_of_ble_eq_true rfl) ?_
  intro p e s m args below meth c X hr
  unfold S_J0_isLatin1_aae02_S4 at h
  refine g_gets X (v := .int (1 : Int32)) X.2.2.2.2.2.2.2.2.2.2.2.2.1 fl_J0_38 dJ0_isLatin1_aae02_0 ?_
  refine g_if_eq X (tgt := 17) dJ0_isLatin1_aae02_3 (by decide) (fun q => absurd q (by decide)) (fun _ => ?_)
  refine g_aload_n X 0 (i0 := 0) dJ0_isLatin1_aae02_6 rfl rfl ?_
  refine g_getK X (v := .int (0 : Int32)) (X.2.2.2.2.2.2.2.2.2.2.2.1 4 (by decide)).2.1 fl_J0_15 dJ0_isLatin1_aae02_7 ?_
  refine g_if_ne X (tgt := 17) dJ0_isLatin1_aae02_10 (by decide) (fun q => absurd q (by decide)) (fun _ => ?_)
  refine g_iconst X (v := (1 : Int32)) dJ0_isLatin1_aae02_13 (by decide) ?_
  refine g_goto X (tgt := 18) dJ0_isLatin1_aae02_14 (by decide) ?_
  exact g_iret X hr rfl dJ0_isLatin1_aae02_18 (Option.some.inj h)
def S_J2_length_9d52b_V4  (D : DD) : Option RT := some (0, some (.int ((3 : Int32) >>> ((1 : Int32) &&& 31))), D)
set_option maxRecDepth 100000 in
set_option maxHeartbeats 4000000 in
theorem c_J2_length_9d52b_V4 (l : Launch) (G : va_G) (E : EE)  (D : DD) (r : RT) (h : S_J2_length_9d52b_V4  D = some r) : MM l G E yJ2_length_9d52b cJ2_length_9d52b 1 (some .int) (rmm 0) [.ref (E.1 1034)] D r := by
  refine m_of rfl (Nat.le_of_ble_eq_true rfl) ?_
  intro p e s m args below meth c X hr
  unfold S_J2_length_9d52b_V4 at h
  refine g_aload_n X 0 (i0 := 0) dJ2_length_9d52b_0 rfl rfl ?_
  refine g_tlen X (X.2.2.2.2.2.2.2.2.2.2.2.1 4 (by decide)).2.2.2 (v := (3 : Int32)) (by decide) dJ2_length_9d52b_1 ?_
  refine g_iconst X (v := (1 : Int32)) dJ2_length_9d52b_2 (by decide) ?_
  refine g_ishr X dJ2_length_9d52b_3 ?_
  exact g_iret X hr rfl dJ2_length_9d52b_4 (Option.some.inj h)
def S_J2_checkIndex_2214a_V4 (a0 : Int32) (D : DD) : Option RT := (cI (S_J2_length_9d52b_V4 D) (fun r3 D2 => (cV (S_J0_checkIndex_df160 a0 r3 D2) (fun D5 => some (0, none, D5)))))
set_option maxRecDepth 100000 in
set_option maxHeartbeats 4000000 in
theorem c_J2_checkIndex_2214a_V4 (l : Launch) (G : va_G) (E : EE) (a0 : Int32) (D : DD) (r : RT) (h : S_J2_checkIndex_2214a_V4 a0 D = some r) : MM l G E yJ2_checkIndex_2214a cJ2_checkIndex_2214a 2 none (rmm 2) [.int a0, .ref (E.1 1034)] D r := by
  refine m_of rfl (Nat.le_of_ble_eq_true rfl) ?_
  intro p e s m args below meth c X hr
  unfold S_J2_checkIndex_2214a_V4 at h
  refine g_iload_n X 0 (i0 := 0) dJ2_checkIndex_2214a_0 rfl rfl ?_
  refine g_aload_n X 1 (i0 := 1) dJ2_checkIndex_2214a_1 rfl rfl ?_
  obtain ⟨r3, D2, e1, h⟩ := cI_s h
  refine g_S X (As := [.ref (E.1 1034)]) (rest := [.int a0]) (c_J2_length_9d52b_V4 l G E  _ _ e1) ks_J2_48 ⟨rfl, rfl⟩ hd_J2_length_9d52b (⟨Nat.le_of_ble_eq_true rfl, Nat.le_of_ble_eq_true rfl⟩) rfl rfl (Nat.le_of_ble_eq_true rfl) dJ2_checkIndex_2214a_2 ?_
  obtain ⟨D5, e4, h⟩ := cV_s h
  refine g_S X (As := [.int a0, .int r3]) (rest := []) (c_J0_checkIndex_df160 l G E a0 r3 _ _ e4) ks_J2_414 ⟨rfl, rfl⟩ hd_J0_checkIndex_df160 (⟨Nat.le_of_ble_eq_true rfl, Nat.le_of_ble_eq_true rfl⟩) rfl rfl (Nat.le_of_ble_eq_true rfl) dJ2_checkIndex_2214a_5 ?_
  exact g_vret X hr dJ2_checkIndex_2214a_8 (Option.some.inj h)
def S_J2_charAt_3b067_V4 (a1 : Int32) (D : DD) : Option RT := (cV (S_J2_checkIndex_2214a_V4 a1 D) (fun D2 => none))
set_option maxRecDepth 100000 in
set_option maxHeartbeats 4000000 in
theorem c_J2_charAt_3b067_V4 (l : Launch) (G : va_G) (E : EE) (a1 : Int32) (D : DD) (r : RT) (h : S_J2_charAt_3b067_V4 a1 D = some r) : MM l G E yJ2_charAt_3b067 cJ2_charAt_3b067 2 (some .char) (rmm 3) [.ref (E.1 1034), .int a1] D r := by
  refine m_of rfl (Nat.le_of_ble_eq_true rfl) ?_
  intro p e s m args below meth c X hr
  unfold S_J2_charAt_3b067_V4 at h
  refine g_iload_n X 1 (i0 := 1) dJ2_charAt_3b067_0 rfl rfl ?_
  refine g_aload_n X 0 (i0 := 0) dJ2_charAt_3b067_1 rfl rfl ?_
  obtain ⟨D2, e1, h⟩ := cV_s h
  refine g_S X (As := [.int a1, .ref (E.1 1034)]) (rest := []) (c_J2_checkIndex_2214a_V4 l G E a1 _ _ e1) ks_J2_67 ⟨rfl, rfl⟩ hd_J2_checkIndex_2214a (⟨Nat.le_of_ble_eq_true rfl, Nat.le_of_ble_eq_true rfl⟩) rfl rfl (Nat.le_of_ble_eq_true rfl) dJ2_charAt_3b067_2 ?_
  refine g_aload_n X 0 (i0 := 0) dJ2_charAt_3b067_5 rfl rfl ?_
  refine g_iload_n X 1 (i0 := 1) dJ2_charAt_3b067_6 rfl rfl ?_
  cases h
def S_J1_charAt_3b067_V4 (a1 : Int32) (D : DD) : Option RT := (cV (S_J0_checkIndex_df160 a1 (3 : Int32) D) (fun D2 => (if inB a1 3 = true then (if vp_nar .char ((((cmdB 4).getD a1.toNatClampNeg 0) &&& (255 : Int32)).toUInt32 % 65536).toInt32 = ((((cmdB 4).getD a1.toNatClampNeg 0) &&& (255 : Int32)).toUInt32 % 65536).toInt32 then some (0, some (.int ((((cmdB 4).getD a1.toNatClampNeg 0) &&& (255 : Int32)).toUInt32 % 65536).toInt32), D2) else none) else none)))
set_option maxRecDepth 100000 in
set_option maxHeartbeats 4000000 in
theorem c_J1_charAt_3b067_V4 (l : Launch) (G : va_G) (E : EE) (a1 : Int32) (D : DD) (r : RT) (h : S_J1_charAt_3b067_V4 a1 D = some r) : MM l G E yJ1_charAt_3b067 cJ1_charAt_3b067 2 (some .char) (rmm 2) [.ref (E.1 1034), .int a1] D r := by
  refine m_of rfl (Nat.le_of_ble_eq_true rfl) ?_
  intro p e s m args below meth c X hr
  unfold S_J1_charAt_3b067_V4 at h
  refine g_iload_n X 1 (i0 := 1) dJ1_charAt_3b067_0 rfl rfl ?_
  refine g_aload_n X 0 (i0 := 0) dJ1_charAt_3b067_1 rfl rfl ?_
  refine g_tlen X (X.2.2.2.2.2.2.2.2.2.2.2.1 4 (by decide)).2.2.2 (v := (3 : Int32)) (by decide) dJ1_charAt_3b067_2 ?_
  obtain ⟨D2, e1, h⟩ := cV_s h
  refine g_S X (As := [.int a1, .int (3 : Int32)]) (rest := []) (c_J0_checkIndex_df160 l G E a1 (3 : Int32) _ _ e1) ks_J1_9 ⟨rfl, rfl⟩ hd_J0_checkIndex_df160 (⟨Nat.le_of_ble_eq_true rfl, Nat.le_of_ble_eq_true rfl⟩) rfl rfl (Nat.le_of_ble_eq_true rfl) dJ1_charAt_3b067_3 ?_
  refine g_aload_n X 0 (i0 := 0) dJ1_charAt_3b067_6 rfl rfl ?_
  refine g_iload_n X 1 (i0 := 1) dJ1_charAt_3b067_7 rfl rfl ?_
  obtain ⟨b3, h⟩ := chk_s h
  refine g_tb X (X.2.2.2.2.2.2.2.2.2.2.2.1 4 (by decide)).2.2.2 (i := a1) (v := .int ((cmdB 4).getD a1.toNatClampNeg 0)) (inB_vp b3) rfl dJ1_charAt_3b067_8 ?_
  refine g_sipush X (v := (255 : Int32)) dJ1_charAt_3b067_9 (by decide) ?_
  refine g_iand X dJ1_charAt_3b067_12 ?_
  refine g_i2c X dJ1_charAt_3b067_13 ?_
  obtain ⟨n4, h⟩ := chk_s h
  exact g_iret X hr (by first | exact congrArg Value.int n4 | (rw [show narrow .char (.int ((((cmdB 4).getD a1.toNatClampNeg 0) &&& (255 : Int32)).toUInt32 % 65536).toInt32) = .int (vp_nar .char ((((cmdB 4).getD a1.toNatClampNeg 0) &&& (255 : Int32)).toUInt32 % 65536).toInt32) from rfl, n4])) dJ1_charAt_3b067_14 (Option.some.inj h)
def S_J0_charAt_5068e_S4 (a0 : Int32) (D : DD) : Option RT := (cI (S_J0_isLatin1_aae02_S4 D) (fun r3 D2 => (if r3 = 0 then (cI (S_J2_charAt_3b067_V4 a0 D2) (fun r6 D5 => (if vp_nar .char r6 = r6 then some (0, some (.int r6), D5) else none))) else (cI (S_J1_charAt_3b067_V4 a0 D2) (fun r10 D9 => (if vp_nar .char r10 = r10 then some (0, some (.int r10), D9) else none))))))
set_option maxRecDepth 100000 in
set_option maxHeartbeats 4000000 in
theorem c_J0_charAt_5068e_S4 (l : Launch) (G : va_G) (E : EE) (a0 : Int32) (D : DD) (r : RT) (h : S_J0_charAt_5068e_S4 a0 D = some r) : MM l G E yJ0_charAt_5068e cJ0_charAt_5068e 2 (some .char) (rmm 4) [.ref (E.1 1014), .int a0] D r := by
  refine m_of rfl (Nat.le_of_ble_eq_true rfl) ?_
  intro p e s m args below meth c X hr
  unfold S_J0_charAt_5068e_S4 at h
  refine g_aload_n X 0 (i0 := 0) dJ0_charAt_5068e_0 rfl rfl ?_
  obtain ⟨r3, D2, e1, h⟩ := cI_s h
  refine g_VK X (As := []) (rest := []) (X.2.2.2.2.2.2.2.2.2.2.2.1 4 (by decide)).1 (c_J0_isLatin1_aae02_S4 l G E  _ _ e1) kv_J0_492 ⟨rfl, rfl⟩ ⟨rfl, hd_J0_isLatin1_aae02⟩ (⟨Nat.le_of_ble_eq_true rfl, Nat.le_of_ble_eq_true rfl⟩) rfl rfl (Nat.le_of_ble_eq_true rfl) dJ0_charAt_5068e_1 ?_
  refine g_if_eq X (tgt := 16) dJ0_charAt_5068e_4 (by decide) (fun c12 => ?_) (fun c12 => ?_)
  · have h := (ite_s h).1 c12
    refine g_aload_n X 0 (i0 := 0) dJ0_charAt_5068e_16 rfl rfl ?_
    refine g_getK X (v := .ref (E.1 1034)) (X.2.2.2.2.2.2.2.2.2.2.2.1 4 (by decide)).2.2.1 fl_J0_9 dJ0_charAt_5068e_17 ?_
    refine g_iload_n X 1 (i0 := 1) dJ0_charAt_5068e_20 rfl rfl ?_
    obtain ⟨r6, D5, e4, h⟩ := cI_s h
    refine g_S X (As := [.ref (E.1 1034), .int a0]) (rest := []) (c_J2_charAt_3b067_V4 l G E a0 _ _ e4) ks_J0_498 ⟨rfl, rfl⟩ hd_J2_charAt_3b067 (⟨Nat.le_of_ble_eq_true rfl, Nat.le_of_ble_eq_true rfl⟩) rfl rfl (Nat.le_of_ble_eq_true rfl) dJ0_charAt_5068e_21 ?_
    obtain ⟨n7, h⟩ := chk_s h
    exact g_iret X hr (by first | exact congrArg Value.int n7 | (rw [show narrow .char (.int r6) = .int (vp_nar .char r6) from rfl, n7])) dJ0_charAt_5068e_24 (Option.some.inj h)
  · have h := (ite_s h).2 c12
    refine g_aload_n X 0 (i0 := 0) dJ0_charAt_5068e_7 rfl rfl ?_
    refine g_getK X (v := .ref (E.1 1034)) (X.2.2.2.2.2.2.2.2.2.2.2.1 4 (by decide)).2.2.1 fl_J0_9 dJ0_charAt_5068e_8 ?_
    refine g_iload_n X 1 (i0 := 1) dJ0_charAt_5068e_11 rfl rfl ?_
    obtain ⟨r10, D9, e8, h⟩ := cI_s h
    refine g_S X (As := [.ref (E.1 1034), .int a0]) (rest := []) (c_J1_charAt_3b067_V4 l G E a0 _ _ e8) ks_J0_495 ⟨rfl, rfl⟩ hd_J1_charAt_3b067 (⟨Nat.le_of_ble_eq_true rfl, Nat.le_of_ble_eq_true rfl⟩) rfl rfl (Nat.le_of_ble_eq_true rfl) dJ0_charAt_5068e_12 ?_
    obtain ⟨n11, h⟩ := chk_s h
    exact g_iret X hr (by first | exact congrArg Value.int n11 | (rw [show narrow .char (.int r10) = .int (vp_nar .char r10) from rfl, n11])) dJ0_charAt_5068e_15 (Option.some.inj h)
def b_X4_commonStart_text_S4_0  (D : DD) : Option ((Nat × List Int32 × DD) ⊕ RT) := some (.inl (1, [(0 : Int32)], D))
def b_X4_commonStart_text_S4_1 (x2 : Int32) (D : DD) : Option ((Nat × List Int32 × DD) ⊕ RT) := (cI (S_J0_length_8abf5_S4 D) (fun r3 D2 => (if r3 ≤ x2 then (cI (S_J0_length_8abf5_S4 D2) (fun r6 D5 => some (.inr (0, some (.int r6), D5)))) else (cI (S_J0_charAt_5068e_S4 x2 D2) (fun r9 D8 => (cI (S_X4_signIs ((D2.1 130) + x2) r9 D8) (fun r12 D11 => (if r12 = 0 then some (.inr (0, some (.int x2), D11)) else some (.inl (1, [(x2 + (1 : Int32))], D11))))))))))
def T_X4_commonStart_text_S4 (k : Nat) (ls : List Int32) (D : DD) : Option ((Nat × List Int32 × DD) ⊕ RT) := match k, ls with
  | 0, [] => b_X4_commonStart_text_S4_0  D
  | 1, [x2] => b_X4_commonStart_text_S4_1 x2 D
  | _, _ => none
def S_X4_commonStart_text_S4  (D : DD) : Option RT := run T_X4_commonStart_text_S4 FUEL 0 [] D
def hg_X4_commonStart_text_S4 (p : Program) (l : Launch) (e : Env) (s : State) (m : MethodId) (args : Array Value) (below : List Frame) (meth : Method) (c : Code) (G : va_G) (E : EE) (r : RT) (k : Nat) (ls : List Int32) (D : DD) : Prop := match k, ls with
  | 0, [] => GW p l e (rmm 5) s m args below meth c G E 3 (MQ below (QR G E s.heap.size r) args s 0 0 (fr E s.heap.size)) 0 0 D 0 [(0, .ref (E.1 80)), (1, .ref (E.1 1014))] []
  | 1, [x2] => GW p l e (rmm 5) s m args below meth c G E 3 (MQ below (QR G E s.heap.size r) args s 0 0 (fr E s.heap.size)) 0 0 D 2 [(0, .ref (E.1 80)), (1, .ref (E.1 1014)), (2, .int x2)] []
  | _, _ => True
set_option maxRecDepth 100000 in
set_option maxHeartbeats 4000000 in
theorem bl_X4_commonStart_text_S4_0 {p : Program} {l : Launch} {e : Env} {s : State} {m : MethodId} {args : Array Value} {below : List Frame} {meth : Method} {c : Code} {G : va_G} {E : EE} {r : RT} (X : CX p s m args meth c cX4_commonStart RX4 3 G E) (hr : meth.sig.returnType = (some .int))  (D : DD) (o : (Nat × List Int32 × DD) ⊕ RT) (h : b_X4_commonStart_text_S4_0  D = some o) (h1 : ∀ x, o = .inl x → hg_X4_commonStart_text_S4 p l e s m args below meth c G E r x.1 x.2.1 x.2.2) (h2 : ∀ x, o = .inr x → x = r) : GW p l e (rmm 5) s m args below meth c G E 3 (MQ below (QR G E s.heap.size r) args s 0 0 (fr E s.heap.size)) 0 0 D 0 [(0, .ref (E.1 80)), (1, .ref (E.1 1014))] [] := by
  unfold b_X4_commonStart_text_S4_0 at h
  refine g_iconst X (v := (0 : Int32)) dX4_commonStart_0 (by decide) ?_
  refine g_istore_n X (i0 := 2) (lv' := [(2, .int (0 : Int32)), (0, .ref (E.1 80)), (1, .ref (E.1 1014))]) dX4_commonStart_1 rfl (by decide) rfl ?_
  refine g_sub (lv' := [(0, .ref (E.1 80)), (1, .ref (E.1 1014)), (2, .int (0 : Int32))]) [1, 2, 0] rfl ?_
  exact h1 _ (Option.some.inj h).symm
set_option maxRecDepth 100000 in
set_option maxHeartbeats 4000000 in
theorem bl_X4_commonStart_text_S4_1 {p : Program} {l : Launch} {e : Env} {s : State} {m : MethodId} {args : Array Value} {below : List Frame} {meth : Method} {c : Code} {G : va_G} {E : EE} {r : RT} (X : CX p s m args meth c cX4_commonStart RX4 3 G E) (hr : meth.sig.returnType = (some .int)) (x2 : Int32) (D : DD) (o : (Nat × List Int32 × DD) ⊕ RT) (h : b_X4_commonStart_text_S4_1 x2 D = some o) (h1 : ∀ x, o = .inl x → hg_X4_commonStart_text_S4 p l e s m args below meth c G E r x.1 x.2.1 x.2.2) (h2 : ∀ x, o = .inr x → x = r) : GW p l e (rmm 5) s m args below meth c G E 3 (MQ below (QR G E s.heap.size r) args s 0 0 (fr E s.heap.size)) 0 0 D 2 [(0, .ref (E.1 80)), (1, .ref (E.1 1014)), (2, .int x2)] [] := by
  unfold b_X4_commonStart_text_S4_1 at h
  refine g_iload_n X 2 (i0 := 2) dX4_commonStart_2 rfl rfl ?_
  refine g_aload_n X 1 (i0 := 1) dX4_commonStart_3 rfl rfl ?_
  obtain ⟨r3, D2, e1, h⟩ := cI_s h
  refine g_VK X (As := []) (rest := [.int x2]) (X.2.2.2.2.2.2.2.2.2.2.2.1 4 (by decide)).1 (c_J0_length_8abf5_S4 l G E  _ _ e1) kv_X4_71 ⟨rfl, rfl⟩ ⟨rfl, hd_J0_length_8abf5⟩ (⟨Nat.le_of_ble_eq_true rfl, Nat.le_of_ble_eq_true rfl⟩) rfl rfl (Nat.le_of_ble_eq_true rfl) dX4_commonStart_4 ?_
  refine g_icmp_ge X (tgt := 36) dX4_commonStart_7 (by decide) (fun c14 => ?_) (fun c14 => ?_)
  · have h := (ite_s h).1 c14
    refine g_aload_n X 1 (i0 := 1) dX4_commonStart_36 rfl rfl ?_
    obtain ⟨r6, D5, e4, h⟩ := cI_s h
    refine g_VK X (As := []) (rest := []) (X.2.2.2.2.2.2.2.2.2.2.2.1 4 (by decide)).1 (c_J0_length_8abf5_S4 l G E  _ _ e4) kv_X4_71 ⟨rfl, rfl⟩ ⟨rfl, hd_J0_length_8abf5⟩ (⟨Nat.le_of_ble_eq_true rfl, Nat.le_of_ble_eq_true rfl⟩) rfl rfl (Nat.le_of_ble_eq_true rfl) dX4_commonStart_37 ?_
    exact g_iret X hr rfl dX4_commonStart_40 (h2 _ (Option.some.inj h).symm)
  · have h := (ite_s h).2 c14
    refine g_aload_n X 0 (i0 := 0) dX4_commonStart_10 rfl rfl ?_
    refine g_aload_n X 0 (i0 := 0) dX4_commonStart_11 rfl rfl ?_
    refine g_get X (D := D2) (v := .int (D2.1 130)) (T := TX4) 80 uX4 (wg_80 E _) rfl 4 (by decide) fl_X4_33 rfl rfl dX4_commonStart_12 ?_
    refine g_iload_n X 2 (i0 := 2) dX4_commonStart_15 rfl rfl ?_
    refine g_iadd X dX4_commonStart_16 ?_
    refine g_aload_n X 1 (i0 := 1) dX4_commonStart_17 rfl rfl ?_
    refine g_iload_n X 2 (i0 := 2) dX4_commonStart_18 rfl rfl ?_
    obtain ⟨r9, D8, e7, h⟩ := cI_s h
    refine g_VK X (As := [.int x2]) (rest := [.int ((D2.1 130) + x2), .ref (E.1 80)]) (X.2.2.2.2.2.2.2.2.2.2.2.1 4 (by decide)).1 (c_J0_charAt_5068e_S4 l G E x2 _ _ e7) kv_X4_82 ⟨rfl, rfl⟩ ⟨rfl, hd_J0_charAt_5068e⟩ (⟨Nat.le_of_ble_eq_true rfl, Nat.le_of_ble_eq_true rfl⟩) rfl rfl (Nat.le_of_ble_eq_true rfl) dX4_commonStart_19 ?_
    obtain ⟨r12, D11, e10, h⟩ := cI_s h
    refine g_V X (As := [.int ((D2.1 130) + x2), .int r9]) (rest := []) (c_X4_signIs l G E ((D2.1 130) + x2) r9 _ _ e10) 80 (wg_80 E _) rfl rfl kv_X4_86 ⟨rfl, rfl⟩ ⟨rfl, hd_X4_signIs⟩ (⟨Nat.le_of_ble_eq_true rfl, Nat.le_of_ble_eq_true rfl⟩) rfl rfl (Nat.le_of_ble_eq_true rfl) dX4_commonStart_22 ?_
    refine g_if_ne X (tgt := 30) dX4_commonStart_25 (by decide) (fun c13 => ?_) (fun c13 => ?_)
    · have h := (ite_s h).2 c13
      refine g_iinc X 2 (v := (x2 + (1 : Int32))) (lv' := [(2, .int (x2 + (1 : Int32))), (0, .ref (E.1 80)), (1, .ref (E.1 1014))]) dX4_commonStart_30 rfl rfl (by decide) rfl ?_
      refine g_goto X (tgt := 2) dX4_commonStart_33 (by decide) ?_
      refine g_sub (lv' := [(0, .ref (E.1 80)), (1, .ref (E.1 1014)), (2, .int (x2 + (1 : Int32)))]) [1, 2, 0] rfl ?_
      exact h1 _ (Option.some.inj h).symm
    · have h := (ite_s h).1 c13
      refine g_iload_n X 2 (i0 := 2) dX4_commonStart_28 rfl rfl ?_
      exact g_iret X hr rfl dX4_commonStart_29 (h2 _ (Option.some.inj h).symm)
set_option maxRecDepth 100000 in
set_option maxHeartbeats 4000000 in
theorem c_X4_commonStart_text_S4 (l : Launch) (G : va_G) (E : EE)  (D : DD) (r : RT) (h : S_X4_commonStart_text_S4  D = some r) : MM l G E yX4_commonStart cX4_commonStart 3 (some .int) (rmm 5) [.ref (E.1 80), .ref (E.1 1014)] D r := by
  unfold S_X4_commonStart_text_S4 at h
  refine m_of rfl (Nat.le_of_ble_eq_true rfl) ?_
  intro p e s m args below meth c X hr
  exact run_G (T := T_X4_commonStart_text_S4) (HG := hg_X4_commonStart_text_S4 p l e s m args below meth c G E r) (by
    intro k ls D o hT h1 h2
    unfold T_X4_commonStart_text_S4 at hT
    split at hT
    · exact bl_X4_commonStart_text_S4_0 X hr  D o hT h1 h2
    · exact bl_X4_commonStart_text_S4_1 X hr _ D o hT h1 h2
    · cases hT) FUEL 0 [] D h
def S_J0_isLatin1_aae02_S5  (D : DD) : Option RT := some (0, some (.int (1 : Int32)), D)
set_option maxRecDepth 100000 in
set_option maxHeartbeats 4000000 in
theorem c_J0_isLatin1_aae02_S5 (l : Launch) (G : va_G) (E : EE)  (D : DD) (r : RT) (h : S_J0_isLatin1_aae02_S5  D = some r) : MM l G E yJ0_isLatin1_aae02 cJ0_isLatin1_aae02 1 (some .boolean) (rmm 0) [.ref (E.1 1015)] D r := by
  refine m_of rfl (Nat.le_of_ble_eq_true rfl) ?_
  intro p e s m args below meth c X hr
  unfold S_J0_isLatin1_aae02_S5 at h
  refine g_gets X (v := .int (1 : Int32)) X.2.2.2.2.2.2.2.2.2.2.2.2.1 fl_J0_38 dJ0_isLatin1_aae02_0 ?_
  refine g_if_eq X (tgt := 17) dJ0_isLatin1_aae02_3 (by decide) (fun q => absurd q (by decide)) (fun _ => ?_)
  refine g_aload_n X 0 (i0 := 0) dJ0_isLatin1_aae02_6 rfl rfl ?_
  refine g_getK X (v := .int (0 : Int32)) (X.2.2.2.2.2.2.2.2.2.2.2.1 5 (by decide)).2.1 fl_J0_15 dJ0_isLatin1_aae02_7 ?_
  refine g_if_ne X (tgt := 17) dJ0_isLatin1_aae02_10 (by decide) (fun q => absurd q (by decide)) (fun _ => ?_)
  refine g_iconst X (v := (1 : Int32)) dJ0_isLatin1_aae02_13 (by decide) ?_
  refine g_goto X (tgt := 18) dJ0_isLatin1_aae02_14 (by decide) ?_
  exact g_iret X hr rfl dJ0_isLatin1_aae02_18 (Option.some.inj h)
def S_J2_length_9d52b_V5  (D : DD) : Option RT := some (0, some (.int ((5 : Int32) >>> ((1 : Int32) &&& 31))), D)
set_option maxRecDepth 100000 in
set_option maxHeartbeats 4000000 in
theorem c_J2_length_9d52b_V5 (l : Launch) (G : va_G) (E : EE)  (D : DD) (r : RT) (h : S_J2_length_9d52b_V5  D = some r) : MM l G E yJ2_length_9d52b cJ2_length_9d52b 1 (some .int) (rmm 0) [.ref (E.1 1035)] D r := by
  refine m_of rfl (Nat.le_of_ble_eq_true rfl) ?_
  intro p e s m args below meth c X hr
  unfold S_J2_length_9d52b_V5 at h
  refine g_aload_n X 0 (i0 := 0) dJ2_length_9d52b_0 rfl rfl ?_
  refine g_tlen X (X.2.2.2.2.2.2.2.2.2.2.2.1 5 (by decide)).2.2.2 (v := (5 : Int32)) (by decide) dJ2_length_9d52b_1 ?_
  refine g_iconst X (v := (1 : Int32)) dJ2_length_9d52b_2 (by decide) ?_
  refine g_ishr X dJ2_length_9d52b_3 ?_
  exact g_iret X hr rfl dJ2_length_9d52b_4 (Option.some.inj h)
def S_J2_checkIndex_2214a_V5 (a0 : Int32) (D : DD) : Option RT := (cI (S_J2_length_9d52b_V5 D) (fun r3 D2 => (cV (S_J0_checkIndex_df160 a0 r3 D2) (fun D5 => some (0, none, D5)))))
set_option maxRecDepth 100000 in
set_option maxHeartbeats 4000000 in
theorem c_J2_checkIndex_2214a_V5 (l : Launch) (G : va_G) (E : EE) (a0 : Int32) (D : DD) (r : RT) (h : S_J2_checkIndex_2214a_V5 a0 D = some r) : MM l G E yJ2_checkIndex_2214a cJ2_checkIndex_2214a 2 none (rmm 2) [.int a0, .ref (E.1 1035)] D r := by
  refine m_of rfl (Nat.le_of_ble_eq_true rfl) ?_
  intro p e s m args below meth c X hr
  unfold S_J2_checkIndex_2214a_V5 at h
  refine g_iload_n X 0 (i0 := 0) dJ2_checkIndex_2214a_0 rfl rfl ?_
  refine g_aload_n X 1 (i0 := 1) dJ2_checkIndex_2214a_1 rfl rfl ?_
  obtain ⟨r3, D2, e1, h⟩ := cI_s h
  refine g_S X (As := [.ref (E.1 1035)]) (rest := [.int a0]) (c_J2_length_9d52b_V5 l G E  _ _ e1) ks_J2_48 ⟨rfl, rfl⟩ hd_J2_length_9d52b (⟨Nat.le_of_ble_eq_true rfl, Nat.le_of_ble_eq_true rfl⟩) rfl rfl (Nat.le_of_ble_eq_true rfl) dJ2_checkIndex_2214a_2 ?_
  obtain ⟨D5, e4, h⟩ := cV_s h
  refine g_S X (As := [.int a0, .int r3]) (rest := []) (c_J0_checkIndex_df160 l G E a0 r3 _ _ e4) ks_J2_414 ⟨rfl, rfl⟩ hd_J0_checkIndex_df160 (⟨Nat.le_of_ble_eq_true rfl, Nat.le_of_ble_eq_true rfl⟩) rfl rfl (Nat.le_of_ble_eq_true rfl) dJ2_checkIndex_2214a_5 ?_
  exact g_vret X hr dJ2_checkIndex_2214a_8 (Option.some.inj h)
def S_J2_charAt_3b067_V5 (a1 : Int32) (D : DD) : Option RT := (cV (S_J2_checkIndex_2214a_V5 a1 D) (fun D2 => none))
set_option maxRecDepth 100000 in
set_option maxHeartbeats 4000000 in
theorem c_J2_charAt_3b067_V5 (l : Launch) (G : va_G) (E : EE) (a1 : Int32) (D : DD) (r : RT) (h : S_J2_charAt_3b067_V5 a1 D = some r) : MM l G E yJ2_charAt_3b067 cJ2_charAt_3b067 2 (some .char) (rmm 3) [.ref (E.1 1035), .int a1] D r := by
  refine m_of rfl (Nat.le_of_ble_eq_true rfl) ?_
  intro p e s m args below meth c X hr
  unfold S_J2_charAt_3b067_V5 at h
  refine g_iload_n X 1 (i0 := 1) dJ2_charAt_3b067_0 rfl rfl ?_
  refine g_aload_n X 0 (i0 := 0) dJ2_charAt_3b067_1 rfl rfl ?_
  obtain ⟨D2, e1, h⟩ := cV_s h
  refine g_S X (As := [.int a1, .ref (E.1 1035)]) (rest := []) (c_J2_checkIndex_2214a_V5 l G E a1 _ _ e1) ks_J2_67 ⟨rfl, rfl⟩ hd_J2_checkIndex_2214a (⟨Nat.le_of_ble_eq_true rfl, Nat.le_of_ble_eq_true rfl⟩) rfl rfl (Nat.le_of_ble_eq_true rfl) dJ2_charAt_3b067_2 ?_
  refine g_aload_n X 0 (i0 := 0) dJ2_charAt_3b067_5 rfl rfl ?_
  refine g_iload_n X 1 (i0 := 1) dJ2_charAt_3b067_6 rfl rfl ?_
  cases h
def S_J1_charAt_3b067_V5 (a1 : Int32) (D : DD) : Option RT := (cV (S_J0_checkIndex_df160 a1 (5 : Int32) D) (fun D2 => (if inB a1 5 = true then (if vp_nar .char ((((cmdB 5).getD a1.toNatClampNeg 0) &&& (255 : Int32)).toUInt32 % 65536).toInt32 = ((((cmdB 5).getD a1.toNatClampNeg 0) &&& (255 : Int32)).toUInt32 % 65536).toInt32 then some (0, some (.int ((((cmdB 5).getD a1.toNatClampNeg 0) &&& (255 : Int32)).toUInt32 % 65536).toInt32), D2) else none) else none)))
set_option maxRecDepth 100000 in
set_option maxHeartbeats 4000000 in
theorem c_J1_charAt_3b067_V5 (l : Launch) (G : va_G) (E : EE) (a1 : Int32) (D : DD) (r : RT) (h : S_J1_charAt_3b067_V5 a1 D = some r) : MM l G E yJ1_charAt_3b067 cJ1_charAt_3b067 2 (some .char) (rmm 2) [.ref (E.1 1035), .int a1] D r := by
  refine m_of rfl (Nat.le_of_ble_eq_true rfl) ?_
  intro p e s m args below meth c X hr
  unfold S_J1_charAt_3b067_V5 at h
  refine g_iload_n X 1 (i0 := 1) dJ1_charAt_3b067_0 rfl rfl ?_
  refine g_aload_n X 0 (i0 := 0) dJ1_charAt_3b067_1 rfl rfl ?_
  refine g_tlen X (X.2.2.2.2.2.2.2.2.2.2.2.1 5 (by decide)).2.2.2 (v := (5 : Int32)) (by decide) dJ1_charAt_3b067_2 ?_
  obtain ⟨D2, e1, h⟩ := cV_s h
  refine g_S X (As := [.int a1, .int (5 : Int32)]) (rest := []) (c_J0_checkIndex_df160 l G E a1 (5 : Int32) _ _ e1) ks_J1_9 ⟨rfl, rfl⟩ hd_J0_checkIndex_df160 (⟨Nat.le_of_ble_eq_true rfl, Nat.le_of_ble_eq_true rfl⟩) rfl rfl (Nat.le_of_ble_eq_true rfl) dJ1_charAt_3b067_3 ?_
  refine g_aload_n X 0 (i0 := 0) dJ1_charAt_3b067_6 rfl rfl ?_
  refine g_iload_n X 1 (i0 := 1) dJ1_charAt_3b067_7 rfl rfl ?_
  obtain ⟨b3, h⟩ := chk_s h
  refine g_tb X (X.2.2.2.2.2.2.2.2.2.2.2.1 5 (by decide)).2.2.2 (i := a1) (v := .int ((cmdB 5).getD a1.toNatClampNeg 0)) (inB_vp b3) rfl dJ1_charAt_3b067_8 ?_
  refine g_sipush X (v := (255 : Int32)) dJ1_charAt_3b067_9 (by decide) ?_
  refine g_iand X dJ1_charAt_3b067_12 ?_
  refine g_i2c X dJ1_charAt_3b067_13 ?_
  obtain ⟨n4, h⟩ := chk_s h
  exact g_iret X hr (by first | exact congrArg Value.int n4 | (rw [show narrow .char (.int ((((cmdB 5).getD a1.toNatClampNeg 0) &&& (255 : Int32)).toUInt32 % 65536).toInt32) = .int (vp_nar .char ((((cmdB 5).getD a1.toNatClampNeg 0) &&& (255 : Int32)).toUInt32 % 65536).toInt32) from rfl, n4])) dJ1_charAt_3b067_14 (Option.some.inj h)
def S_J0_charAt_5068e_S5 (a0 : Int32) (D : DD) : Option RT := (cI (S_J0_isLatin1_aae02_S5 D) (fun r3 D2 => (if r3 = 0 then (cI (S_J2_charAt_3b067_V5 a0 D2) (fun r6 D5 => (if vp_nar .char r6 = r6 then some (0, some (.int r6), D5) else none))) else (cI (S_J1_charAt_3b067_V5 a0 D2) (fun r10 D9 => (if vp_nar .char r10 = r10 then some (0, some (.int r10), D9) else none))))))
set_option maxRecDepth 100000 in
set_option maxHeartbeats 4000000 in
theorem c_J0_charAt_5068e_S5 (l : Launch) (G : va_G) (E : EE) (a0 : Int32) (D : DD) (r : RT) (h : S_J0_charAt_5068e_S5 a0 D = some r) : MM l G E yJ0_charAt_5068e cJ0_charAt_5068e 2 (some .char) (rmm 4) [.ref (E.1 1015), .int a0] D r := by
  refine m_of rfl (Nat.le_of_ble_eq_true rfl) ?_
  intro p e s m args below meth c X hr
  unfold S_J0_charAt_5068e_S5 at h
  refine g_aload_n X 0 (i0 := 0) dJ0_charAt_5068e_0 rfl rfl ?_
  obtain ⟨r3, D2, e1, h⟩ := cI_s h
  refine g_VK X (As := []) (rest := []) (X.2.2.2.2.2.2.2.2.2.2.2.1 5 (by decide)).1 (c_J0_isLatin1_aae02_S5 l G E  _ _ e1) kv_J0_492 ⟨rfl, rfl⟩ ⟨rfl, hd_J0_isLatin1_aae02⟩ (⟨Nat.le_of_ble_eq_true rfl, Nat.le_of_ble_eq_true rfl⟩) rfl rfl (Nat.le_of_ble_eq_true rfl) dJ0_charAt_5068e_1 ?_
  refine g_if_eq X (tgt := 16) dJ0_charAt_5068e_4 (by decide) (fun c12 => ?_) (fun c12 => ?_)
  · have h := (ite_s h).1 c12
    refine g_aload_n X 0 (i0 := 0) dJ0_charAt_5068e_16 rfl rfl ?_
    refine g_getK X (v := .ref (E.1 1035)) (X.2.2.2.2.2.2.2.2.2.2.2.1 5 (by decide)).2.2.1 fl_J0_9 dJ0_charAt_5068e_17 ?_
    refine g_iload_n X 1 (i0 := 1) dJ0_charAt_5068e_20 rfl rfl ?_
    obtain ⟨r6, D5, e4, h⟩ := cI_s h
    refine g_S X (As := [.ref (E.1 1035), .int a0]) (rest := []) (c_J2_charAt_3b067_V5 l G E a0 _ _ e4) ks_J0_498 ⟨rfl, rfl⟩ hd_J2_charAt_3b067 (⟨Nat.le_of_ble_eq_true rfl, Nat.le_of_ble_eq_true rfl⟩) rfl rfl (Nat.le_of_ble_eq_true rfl) dJ0_charAt_5068e_21 ?_
    obtain ⟨n7, h⟩ := chk_s h
    exact g_iret X hr (by first | exact congrArg Value.int n7 | (rw [show narrow .char (.int r6) = .int (vp_nar .char r6) from rfl, n7])) dJ0_charAt_5068e_24 (Option.some.inj h)
  · have h := (ite_s h).2 c12
    refine g_aload_n X 0 (i0 := 0) dJ0_charAt_5068e_7 rfl rfl ?_
    refine g_getK X (v := .ref (E.1 1035)) (X.2.2.2.2.2.2.2.2.2.2.2.1 5 (by decide)).2.2.1 fl_J0_9 dJ0_charAt_5068e_8 ?_
    refine g_iload_n X 1 (i0 := 1) dJ0_charAt_5068e_11 rfl rfl ?_
    obtain ⟨r10, D9, e8, h⟩ := cI_s h
    refine g_S X (As := [.ref (E.1 1035), .int a0]) (rest := []) (c_J1_charAt_3b067_V5 l G E a0 _ _ e8) ks_J0_495 ⟨rfl, rfl⟩ hd_J1_charAt_3b067 (⟨Nat.le_of_ble_eq_true rfl, Nat.le_of_ble_eq_true rfl⟩) rfl rfl (Nat.le_of_ble_eq_true rfl) dJ0_charAt_5068e_12 ?_
    obtain ⟨n11, h⟩ := chk_s h
    exact g_iret X hr (by first | exact congrArg Value.int n11 | (rw [show narrow .char (.int r10) = .int (vp_nar .char r10) from rfl, n11])) dJ0_charAt_5068e_15 (Option.some.inj h)
def b_X4_commonStart_text_S5_0  (D : DD) : Option ((Nat × List Int32 × DD) ⊕ RT) := some (.inl (1, [(0 : Int32)], D))
def b_X4_commonStart_text_S5_1 (x2 : Int32) (D : DD) : Option ((Nat × List Int32 × DD) ⊕ RT) := (cI (S_J0_length_8abf5_S5 D) (fun r3 D2 => (if r3 ≤ x2 then (cI (S_J0_length_8abf5_S5 D2) (fun r6 D5 => some (.inr (0, some (.int r6), D5)))) else (cI (S_J0_charAt_5068e_S5 x2 D2) (fun r9 D8 => (cI (S_X4_signIs ((D2.1 130) + x2) r9 D8) (fun r12 D11 => (if r12 = 0 then some (.inr (0, some (.int x2), D11)) else some (.inl (1, [(x2 + (1 : Int32))], D11))))))))))
def T_X4_commonStart_text_S5 (k : Nat) (ls : List Int32) (D : DD) : Option ((Nat × List Int32 × DD) ⊕ RT) := match k, ls with
  | 0, [] => b_X4_commonStart_text_S5_0  D
  | 1, [x2] => b_X4_commonStart_text_S5_1 x2 D
  | _, _ => none
def S_X4_commonStart_text_S5  (D : DD) : Option RT := run T_X4_commonStart_text_S5 FUEL 0 [] D
def hg_X4_commonStart_text_S5 (p : Program) (l : Launch) (e : Env) (s : State) (m : MethodId) (args : Array Value) (below : List Frame) (meth : Method) (c : Code) (G : va_G) (E : EE) (r : RT) (k : Nat) (ls : List Int32) (D : DD) : Prop := match k, ls with
  | 0, [] => GW p l e (rmm 5) s m args below meth c G E 3 (MQ below (QR G E s.heap.size r) args s 0 0 (fr E s.heap.size)) 0 0 D 0 [(0, .ref (E.1 80)), (1, .ref (E.1 1015))] []
  | 1, [x2] => GW p l e (rmm 5) s m args below meth c G E 3 (MQ below (QR G E s.heap.size r) args s 0 0 (fr E s.heap.size)) 0 0 D 2 [(0, .ref (E.1 80)), (1, .ref (E.1 1015)), (2, .int x2)] []
  | _, _ => True
set_option maxRecDepth 100000 in
set_option maxHeartbeats 4000000 in
theorem bl_X4_commonStart_text_S5_0 {p : Program} {l : Launch} {e : Env} {s : State} {m : MethodId} {args : Array Value} {below : List Frame} {meth : Method} {c : Code} {G : va_G} {E : EE} {r : RT} (X : CX p s m args meth c cX4_commonStart RX4 3 G E) (hr : meth.sig.returnType = (some .int))  (D : DD) (o : (Nat × List Int32 × DD) ⊕ RT) (h : b_X4_commonStart_text_S5_0  D = some o) (h1 : ∀ x, o = .inl x → hg_X4_commonStart_text_S5 p l e s m args below meth c G E r x.1 x.2.1 x.2.2) (h2 : ∀ x, o = .inr x → x = r) : GW p l e (rmm 5) s m args below meth c G E 3 (MQ below (QR G E s.heap.size r) args s 0 0 (fr E s.heap.size)) 0 0 D 0 [(0, .ref (E.1 80)), (1, .ref (E.1 1015))] [] := by
  unfold b_X4_commonStart_text_S5_0 at h
  refine g_iconst X (v := (0 : Int32)) dX4_commonStart_0 (by decide) ?_
  refine g_istore_n X (i0 := 2) (lv' := [(2, .int (0 : Int32)), (0, .ref (E.1 80)), (1, .ref (E.1 1015))]) dX4_commonStart_1 rfl (by decide) rfl ?_
  refine g_sub (lv' := [(0, .ref (E.1 80)), (1, .ref (E.1 1015)), (2, .int (0 : Int32))]) [1, 2, 0] rfl ?_
  exact h1 _ (Option.some.inj h).symm
set_option maxRecDepth 100000 in
set_option maxHeartbeats 4000000 in
theorem bl_X4_commonStart_text_S5_1 {p : Program} {l : Launch} {e : Env} {s : State} {m : MethodId} {args : Array Value} {below : List Frame} {meth : Method} {c : Code} {G : va_G} {E : EE} {r : RT} (X : CX p s m args meth c cX4_commonStart RX4 3 G E) (hr : meth.sig.returnType = (some .int)) (x2 : Int32) (D : DD) (o : (Nat × List Int32 × DD) ⊕ RT) (h : b_X4_commonStart_text_S5_1 x2 D = some o) (h1 : ∀ x, o = .inl x → hg_X4_commonStart_text_S5 p l e s m args below meth c G E r x.1 x.2.1 x.2.2) (h2 : ∀ x, o = .inr x → x = r) : GW p l e (rmm 5) s m args below meth c G E 3 (MQ below (QR G E s.heap.size r) args s 0 0 (fr E s.heap.size)) 0 0 D 2 [(0, .ref (E.1 80)), (1, .ref (E.1 1015)), (2, .int x2)] [] := by
  unfold b_X4_commonStart_text_S5_1 at h
  refine g_iload_n X 2 (i0 := 2) dX4_commonStart_2 rfl rfl ?_
  refine g_aload_n X 1 (i0 := 1) dX4_commonStart_3 rfl rfl ?_
  obtain ⟨r3, D2, e1, h⟩ := cI_s h
  refine g_VK X (As := []) (rest := [.int x2]) (X.2.2.2.2.2.2.2.2.2.2.2.1 5 (by decide)).1 (c_J0_length_8abf5_S5 l G E  _ _ e1) kv_X4_71 ⟨rfl, rfl⟩ ⟨rfl, hd_J0_length_8abf5⟩ (⟨Nat.le_of_ble_eq_true rfl, Nat.le_of_ble_eq_true rfl⟩) rfl rfl (Nat.le_of_ble_eq_true rfl) dX4_commonStart_4 ?_
  refine g_icmp_ge X (tgt := 36) dX4_commonStart_7 (by decide) (fun c14 => ?_) (fun c14 => ?_)
  · have h := (ite_s h).1 c14
    refine g_aload_n X 1 (i0 := 1) dX4_commonStart_36 rfl rfl ?_
    obtain ⟨r6, D5, e4, h⟩ := cI_s h
    refine g_VK X (As := []) (rest := []) (X.2.2.2.2.2.2.2.2.2.2.2.1 5 (by decide)).1 (c_J0_length_8abf5_S5 l G E  _ _ e4) kv_X4_71 ⟨rfl, rfl⟩ ⟨rfl, hd_J0_length_8abf5⟩ (⟨Nat.le_of_ble_eq_true rfl, Nat.le_of_ble_eq_true rfl⟩) rfl rfl (Nat.le_of_ble_eq_true rfl) dX4_commonStart_37 ?_
    exact g_iret X hr rfl dX4_commonStart_40 (h2 _ (Option.some.inj h).symm)
  · have h := (ite_s h).2 c14
    refine g_aload_n X 0 (i0 := 0) dX4_commonStart_10 rfl rfl ?_
    refine g_aload_n X 0 (i0 := 0) dX4_commonStart_11 rfl rfl ?_
    refine g_get X (D := D2) (v := .int (D2.1 130)) (T := TX4) 80 uX4 (wg_80 E _) rfl 4 (by decide) fl_X4_33 rfl rfl dX4_commonStart_12 ?_
    refine g_iload_n X 2 (i0 := 2) dX4_commonStart_15 rfl rfl ?_
    refine g_iadd X dX4_commonStart_16 ?_
    refine g_aload_n X 1 (i0 := 1) dX4_commonStart_17 rfl rfl ?_
    refine g_iload_n X 2 (i0 := 2) dX4_commonStart_18 rfl rfl ?_
    obtain ⟨r9, D8, e7, h⟩ := cI_s h
    refine g_VK X (As := [.int x2]) (rest := [.int ((D2.1 130) + x2), .ref (E.1 80)]) (X.2.2.2.2.2.2.2.2.2.2.2.1 5 (by decide)).1 (c_J0_charAt_5068e_S5 l G E x2 _ _ e7) kv_X4_82 ⟨rfl, rfl⟩ ⟨rfl, hd_J0_charAt_5068e⟩ (⟨Nat.le_of_ble_eq_true rfl, Nat.le_of_ble_eq_true rfl⟩) rfl rfl (Nat.le_of_ble_eq_true rfl) dX4_commonStart_19 ?_
    obtain ⟨r12, D11, e10, h⟩ := cI_s h
    refine g_V X (As := [.int ((D2.1 130) + x2), .int r9]) (rest := []) (c_X4_signIs l G E ((D2.1 130) + x2) r9 _ _ e10) 80 (wg_80 E _) rfl rfl kv_X4_86 ⟨rfl, rfl⟩ ⟨rfl, hd_X4_signIs⟩ (⟨Nat.le_of_ble_eq_true rfl, Nat.le_of_ble_eq_true rfl⟩) rfl rfl (Nat.le_of_ble_eq_true rfl) dX4_commonStart_22 ?_
    refine g_if_ne X (tgt := 30) dX4_commonStart_25 (by decide) (fun c13 => ?_) (fun c13 => ?_)
    · have h := (ite_s h).2 c13
      refine g_iinc X 2 (v := (x2 + (1 : Int32))) (lv' := [(2, .int (x2 + (1 : Int32))), (0, .ref (E.1 80)), (1, .ref (E.1 1015))]) dX4_commonStart_30 rfl rfl (by decide) rfl ?_
      refine g_goto X (tgt := 2) dX4_commonStart_33 (by decide) ?_
      refine g_sub (lv' := [(0, .ref (E.1 80)), (1, .ref (E.1 1015)), (2, .int (x2 + (1 : Int32)))]) [1, 2, 0] rfl ?_
      exact h1 _ (Option.some.inj h).symm
    · have h := (ite_s h).1 c13
      refine g_iload_n X 2 (i0 := 2) dX4_commonStart_28 rfl rfl ?_
      exact g_iret X hr rfl dX4_commonStart_29 (h2 _ (Option.some.inj h).symm)
set_option maxRecDepth 100000 in
set_option maxHeartbeats 4000000 in
theorem c_X4_commonStart_text_S5 (l : Launch) (G : va_G) (E : EE)  (D : DD) (r : RT) (h : S_X4_commonStart_text_S5  D = some r) : MM l G E yX4_commonStart cX4_commonStart 3 (some .int) (rmm 5) [.ref (E.1 80), .ref (E.1 1015)] D r := by
  unfold S_X4_commonStart_text_S5 at h
  refine m_of rfl (Nat.le_of_ble_eq_true rfl) ?_
  intro p e s m args below meth c X hr
  exact run_G (T := T_X4_commonStart_text_S5) (HG := hg_X4_commonStart_text_S5 p l e s m args below meth c G E r) (by
    intro k ls D o hT h1 h2
    unfold T_X4_commonStart_text_S5 at hT
    split at hT
    · exact bl_X4_commonStart_text_S5_0 X hr  D o hT h1 h2
    · exact bl_X4_commonStart_text_S5_1 X hr _ D o hT h1 h2
    · cases hT) FUEL 0 [] D h
def S_J0_isLatin1_aae02_S6  (D : DD) : Option RT := some (0, some (.int (1 : Int32)), D)
set_option maxRecDepth 100000 in
set_option maxHeartbeats 4000000 in
theorem c_J0_isLatin1_aae02_S6 (l : Launch) (G : va_G) (E : EE)  (D : DD) (r : RT) (h : S_J0_isLatin1_aae02_S6  D = some r) : MM l G E yJ0_isLatin1_aae02 cJ0_isLatin1_aae02 1 (some .boolean) (rmm 0) [.ref (E.1 1016)] D r := by
  refine m_of rfl (Nat.le_of_ble_eq_true rfl) ?_
  intro p e s m args below meth c X hr
  unfold S_J0_isLatin1_aae02_S6 at h
  refine g_gets X (v := .int (1 : Int32)) X.2.2.2.2.2.2.2.2.2.2.2.2.1 fl_J0_38 dJ0_isLatin1_aae02_0 ?_
  refine g_if_eq X (tgt := 17) dJ0_isLatin1_aae02_3 (by decide) (fun q => absurd q (by decide)) (fun _ => ?_)
  refine g_aload_n X 0 (i0 := 0) dJ0_isLatin1_aae02_6 rfl rfl ?_
  refine g_getK X (v := .int (0 : Int32)) (X.2.2.2.2.2.2.2.2.2.2.2.1 6 (by decide)).2.1 fl_J0_15 dJ0_isLatin1_aae02_7 ?_
  refine g_if_ne X (tgt := 17) dJ0_isLatin1_aae02_10 (by decide) (fun q => absurd q (by decide)) (fun _ => ?_)
  refine g_iconst X (v := (1 : Int32)) dJ0_isLatin1_aae02_13 (by decide) ?_
  refine g_goto X (tgt := 18) dJ0_isLatin1_aae02_14 (by decide) ?_
  exact g_iret X hr rfl dJ0_isLatin1_aae02_18 (Option.some.inj h)
def S_J2_length_9d52b_V6  (D : DD) : Option RT := some (0, some (.int ((4 : Int32) >>> ((1 : Int32) &&& 31))), D)
set_option maxRecDepth 100000 in
set_option maxHeartbeats 4000000 in
theorem c_J2_length_9d52b_V6 (l : Launch) (G : va_G) (E : EE)  (D : DD) (r : RT) (h : S_J2_length_9d52b_V6  D = some r) : MM l G E yJ2_length_9d52b cJ2_length_9d52b 1 (some .int) (rmm 0) [.ref (E.1 1036)] D r := by
  refine m_of rfl (Nat.le_of_ble_eq_true rfl) ?_
  intro p e s m args below meth c X hr
  unfold S_J2_length_9d52b_V6 at h
  refine g_aload_n X 0 (i0 := 0) dJ2_length_9d52b_0 rfl rfl ?_
  refine g_tlen X (X.2.2.2.2.2.2.2.2.2.2.2.1 6 (by decide)).2.2.2 (v := (4 : Int32)) (by decide) dJ2_length_9d52b_1 ?_
  refine g_iconst X (v := (1 : Int32)) dJ2_length_9d52b_2 (by decide) ?_
  refine g_ishr X dJ2_length_9d52b_3 ?_
  exact g_iret X hr rfl dJ2_length_9d52b_4 (Option.some.inj h)
def S_J2_checkIndex_2214a_V6 (a0 : Int32) (D : DD) : Option RT := (cI (S_J2_length_9d52b_V6 D) (fun r3 D2 => (cV (S_J0_checkIndex_df160 a0 r3 D2) (fun D5 => some (0, none, D5)))))
set_option maxRecDepth 100000 in
set_option maxHeartbeats 4000000 in
theorem c_J2_checkIndex_2214a_V6 (l : Launch) (G : va_G) (E : EE) (a0 : Int32) (D : DD) (r : RT) (h : S_J2_checkIndex_2214a_V6 a0 D = some r) : MM l G E yJ2_checkIndex_2214a cJ2_checkIndex_2214a 2 none (rmm 2) [.int a0, .ref (E.1 1036)] D r := by
  refine m_of rfl (Nat.le_of_ble_eq_true rfl) ?_
  intro p e s m args below meth c X hr
  unfold S_J2_checkIndex_2214a_V6 at h
  refine g_iload_n X 0 (i0 := 0) dJ2_checkIndex_2214a_0 rfl rfl ?_
  refine g_aload_n X 1 (i0 := 1) dJ2_checkIndex_2214a_1 rfl rfl ?_
  obtain ⟨r3, D2, e1, h⟩ := cI_s h
  refine g_S X (As := [.ref (E.1 1036)]) (rest := [.int a0]) (c_J2_length_9d52b_V6 l G E  _ _ e1) ks_J2_48 ⟨rfl, rfl⟩ hd_J2_length_9d52b (⟨Nat.le_of_ble_eq_true rfl, Nat.le_of_ble_eq_true rfl⟩) rfl rfl (Nat.le_of_ble_eq_true rfl) dJ2_checkIndex_2214a_2 ?_
  obtain ⟨D5, e4, h⟩ := cV_s h
  refine g_S X (As := [.int a0, .int r3]) (rest := []) (c_J0_checkIndex_df160 l G E a0 r3 _ _ e4) ks_J2_414 ⟨rfl, rfl⟩ hd_J0_checkIndex_df160 (⟨Nat.le_of_ble_eq_true rfl, Nat.le_of_ble_eq_true rfl⟩) rfl rfl (Nat.le_of_ble_eq_true rfl) dJ2_checkIndex_2214a_5 ?_
  exact g_vret X hr dJ2_checkIndex_2214a_8 (Option.some.inj h)
def S_J2_charAt_3b067_V6 (a1 : Int32) (D : DD) : Option RT := (cV (S_J2_checkIndex_2214a_V6 a1 D) (fun D2 => none))
set_option maxRecDepth 100000 in
set_option maxHeartbeats 4000000 in
theorem c_J2_charAt_3b067_V6 (l : Launch) (G : va_G) (E : EE) (a1 : Int32) (D : DD) (r : RT) (h : S_J2_charAt_3b067_V6 a1 D = some r) : MM l G E yJ2_charAt_3b067 cJ2_charAt_3b067 2 (some .char) (rmm 3) [.ref (E.1 1036), .int a1] D r := by
  refine m_of rfl (Nat.le_of_ble_eq_true rfl) ?_
  intro p e s m args below meth c X hr
  unfold S_J2_charAt_3b067_V6 at h
  refine g_iload_n X 1 (i0 := 1) dJ2_charAt_3b067_0 rfl rfl ?_
  refine g_aload_n X 0 (i0 := 0) dJ2_charAt_3b067_1 rfl rfl ?_
  obtain ⟨D2, e1, h⟩ := cV_s h
  refine g_S X (As := [.int a1, .ref (E.1 1036)]) (rest := []) (c_J2_checkIndex_2214a_V6 l G E a1 _ _ e1) ks_J2_67 ⟨rfl, rfl⟩ hd_J2_checkIndex_2214a (⟨Nat.le_of_ble_eq_true rfl, Nat.le_of_ble_eq_true rfl⟩) rfl rfl (Nat.le_of_ble_eq_true rfl) dJ2_charAt_3b067_2 ?_
  refine g_aload_n X 0 (i0 := 0) dJ2_charAt_3b067_5 rfl rfl ?_
  refine g_iload_n X 1 (i0 := 1) dJ2_charAt_3b067_6 rfl rfl ?_
  cases h
def S_J1_charAt_3b067_V6 (a1 : Int32) (D : DD) : Option RT := (cV (S_J0_checkIndex_df160 a1 (4 : Int32) D) (fun D2 => (if inB a1 4 = true then (if vp_nar .char ((((cmdB 6).getD a1.toNatClampNeg 0) &&& (255 : Int32)).toUInt32 % 65536).toInt32 = ((((cmdB 6).getD a1.toNatClampNeg 0) &&& (255 : Int32)).toUInt32 % 65536).toInt32 then some (0, some (.int ((((cmdB 6).getD a1.toNatClampNeg 0) &&& (255 : Int32)).toUInt32 % 65536).toInt32), D2) else none) else none)))
set_option maxRecDepth 100000 in
set_option maxHeartbeats 4000000 in
theorem c_J1_charAt_3b067_V6 (l : Launch) (G : va_G) (E : EE) (a1 : Int32) (D : DD) (r : RT) (h : S_J1_charAt_3b067_V6 a1 D = some r) : MM l G E yJ1_charAt_3b067 cJ1_charAt_3b067 2 (some .char) (rmm 2) [.ref (E.1 1036), .int a1] D r := by
  refine m_of rfl (Nat.le_of_ble_eq_true rfl) ?_
  intro p e s m args below meth c X hr
  unfold S_J1_charAt_3b067_V6 at h
  refine g_iload_n X 1 (i0 := 1) dJ1_charAt_3b067_0 rfl rfl ?_
  refine g_aload_n X 0 (i0 := 0) dJ1_charAt_3b067_1 rfl rfl ?_
  refine g_tlen X (X.2.2.2.2.2.2.2.2.2.2.2.1 6 (by decide)).2.2.2 (v := (4 : Int32)) (by decide) dJ1_charAt_3b067_2 ?_
  obtain ⟨D2, e1, h⟩ := cV_s h
  refine g_S X (As := [.int a1, .int (4 : Int32)]) (rest := []) (c_J0_checkIndex_df160 l G E a1 (4 : Int32) _ _ e1) ks_J1_9 ⟨rfl, rfl⟩ hd_J0_checkIndex_df160 (⟨Nat.le_of_ble_eq_true rfl, Nat.le_of_ble_eq_true rfl⟩) rfl rfl (Nat.le_of_ble_eq_true rfl) dJ1_charAt_3b067_3 ?_
  refine g_aload_n X 0 (i0 := 0) dJ1_charAt_3b067_6 rfl rfl ?_
  refine g_iload_n X 1 (i0 := 1) dJ1_charAt_3b067_7 rfl rfl ?_
  obtain ⟨b3, h⟩ := chk_s h
  refine g_tb X (X.2.2.2.2.2.2.2.2.2.2.2.1 6 (by decide)).2.2.2 (i := a1) (v := .int ((cmdB 6).getD a1.toNatClampNeg 0)) (inB_vp b3) rfl dJ1_charAt_3b067_8 ?_
  refine g_sipush X (v := (255 : Int32)) dJ1_charAt_3b067_9 (by decide) ?_
  refine g_iand X dJ1_charAt_3b067_12 ?_
  refine g_i2c X dJ1_charAt_3b067_13 ?_
  obtain ⟨n4, h⟩ := chk_s h
  exact g_iret X hr (by first | exact congrArg Value.int n4 | (rw [show narrow .char (.int ((((cmdB 6).getD a1.toNatClampNeg 0) &&& (255 : Int32)).toUInt32 % 65536).toInt32) = .int (vp_nar .char ((((cmdB 6).getD a1.toNatClampNeg 0) &&& (255 : Int32)).toUInt32 % 65536).toInt32) from rfl, n4])) dJ1_charAt_3b067_14 (Option.some.inj h)
def S_J0_charAt_5068e_S6 (a0 : Int32) (D : DD) : Option RT := (cI (S_J0_isLatin1_aae02_S6 D) (fun r3 D2 => (if r3 = 0 then (cI (S_J2_charAt_3b067_V6 a0 D2) (fun r6 D5 => (if vp_nar .char r6 = r6 then some (0, some (.int r6), D5) else none))) else (cI (S_J1_charAt_3b067_V6 a0 D2) (fun r10 D9 => (if vp_nar .char r10 = r10 then some (0, some (.int r10), D9) else none))))))
set_option maxRecDepth 100000 in
set_option maxHeartbeats 4000000 in
theorem c_J0_charAt_5068e_S6 (l : Launch) (G : va_G) (E : EE) (a0 : Int32) (D : DD) (r : RT) (h : S_J0_charAt_5068e_S6 a0 D = some r) : MM l G E yJ0_charAt_5068e cJ0_charAt_5068e 2 (some .char) (rmm 4) [.ref (E.1 1016), .int a0] D r := by
  refine m_of rfl (Nat.le_of_ble_eq_true rfl) ?_
  intro p e s m args below meth c X hr
  unfold S_J0_charAt_5068e_S6 at h
  refine g_aload_n X 0 (i0 := 0) dJ0_charAt_5068e_0 rfl rfl ?_
  obtain ⟨r3, D2, e1, h⟩ := cI_s h
  refine g_VK X (As := []) (rest := []) (X.2.2.2.2.2.2.2.2.2.2.2.1 6 (by decide)).1 (c_J0_isLatin1_aae02_S6 l G E  _ _ e1) kv_J0_492 ⟨rfl, rfl⟩ ⟨rfl, hd_J0_isLatin1_aae02⟩ (⟨Nat.le_of_ble_eq_true rfl, Nat.le_of_ble_eq_true rfl⟩) rfl rfl (Nat.le_of_ble_eq_true rfl) dJ0_charAt_5068e_1 ?_
  refine g_if_eq X (tgt := 16) dJ0_charAt_5068e_4 (by decide) (fun c12 => ?_) (fun c12 => ?_)
  · have h := (ite_s h).1 c12
    refine g_aload_n X 0 (i0 := 0) dJ0_charAt_5068e_16 rfl rfl ?_
    refine g_getK X (v := .ref (E.1 1036)) (X.2.2.2.2.2.2.2.2.2.2.2.1 6 (by decide)).2.2.1 fl_J0_9 dJ0_charAt_5068e_17 ?_
    refine g_iload_n X 1 (i0 := 1) dJ0_charAt_5068e_20 rfl rfl ?_
    obtain ⟨r6, D5, e4, h⟩ := cI_s h
    refine g_S X (As := [.ref (E.1 1036), .int a0]) (rest := []) (c_J2_charAt_3b067_V6 l G E a0 _ _ e4) ks_J0_498 ⟨rfl, rfl⟩ hd_J2_charAt_3b067 (⟨Nat.le_of_ble_eq_true rfl, Nat.le_of_ble_eq_true rfl⟩) rfl rfl (Nat.le_of_ble_eq_true rfl) dJ0_charAt_5068e_21 ?_
    obtain ⟨n7, h⟩ := chk_s h
    exact g_iret X hr (by first | exact congrArg Value.int n7 | (rw [show narrow .char (.int r6) = .int (vp_nar .char r6) from rfl, n7])) dJ0_charAt_5068e_24 (Option.some.inj h)
  · have h := (ite_s h).2 c12
    refine g_aload_n X 0 (i0 := 0) dJ0_charAt_5068e_7 rfl rfl ?_
    refine g_getK X (v := .ref (E.1 1036)) (X.2.2.2.2.2.2.2.2.2.2.2.1 6 (by decide)).2.2.1 fl_J0_9 dJ0_charAt_5068e_8 ?_
    refine g_iload_n X 1 (i0 := 1) dJ0_charAt_5068e_11 rfl rfl ?_
    obtain ⟨r10, D9, e8, h⟩ := cI_s h
    refine g_S X (As := [.ref (E.1 1036), .int a0]) (rest := []) (c_J1_charAt_3b067_V6 l G E a0 _ _ e8) ks_J0_495 ⟨rfl, rfl⟩ hd_J1_charAt_3b067 (⟨Nat.le_of_ble_eq_true rfl, Nat.le_of_ble_eq_true rfl⟩) rfl rfl (Nat.le_of_ble_eq_true rfl) dJ0_charAt_5068e_12 ?_
    obtain ⟨n11, h⟩ := chk_s h
    exact g_iret X hr (by first | exact congrArg Value.int n11 | (rw [show narrow .char (.int r10) = .int (vp_nar .char r10) from rfl, n11])) dJ0_charAt_5068e_15 (Option.some.inj h)
