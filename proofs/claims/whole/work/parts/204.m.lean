def S_X6_takeBack  (D : DD) : Option RT := (if (D.1 124) ≤ 0 then some (0, some (.int (D.1 124)), D) else (if (D.1 123) ≤ 0 then (cR (S_X6_placeAt (7 : Int32) (setI (setI D 123 (7 : Int32)) 124 ((D.1 124) - (1 : Int32)))) (fun q3 D2 => (if q3 = 18 then (cV (S_X8_copyFrom_state_ring0 D2) (fun D6 => some (0, some (.int (D6.1 124)), D6))) else (if q3 = 23 then (cV (S_X8_copyFrom_state_ring1 D2) (fun D9 => some (0, some (.int (D9.1 124)), D9))) else (if q3 = 28 then (cV (S_X8_copyFrom_state_ring2 D2) (fun D12 => some (0, some (.int (D12.1 124)), D12))) else (if q3 = 33 then (cV (S_X8_copyFrom_state_ring3 D2) (fun D15 => some (0, some (.int (D15.1 124)), D15))) else (if q3 = 38 then (cV (S_X8_copyFrom_state_ring4 D2) (fun D18 => some (0, some (.int (D18.1 124)), D18))) else (if q3 = 43 then (cV (S_X8_copyFrom_state_ring5 D2) (fun D21 => some (0, some (.int (D21.1 124)), D21))) else (if q3 = 48 then (cV (S_X8_copyFrom_state_ring6 D2) (fun D24 => some (0, some (.int (D24.1 124)), D24))) else (if q3 = 53 then (cV (S_X8_copyFrom_state_ring7 D2) (fun D27 => some (0, some (.int (D27.1 124)), D27))) else none))))))))) (fun D2 => some (0, some (.int (D2.1 124)), D2))) else (cR (S_X6_placeAt ((D.1 123) - (1 : Int32)) (setI (setI D 123 ((D.1 123) - (1 : Int32))) 124 ((D.1 124) - (1 : Int32)))) (fun q30 D29 => (if q30 = 18 then (cV (S_X8_copyFrom_state_ring0 D29) (fun D33 => some (0, some (.int (D33.1 124)), D33))) else (if q30 = 23 then (cV (S_X8_copyFrom_state_ring1 D29) (fun D36 => some (0, some (.int (D36.1 124)), D36))) else (if q30 = 28 then (cV (S_X8_copyFrom_state_ring2 D29) (fun D39 => some (0, some (.int (D39.1 124)), D39))) else (if q30 = 33 then (cV (S_X8_copyFrom_state_ring3 D29) (fun D42 => some (0, some (.int (D42.1 124)), D42))) else (if q30 = 38 then (cV (S_X8_copyFrom_state_ring4 D29) (fun D45 => some (0, some (.int (D45.1 124)), D45))) else (if q30 = 43 then (cV (S_X8_copyFrom_state_ring5 D29) (fun D48 => some (0, some (.int (D48.1 124)), D48))) else (if q30 = 48 then (cV (S_X8_copyFrom_state_ring6 D29) (fun D51 => some (0, some (.int (D51.1 124)), D51))) else (if q30 = 53 then (cV (S_X8_copyFrom_state_ring7 D29) (fun D54 => some (0, some (.int (D54.1 124)), D54))) else none))))))))) (fun D29 => some (0, some (.int (D29.1 124)), D29)))))
set_option maxRecDepth 100000 in
set_option maxHeartbeats 4000000 in
theorem c_X6_takeBack (l : Launch) (G : va_G) (E : EE)  (D : DD) (r : RT) (h : S_X6_takeBack  D = some r) : MM l G E yX6_takeBack cX6_takeBack 3 (some .int) (rmm 2) [.ref (E.1 16), .ref (E.1 1)] D r := by
  refine m_of rfl (Nat.le_of_ble_eq_true rfl) ?_
  intro p e s m args below meth c X hr
  unfold S_X6_takeBack at h
  refine g_aload_n X 0 (i0 := 0) dX6_takeBack_0 rfl rfl ?_
  refine g_get X (D := D) (v := .int (D.1 124)) (T := TX6) 16 uX6 (wg_16 E _) rfl 2 (by decide) fl_X6_30 rfl rfl dX6_takeBack_1 ?_
  refine g_if_le X (tgt := 57) dX6_takeBack_4 (by decide) (fun c56 => ?_) (fun c56 => ?_)
  · have h := (ite_s h).1 c56
    refine g_aload_n X 0 (i0 := 0) dX6_takeBack_57 rfl rfl ?_
    refine g_get X (D := D) (v := .int (D.1 124)) (T := TX6) 16 uX6 (wg_16 E _) rfl 2 (by decide) fl_X6_30 rfl rfl dX6_takeBack_58 ?_
    exact g_iret X hr rfl dX6_takeBack_61 (Option.some.inj h)
  · have h := (ite_s h).2 c56
    refine g_aload_n X 0 (i0 := 0) dX6_takeBack_7 rfl rfl ?_
    refine g_aload_n X 0 (i0 := 0) dX6_takeBack_8 rfl rfl ?_
    refine g_get X (D := D) (v := .int (D.1 123)) (T := TX6) 16 uX6 (wg_16 E _) rfl 1 (by decide) fl_X6_18 rfl rfl dX6_takeBack_9 ?_
    refine g_if_le X (tgt := 24) dX6_takeBack_12 (by decide) (fun c55 => ?_) (fun c55 => ?_)
    · have h := (ite_s h).1 c55
      refine g_bipush X (v := (7 : Int32)) dX6_takeBack_24 (by decide) ?_
      refine g_put X (D := D) (v := .int (7 : Int32)) (T := TX6) (D' := (setI D 123 (7 : Int32))) 16 uX6 tyX6 tyX6_ok nmX6 (wg_16 E _) rfl 1 (by decide) fl_X6_18 rfl rfl rfl rfl (Nat.le_of_ble_eq_true rfl) (ws_I_123 E _ _) dX6_takeBack_26 ?_
      refine g_aload_n X 0 (i0 := 0) dX6_takeBack_29 rfl rfl ?_
      refine g_dup X dX6_takeBack_30 rfl ?_
      refine g_get X (D := (setI D 123 (7 : Int32))) (v := .int (D.1 124)) (T := TX6) 16 uX6 (wg_16 E _) rfl 2 (by decide) fl_X6_30 rfl rfl dX6_takeBack_31 ?_
      refine g_iconst X (v := (1 : Int32)) dX6_takeBack_34 (by decide) ?_
      refine g_isub X dX6_takeBack_35 ?_
      refine g_put X (D := (setI D 123 (7 : Int32))) (v := .int ((D.1 124) - (1 : Int32))) (T := TX6) (D' := (setI (setI D 123 (7 : Int32)) 124 ((D.1 124) - (1 : Int32)))) 16 uX6 tyX6 tyX6_ok nmX6 (wg_16 E _) rfl 2 (by decide) fl_X6_30 rfl rfl rfl rfl (Nat.le_of_ble_eq_true rfl) (ws_I_124 E _ _) dX6_takeBack_36 ?_
      refine g_aload_n X 0 (i0 := 0) dX6_takeBack_39 rfl rfl ?_
      refine g_aload_n X 0 (i0 := 0) dX6_takeBack_40 rfl rfl ?_
      refine g_get X (D := (setI (setI D 123 (7 : Int32)) 124 ((D.1 124) - (1 : Int32)))) (v := .int (7 : Int32)) (T := TX6) 16 uX6 (wg_16 E _) rfl 1 (by decide) fl_X6_18 rfl rfl dX6_takeBack_41 ?_
      rcases cR_s h with ⟨q3, D2, e1, h⟩ | ⟨D2, e1, h⟩
      · by_cases u4 : q3 = 18
        · have hh := (ite_s h).1 u4
          clear h
          subst u4
          have h := hh
          clear hh
          refine g_V X (As := [.int (7 : Int32)]) (rest := []) (c_X6_placeAt l G E (7 : Int32) _ _ e1) 16 (wg_16 E _) rfl rfl kv_X6_22 ⟨rfl, rfl⟩ ⟨rfl, hd_X6_placeAt⟩ (⟨Nat.le_of_ble_eq_true rfl, Nat.le_of_ble_eq_true rfl⟩) rfl rfl (Nat.le_of_ble_eq_true rfl) dX6_takeBack_44 ?_
          refine g_astore_n X (i0 := 2) (lv' := [(2, .ref (E.1 18)), (0, .ref (E.1 16)), (1, .ref (E.1 1))]) dX6_takeBack_47 rfl (by decide) rfl ?_
          refine g_aload_n X 0 (i0 := 2) dX6_takeBack_48 rfl rfl ?_
          refine g_ifnull X dX6_takeBack_49 ?_
          refine g_aload_n X 2 (i0 := 1) dX6_takeBack_52 rfl rfl ?_
          refine g_aload_n X 0 (i0 := 2) dX6_takeBack_53 rfl rfl ?_
          obtain ⟨D6, e5, h⟩ := cV_s h
          refine g_V X (As := [.ref (E.1 18)]) (rest := []) (c_X8_copyFrom_state_ring0 l G E  _ _ e5) 1 (wg_1 E _) rfl rfl kv_X6_26 ⟨rfl, rfl⟩ ⟨rfl, hd_X8_copyFrom⟩ (⟨Nat.le_of_ble_eq_true rfl, Nat.le_of_ble_eq_true rfl⟩) rfl rfl (Nat.le_of_ble_eq_true rfl) dX6_takeBack_54 ?_
          refine g_aload_n X 1 (i0 := 0) dX6_takeBack_57 rfl rfl ?_
          refine g_get X (D := D6) (v := .int (D6.1 124)) (T := TX6) 16 uX6 (wg_16 E _) rfl 2 (by decide) fl_X6_30 rfl rfl dX6_takeBack_58 ?_
          exact g_iret X hr rfl dX6_takeBack_61 (Option.some.inj h)
        have h := (ite_s h).2 u4
        by_cases u7 : q3 = 23
        · have hh := (ite_s h).1 u7
          clear h
          subst u7
          have h := hh
          clear hh
          refine g_V X (As := [.int (7 : Int32)]) (rest := []) (c_X6_placeAt l G E (7 : Int32) _ _ e1) 16 (wg_16 E _) rfl rfl kv_X6_22 ⟨rfl, rfl⟩ ⟨rfl, hd_X6_placeAt⟩ (⟨Nat.le_of_ble_eq_true rfl, Nat.le_of_ble_eq_true rfl⟩) rfl rfl (Nat.le_of_ble_eq_true rfl) dX6_takeBack_44 ?_
          refine g_astore_n X (i0 := 2) (lv' := [(2, .ref (E.1 23)), (0, .ref (E.1 16)), (1, .ref (E.1 1))]) dX6_takeBack_47 rfl (by decide) rfl ?_
          refine g_aload_n X 0 (i0 := 2) dX6_takeBack_48 rfl rfl ?_
          refine g_ifnull X dX6_takeBack_49 ?_
          refine g_aload_n X 2 (i0 := 1) dX6_takeBack_52 rfl rfl ?_
          refine g_aload_n X 0 (i0 := 2) dX6_takeBack_53 rfl rfl ?_
          obtain ⟨D9, e8, h⟩ := cV_s h
          refine g_V X (As := [.ref (E.1 23)]) (rest := []) (c_X8_copyFrom_state_ring1 l G E  _ _ e8) 1 (wg_1 E _) rfl rfl kv_X6_26 ⟨rfl, rfl⟩ ⟨rfl, hd_X8_copyFrom⟩ (⟨Nat.le_of_ble_eq_true rfl, Nat.le_of_ble_eq_true rfl⟩) rfl rfl (Nat.le_of_ble_eq_true rfl) dX6_takeBack_54 ?_
          refine g_aload_n X 1 (i0 := 0) dX6_takeBack_57 rfl rfl ?_
          refine g_get X (D := D9) (v := .int (D9.1 124)) (T := TX6) 16 uX6 (wg_16 E _) rfl 2 (by decide) fl_X6_30 rfl rfl dX6_takeBack_58 ?_
          exact g_iret X hr rfl dX6_takeBack_61 (Option.some.inj h)
        have h := (ite_s h).2 u7
        by_cases u10 : q3 = 28
        · have hh := (ite_s h).1 u10
          clear h
          subst u10
          have h := hh
          clear hh
          refine g_V X (As := [.int (7 : Int32)]) (rest := []) (c_X6_placeAt l G E (7 : Int32) _ _ e1) 16 (wg_16 E _) rfl rfl kv_X6_22 ⟨rfl, rfl⟩ ⟨rfl, hd_X6_placeAt⟩ (⟨Nat.le_of_ble_eq_true rfl, Nat.le_of_ble_eq_true rfl⟩) rfl rfl (Nat.le_of_ble_eq_true rfl) dX6_takeBack_44 ?_
          refine g_astore_n X (i0 := 2) (lv' := [(2, .ref (E.1 28)), (0, .ref (E.1 16)), (1, .ref (E.1 1))]) dX6_takeBack_47 rfl (by decide) rfl ?_
          refine g_aload_n X 0 (i0 := 2) dX6_takeBack_48 rfl rfl ?_
          refine g_ifnull X dX6_takeBack_49 ?_
          refine g_aload_n X 2 (i0 := 1) dX6_takeBack_52 rfl rfl ?_
          refine g_aload_n X 0 (i0 := 2) dX6_takeBack_53 rfl rfl ?_
          obtain ⟨D12, e11, h⟩ := cV_s h
          refine g_V X (As := [.ref (E.1 28)]) (rest := []) (c_X8_copyFrom_state_ring2 l G E  _ _ e11) 1 (wg_1 E _) rfl rfl kv_X6_26 ⟨rfl, rfl⟩ ⟨rfl, hd_X8_copyFrom⟩ (⟨Nat.le_of_ble_eq_true rfl, Nat.le_of_ble_eq_true rfl⟩) rfl rfl (Nat.le_of_ble_eq_true rfl) dX6_takeBack_54 ?_
          refine g_aload_n X 1 (i0 := 0) dX6_takeBack_57 rfl rfl ?_
          refine g_get X (D := D12) (v := .int (D12.1 124)) (T := TX6) 16 uX6 (wg_16 E _) rfl 2 (by decide) fl_X6_30 rfl rfl dX6_takeBack_58 ?_
          exact g_iret X hr rfl dX6_takeBack_61 (Option.some.inj h)
        have h := (ite_s h).2 u10
        by_cases u13 : q3 = 33
        · have hh := (ite_s h).1 u13
          clear h
          subst u13
          have h := hh
          clear hh
          refine g_V X (As := [.int (7 : Int32)]) (rest := []) (c_X6_placeAt l G E (7 : Int32) _ _ e1) 16 (wg_16 E _) rfl rfl kv_X6_22 ⟨rfl, rfl⟩ ⟨rfl, hd_X6_placeAt⟩ (⟨Nat.le_of_ble_eq_true rfl, Nat.le_of_ble_eq_true rfl⟩) rfl rfl (Nat.le_of_ble_eq_true rfl) dX6_takeBack_44 ?_
          refine g_astore_n X (i0 := 2) (lv' := [(2, .ref (E.1 33)), (0, .ref (E.1 16)), (1, .ref (E.1 1))]) dX6_takeBack_47 rfl (by decide) rfl ?_
          refine g_aload_n X 0 (i0 := 2) dX6_takeBack_48 rfl rfl ?_
          refine g_ifnull X dX6_takeBack_49 ?_
          refine g_aload_n X 2 (i0 := 1) dX6_takeBack_52 rfl rfl ?_
          refine g_aload_n X 0 (i0 := 2) dX6_takeBack_53 rfl rfl ?_
          obtain ⟨D15, e14, h⟩ := cV_s h
          refine g_V X (As := [.ref (E.1 33)]) (rest := []) (c_X8_copyFrom_state_ring3 l G E  _ _ e14) 1 (wg_1 E _) rfl rfl kv_X6_26 ⟨rfl, rfl⟩ ⟨rfl, hd_X8_copyFrom⟩ (⟨Nat.le_of_ble_eq_true rfl, Nat.le_of_ble_eq_true rfl⟩) rfl rfl (Nat.le_of_ble_eq_true rfl) dX6_takeBack_54 ?_
          refine g_aload_n X 1 (i0 := 0) dX6_takeBack_57 rfl rfl ?_
          refine g_get X (D := D15) (v := .int (D15.1 124)) (T := TX6) 16 uX6 (wg_16 E _) rfl 2 (by decide) fl_X6_30 rfl rfl dX6_takeBack_58 ?_
          exact g_iret X hr rfl dX6_takeBack_61 (Option.some.inj h)
        have h := (ite_s h).2 u13
        by_cases u16 : q3 = 38
        · have hh := (ite_s h).1 u16
          clear h
          subst u16
          have h := hh
          clear hh
          refine g_V X (As := [.int (7 : Int32)]) (rest := []) (c_X6_placeAt l G E (7 : Int32) _ _ e1) 16 (wg_16 E _) rfl rfl kv_X6_22 ⟨rfl, rfl⟩ ⟨rfl, hd_X6_placeAt⟩ (⟨Nat.le_of_ble_eq_true rfl, Nat.le_of_ble_eq_true rfl⟩) rfl rfl (Nat.le_of_ble_eq_true rfl) dX6_takeBack_44 ?_
          refine g_astore_n X (i0 := 2) (lv' := [(2, .ref (E.1 38)), (0, .ref (E.1 16)), (1, .ref (E.1 1))]) dX6_takeBack_47 rfl (by decide) rfl ?_
          refine g_aload_n X 0 (i0 := 2) dX6_takeBack_48 rfl rfl ?_
          refine g_ifnull X dX6_takeBack_49 ?_
          refine g_aload_n X 2 (i0 := 1) dX6_takeBack_52 rfl rfl ?_
          refine g_aload_n X 0 (i0 := 2) dX6_takeBack_53 rfl rfl ?_
          obtain ⟨D18, e17, h⟩ := cV_s h
          refine g_V X (As := [.ref (E.1 38)]) (rest := []) (c_X8_copyFrom_state_ring4 l G E  _ _ e17) 1 (wg_1 E _) rfl rfl kv_X6_26 ⟨rfl, rfl⟩ ⟨rfl, hd_X8_copyFrom⟩ (⟨Nat.le_of_ble_eq_true rfl, Nat.le_of_ble_eq_true rfl⟩) rfl rfl (Nat.le_of_ble_eq_true rfl) dX6_takeBack_54 ?_
          refine g_aload_n X 1 (i0 := 0) dX6_takeBack_57 rfl rfl ?_
          refine g_get X (D := D18) (v := .int (D18.1 124)) (T := TX6) 16 uX6 (wg_16 E _) rfl 2 (by decide) fl_X6_30 rfl rfl dX6_takeBack_58 ?_
          exact g_iret X hr rfl dX6_takeBack_61 (Option.some.inj h)
        have h := (ite_s h).2 u16
        by_cases u19 : q3 = 43
        · have hh := (ite_s h).1 u19
          clear h
          subst u19
          have h := hh
          clear hh
          refine g_V X (As := [.int (7 : Int32)]) (rest := []) (c_X6_placeAt l G E (7 : Int32) _ _ e1) 16 (wg_16 E _) rfl rfl kv_X6_22 ⟨rfl, rfl⟩ ⟨rfl, hd_X6_placeAt⟩ (⟨Nat.le_of_ble_eq_true rfl, Nat.le_of_ble_eq_true rfl⟩) rfl rfl (Nat.le_of_ble_eq_true rfl) dX6_takeBack_44 ?_
          refine g_astore_n X (i0 := 2) (lv' := [(2, .ref (E.1 43)), (0, .ref (E.1 16)), (1, .ref (E.1 1))]) dX6_takeBack_47 rfl (by decide) rfl ?_
          refine g_aload_n X 0 (i0 := 2) dX6_takeBack_48 rfl rfl ?_
          refine g_ifnull X dX6_takeBack_49 ?_
          refine g_aload_n X 2 (i0 := 1) dX6_takeBack_52 rfl rfl ?_
          refine g_aload_n X 0 (i0 := 2) dX6_takeBack_53 rfl rfl ?_
          obtain ⟨D21, e20, h⟩ := cV_s h
          refine g_V X (As := [.ref (E.1 43)]) (rest := []) (c_X8_copyFrom_state_ring5 l G E  _ _ e20) 1 (wg_1 E _) rfl rfl kv_X6_26 ⟨rfl, rfl⟩ ⟨rfl, hd_X8_copyFrom⟩ (⟨Nat.le_of_ble_eq_true rfl, Nat.le_of_ble_eq_true rfl⟩) rfl rfl (Nat.le_of_ble_eq_true rfl) dX6_takeBack_54 ?_
          refine g_aload_n X 1 (i0 := 0) dX6_takeBack_57 rfl rfl ?_
          refine g_get X (D := D21) (v := .int (D21.1 124)) (T := TX6) 16 uX6 (wg_16 E _) rfl 2 (by decide) fl_X6_30 rfl rfl dX6_takeBack_58 ?_
          exact g_iret X hr rfl dX6_takeBack_61 (Option.some.inj h)
        have h := (ite_s h).2 u19
        by_cases u22 : q3 = 48
        · have hh := (ite_s h).1 u22
          clear h
          subst u22
          have h := hh
          clear hh
          refine g_V X (As := [.int (7 : Int32)]) (rest := []) (c_X6_placeAt l G E (7 : Int32) _ _ e1) 16 (wg_16 E _) rfl rfl kv_X6_22 ⟨rfl, rfl⟩ ⟨rfl, hd_X6_placeAt⟩ (⟨Nat.le_of_ble_eq_true rfl, Nat.le_of_ble_eq_true rfl⟩) rfl rfl (Nat.le_of_ble_eq_true rfl) dX6_takeBack_44 ?_
          refine g_astore_n X (i0 := 2) (lv' := [(2, .ref (E.1 48)), (0, .ref (E.1 16)), (1, .ref (E.1 1))]) dX6_takeBack_47 rfl (by decide) rfl ?_
          refine g_aload_n X 0 (i0 := 2) dX6_takeBack_48 rfl rfl ?_
          refine g_ifnull X dX6_takeBack_49 ?_
          refine g_aload_n X 2 (i0 := 1) dX6_takeBack_52 rfl rfl ?_
          refine g_aload_n X 0 (i0 := 2) dX6_takeBack_53 rfl rfl ?_
          obtain ⟨D24, e23, h⟩ := cV_s h
          refine g_V X (As := [.ref (E.1 48)]) (rest := []) (c_X8_copyFrom_state_ring6 l G E  _ _ e23) 1 (wg_1 E _) rfl rfl kv_X6_26 ⟨rfl, rfl⟩ ⟨rfl, hd_X8_copyFrom⟩ (⟨Nat.le_of_ble_eq_true rfl, Nat.le_of_ble_eq_true rfl⟩) rfl rfl (Nat.le_of_ble_eq_true rfl) dX6_takeBack_54 ?_
          refine g_aload_n X 1 (i0 := 0) dX6_takeBack_57 rfl rfl ?_
          refine g_get X (D := D24) (v := .int (D24.1 124)) (T := TX6) 16 uX6 (wg_16 E _) rfl 2 (by decide) fl_X6_30 rfl rfl dX6_takeBack_58 ?_
          exact g_iret X hr rfl dX6_takeBack_61 (Option.some.inj h)
        have h := (ite_s h).2 u22
        by_cases u25 : q3 = 53
        · have hh := (ite_s h).1 u25
          clear h
          subst u25
          have h := hh
          clear hh
          refine g_V X (As := [.int (7 : Int32)]) (rest := []) (c_X6_placeAt l G E (7 : Int32) _ _ e1) 16 (wg_16 E _) rfl rfl kv_X6_22 ⟨rfl, rfl⟩ ⟨rfl, hd_X6_placeAt⟩ (⟨Nat.le_of_ble_eq_true rfl, Nat.le_of_ble_eq_true rfl⟩) rfl rfl (Nat.le_of_ble_eq_true rfl) dX6_takeBack_44 ?_
          refine g_astore_n X (i0 := 2) (lv' := [(2, .ref (E.1 53)), (0, .ref (E.1 16)), (1, .ref (E.1 1))]) dX6_takeBack_47 rfl (by decide) rfl ?_
          refine g_aload_n X 0 (i0 := 2) dX6_takeBack_48 rfl rfl ?_
          refine g_ifnull X dX6_takeBack_49 ?_
          refine g_aload_n X 2 (i0 := 1) dX6_takeBack_52 rfl rfl ?_
          refine g_aload_n X 0 (i0 := 2) dX6_takeBack_53 rfl rfl ?_
          obtain ⟨D27, e26, h⟩ := cV_s h
          refine g_V X (As := [.ref (E.1 53)]) (rest := []) (c_X8_copyFrom_state_ring7 l G E  _ _ e26) 1 (wg_1 E _) rfl rfl kv_X6_26 ⟨rfl, rfl⟩ ⟨rfl, hd_X8_copyFrom⟩ (⟨Nat.le_of_ble_eq_true rfl, Nat.le_of_ble_eq_true rfl⟩) rfl rfl (Nat.le_of_ble_eq_true rfl) dX6_takeBack_54 ?_
          refine g_aload_n X 1 (i0 := 0) dX6_takeBack_57 rfl rfl ?_
          refine g_get X (D := D27) (v := .int (D27.1 124)) (T := TX6) 16 uX6 (wg_16 E _) rfl 2 (by decide) fl_X6_30 rfl rfl dX6_takeBack_58 ?_
          exact g_iret X hr rfl dX6_takeBack_61 (Option.some.inj h)
        have h := (ite_s h).2 u25
        cases h
      · refine g_V X (As := [.int (7 : Int32)]) (rest := []) (c_X6_placeAt l G E (7 : Int32) _ _ e1) 16 (wg_16 E _) rfl rfl kv_X6_22 ⟨rfl, rfl⟩ ⟨rfl, hd_X6_placeAt⟩ (⟨Nat.le_of_ble_eq_true rfl, Nat.le_of_ble_eq_true rfl⟩) rfl rfl (Nat.le_of_ble_eq_true rfl) dX6_takeBack_44 ?_
        refine g_astore_nN X (i0 := 2) (lv' := [(2, .null), (0, .ref (E.1 16)), (1, .ref (E.1 1))]) dX6_takeBack_47 rfl (by decide) rfl ?_
        refine g_aload_nN X 0 (i0 := 2) dX6_takeBack_48 rfl rfl ?_
        refine g_ifnullN X (tgt := 57) dX6_takeBack_49 (by decide) ?_
        refine g_aload_n X 1 (i0 := 0) dX6_takeBack_57 rfl rfl ?_
        refine g_get X (D := D2) (v := .int (D2.1 124)) (T := TX6) 16 uX6 (wg_16 E _) rfl 2 (by decide) fl_X6_30 rfl rfl dX6_takeBack_58 ?_
        exact g_iret X hr rfl dX6_takeBack_61 (Option.some.inj h)
    · have h := (ite_s h).2 c55
      refine g_aload_n X 0 (i0 := 0) dX6_takeBack_15 rfl rfl ?_
      refine g_get X (D := D) (v := .int (D.1 123)) (T := TX6) 16 uX6 (wg_16 E _) rfl 1 (by decide) fl_X6_18 rfl rfl dX6_takeBack_16 ?_
      refine g_iconst X (v := (1 : Int32)) dX6_takeBack_19 (by decide) ?_
      refine g_isub X dX6_takeBack_20 ?_
      refine g_goto X (tgt := 26) dX6_takeBack_21 (by decide) ?_
      refine g_put X (D := D) (v := .int ((D.1 123) - (1 : Int32))) (T := TX6) (D' := (setI D 123 ((D.1 123) - (1 : Int32)))) 16 uX6 tyX6 tyX6_ok nmX6 (wg_16 E _) rfl 1 (by decide) fl_X6_18 rfl rfl rfl rfl (Nat.le_of_ble_eq_true rfl) (ws_I_123 E _ _) dX6_takeBack_26 ?_
      refine g_aload_n X 0 (i0 := 0) dX6_takeBack_29 rfl rfl ?_
      refine g_dup X dX6_takeBack_30 rfl ?_
      refine g_get X (D := (setI D 123 ((D.1 123) - (1 : Int32)))) (v := .int (D.1 124)) (T := TX6) 16 uX6 (wg_16 E _) rfl 2 (by decide) fl_X6_30 rfl rfl dX6_takeBack_31 ?_
      refine g_iconst X (v := (1 : Int32)) dX6_takeBack_34 (by decide) ?_
      refine g_isub X dX6_takeBack_35 ?_
      refine g_put X (D := (setI D 123 ((D.1 123) - (1 : Int32)))) (v := .int ((D.1 124) - (1 : Int32))) (T := TX6) (D' := (setI (setI D 123 ((D.1 123) - (1 : Int32))) 124 ((D.1 124) - (1 : Int32)))) 16 uX6 tyX6 tyX6_ok nmX6 (wg_16 E _) rfl 2 (by decide) fl_X6_30 rfl rfl rfl rfl (Nat.le_of_ble_eq_true rfl) (ws_I_124 E _ _) dX6_takeBack_36 ?_
      refine g_aload_n X 0 (i0 := 0) dX6_takeBack_39 rfl rfl ?_
      refine g_aload_n X 0 (i0 := 0) dX6_takeBack_40 rfl rfl ?_
      refine g_get X (D := (setI (setI D 123 ((D.1 123) - (1 : Int32))) 124 ((D.1 124) - (1 : Int32)))) (v := .int ((D.1 123) - (1 : Int32))) (T := TX6) 16 uX6 (wg_16 E _) rfl 1 (by decide) fl_X6_18 rfl rfl dX6_takeBack_41 ?_
      rcases cR_s h with ⟨q30, D29, e28, h⟩ | ⟨D29, e28, h⟩
      · by_cases u31 : q30 = 18
        · have hh := (ite_s h).1 u31
          clear h
          subst u31
          have h := hh
          clear hh
          refine g_V X (As := [.int ((D.1 123) - (1 : Int32))]) (rest := []) (c_X6_placeAt l G E ((D.1 123) - (1 : Int32)) _ _ e28) 16 (wg_16 E _) rfl rfl kv_X6_22 ⟨rfl, rfl⟩ ⟨rfl, hd_X6_placeAt⟩ (⟨Nat.le_of_ble_eq_true rfl, Nat.le_of_ble_eq_true rfl⟩) rfl rfl (Nat.le_of_ble_eq_true rfl) dX6_takeBack_44 ?_
          refine g_astore_n X (i0 := 2) (lv' := [(2, .ref (E.1 18)), (0, .ref (E.1 16)), (1, .ref (E.1 1))]) dX6_takeBack_47 rfl (by decide) rfl ?_
          refine g_aload_n X 0 (i0 := 2) dX6_takeBack_48 rfl rfl ?_
          refine g_ifnull X dX6_takeBack_49 ?_
          refine g_aload_n X 2 (i0 := 1) dX6_takeBack_52 rfl rfl ?_
          refine g_aload_n X 0 (i0 := 2) dX6_takeBack_53 rfl rfl ?_
          obtain ⟨D33, e32, h⟩ := cV_s h
          refine g_V X (As := [.ref (E.1 18)]) (rest := []) (c_X8_copyFrom_state_ring0 l G E  _ _ e32) 1 (wg_1 E _) rfl rfl kv_X6_26 ⟨rfl, rfl⟩ ⟨rfl, hd_X8_copyFrom⟩ (⟨Nat.le_of_ble_eq_true rfl, Nat.le_of_ble_eq_true rfl⟩) rfl rfl (Nat.le_of_ble_eq_true rfl) dX6_takeBack_54 ?_
          refine g_aload_n X 1 (i0 := 0) dX6_takeBack_57 rfl rfl ?_
          refine g_get X (D := D33) (v := .int (D33.1 124)) (T := TX6) 16 uX6 (wg_16 E _) rfl 2 (by decide) fl_X6_30 rfl rfl dX6_takeBack_58 ?_
          exact g_iret X hr rfl dX6_takeBack_61 (Option.some.inj h)
        have h := (ite_s h).2 u31
        by_cases u34 : q30 = 23
        · have hh := (ite_s h).1 u34
          clear h
          subst u34
          have h := hh
          clear hh
          refine g_V X (As := [.int ((D.1 123) - (1 : Int32))]) (rest := []) (c_X6_placeAt l G E ((D.1 123) - (1 : Int32)) _ _ e28) 16 (wg_16 E _) rfl rfl kv_X6_22 ⟨rfl, rfl⟩ ⟨rfl, hd_X6_placeAt⟩ (⟨Nat.le_of_ble_eq_true rfl, Nat.le_of_ble_eq_true rfl⟩) rfl rfl (Nat.le_of_ble_eq_true rfl) dX6_takeBack_44 ?_
          refine g_astore_n X (i0 := 2) (lv' := [(2, .ref (E.1 23)), (0, .ref (E.1 16)), (1, .ref (E.1 1))]) dX6_takeBack_47 rfl (by decide) rfl ?_
          refine g_aload_n X 0 (i0 := 2) dX6_takeBack_48 rfl rfl ?_
          refine g_ifnull X dX6_takeBack_49 ?_
          refine g_aload_n X 2 (i0 := 1) dX6_takeBack_52 rfl rfl ?_
          refine g_aload_n X 0 (i0 := 2) dX6_takeBack_53 rfl rfl ?_
          obtain ⟨D36, e35, h⟩ := cV_s h
          refine g_V X (As := [.ref (E.1 23)]) (rest := []) (c_X8_copyFrom_state_ring1 l G E  _ _ e35) 1 (wg_1 E _) rfl rfl kv_X6_26 ⟨rfl, rfl⟩ ⟨rfl, hd_X8_copyFrom⟩ (⟨Nat.le_of_ble_eq_true rfl, Nat.le_of_ble_eq_true rfl⟩) rfl rfl (Nat.le_of_ble_eq_true rfl) dX6_takeBack_54 ?_
          refine g_aload_n X 1 (i0 := 0) dX6_takeBack_57 rfl rfl ?_
          refine g_get X (D := D36) (v := .int (D36.1 124)) (T := TX6) 16 uX6 (wg_16 E _) rfl 2 (by decide) fl_X6_30 rfl rfl dX6_takeBack_58 ?_
          exact g_iret X hr rfl dX6_takeBack_61 (Option.some.inj h)
        have h := (ite_s h).2 u34
        by_cases u37 : q30 = 28
        · have hh := (ite_s h).1 u37
          clear h
          subst u37
          have h := hh
          clear hh
          refine g_V X (As := [.int ((D.1 123) - (1 : Int32))]) (rest := []) (c_X6_placeAt l G E ((D.1 123) - (1 : Int32)) _ _ e28) 16 (wg_16 E _) rfl rfl kv_X6_22 ⟨rfl, rfl⟩ ⟨rfl, hd_X6_placeAt⟩ (⟨Nat.le_of_ble_eq_true rfl, Nat.le_of_ble_eq_true rfl⟩) rfl rfl (Nat.le_of_ble_eq_true rfl) dX6_takeBack_44 ?_
          refine g_astore_n X (i0 := 2) (lv' := [(2, .ref (E.1 28)), (0, .ref (E.1 16)), (1, .ref (E.1 1))]) dX6_takeBack_47 rfl (by decide) rfl ?_
          refine g_aload_n X 0 (i0 := 2) dX6_takeBack_48 rfl rfl ?_
          refine g_ifnull X dX6_takeBack_49 ?_
          refine g_aload_n X 2 (i0 := 1) dX6_takeBack_52 rfl rfl ?_
          refine g_aload_n X 0 (i0 := 2) dX6_takeBack_53 rfl rfl ?_
          obtain ⟨D39, e38, h⟩ := cV_s h
          refine g_V X (As := [.ref (E.1 28)]) (rest := []) (c_X8_copyFrom_state_ring2 l G E  _ _ e38) 1 (wg_1 E _) rfl rfl kv_X6_26 ⟨rfl, rfl⟩ ⟨rfl, hd_X8_copyFrom⟩ (⟨Nat.le_of_ble_eq_true rfl, Nat.le_of_ble_eq_true rfl⟩) rfl rfl (Nat.le_of_ble_eq_true rfl) dX6_takeBack_54 ?_
          refine g_aload_n X 1 (i0 := 0) dX6_takeBack_57 rfl rfl ?_
          refine g_get X (D := D39) (v := .int (D39.1 124)) (T := TX6) 16 uX6 (wg_16 E _) rfl 2 (by decide) fl_X6_30 rfl rfl dX6_takeBack_58 ?_
          exact g_iret X hr rfl dX6_takeBack_61 (Option.some.inj h)
        have h := (ite_s h).2 u37
        by_cases u40 : q30 = 33
        · have hh := (ite_s h).1 u40
          clear h
          subst u40
          have h := hh
          clear hh
          refine g_V X (As := [.int ((D.1 123) - (1 : Int32))]) (rest := []) (c_X6_placeAt l G E ((D.1 123) - (1 : Int32)) _ _ e28) 16 (wg_16 E _) rfl rfl kv_X6_22 ⟨rfl, rfl⟩ ⟨rfl, hd_X6_placeAt⟩ (⟨Nat.le_of_ble_eq_true rfl, Nat.le_of_ble_eq_true rfl⟩) rfl rfl (Nat.le_of_ble_eq_true rfl) dX6_takeBack_44 ?_
          refine g_astore_n X (i0 := 2) (lv' := [(2, .ref (E.1 33)), (0, .ref (E.1 16)), (1, .ref (E.1 1))]) dX6_takeBack_47 rfl (by decide) rfl ?_
          refine g_aload_n X 0 (i0 := 2) dX6_takeBack_48 rfl rfl ?_
          refine g_ifnull X dX6_takeBack_49 ?_
          refine g_aload_n X 2 (i0 := 1) dX6_takeBack_52 rfl rfl ?_
          refine g_aload_n X 0 (i0 := 2) dX6_takeBack_53 rfl rfl ?_
          obtain ⟨D42, e41, h⟩ := cV_s h
          refine g_V X (As := [.ref (E.1 33)]) (rest := []) (c_X8_copyFrom_state_ring3 l G E  _ _ e41) 1 (wg_1 E _) rfl rfl kv_X6_26 ⟨rfl, rfl⟩ ⟨rfl, hd_X8_copyFrom⟩ (⟨Nat.le_of_ble_eq_true rfl, Nat.le_of_ble_eq_true rfl⟩) rfl rfl (Nat.le_of_ble_eq_true rfl) dX6_takeBack_54 ?_
          refine g_aload_n X 1 (i0 := 0) dX6_takeBack_57 rfl rfl ?_
          refine g_get X (D := D42) (v := .int (D42.1 124)) (T := TX6) 16 uX6 (wg_16 E _) rfl 2 (by decide) fl_X6_30 rfl rfl dX6_takeBack_58 ?_
          exact g_iret X hr rfl dX6_takeBack_61 (Option.some.inj h)
        have h := (ite_s h).2 u40
        by_cases u43 : q30 = 38
        · have hh := (ite_s h).1 u43
          clear h
          subst u43
          have h := hh
          clear hh
          refine g_V X (As := [.int ((D.1 123) - (1 : Int32))]) (rest := []) (c_X6_placeAt l G E ((D.1 123) - (1 : Int32)) _ _ e28) 16 (wg_16 E _) rfl rfl kv_X6_22 ⟨rfl, rfl⟩ ⟨rfl, hd_X6_placeAt⟩ (⟨Nat.le_of_ble_eq_true rfl, Nat.le_of_ble_eq_true rfl⟩) rfl rfl (Nat.le_of_ble_eq_true rfl) dX6_takeBack_44 ?_
          refine g_astore_n X (i0 := 2) (lv' := [(2, .ref (E.1 38)), (0, .ref (E.1 16)), (1, .ref (E.1 1))]) dX6_takeBack_47 rfl (by decide) rfl ?_
          refine g_aload_n X 0 (i0 := 2) dX6_takeBack_48 rfl rfl ?_
          refine g_ifnull X dX6_takeBack_49 ?_
          refine g_aload_n X 2 (i0 := 1) dX6_takeBack_52 rfl rfl ?_
          refine g_aload_n X 0 (i0 := 2) dX6_takeBack_53 rfl rfl ?_
          obtain ⟨D45, e44, h⟩ := cV_s h
          refine g_V X (As := [.ref (E.1 38)]) (rest := []) (c_X8_copyFrom_state_ring4 l G E  _ _ e44) 1 (wg_1 E _) rfl rfl kv_X6_26 ⟨rfl, rfl⟩ ⟨rfl, hd_X8_copyFrom⟩ (⟨Nat.le_of_ble_eq_true rfl, Nat.le_of_ble_eq_true rfl⟩) rfl rfl (Nat.le_of_ble_eq_true rfl) dX6_takeBack_54 ?_
          refine g_aload_n X 1 (i0 := 0) dX6_takeBack_57 rfl rfl ?_
          refine g_get X (D := D45) (v := .int (D45.1 124)) (T := TX6) 16 uX6 (wg_16 E _) rfl 2 (by decide) fl_X6_30 rfl rfl dX6_takeBack_58 ?_
          exact g_iret X hr rfl dX6_takeBack_61 (Option.some.inj h)
        have h := (ite_s h).2 u43
        by_cases u46 : q30 = 43
        · have hh := (ite_s h).1 u46
          clear h
          subst u46
          have h := hh
          clear hh
          refine g_V X (As := [.int ((D.1 123) - (1 : Int32))]) (rest := []) (c_X6_placeAt l G E ((D.1 123) - (1 : Int32)) _ _ e28) 16 (wg_16 E _) rfl rfl kv_X6_22 ⟨rfl, rfl⟩ ⟨rfl, hd_X6_placeAt⟩ (⟨Nat.le_of_ble_eq_true rfl, Nat.le_of_ble_eq_true rfl⟩) rfl rfl (Nat.le_of_ble_eq_true rfl) dX6_takeBack_44 ?_
          refine g_astore_n X (i0 := 2) (lv' := [(2, .ref (E.1 43)), (0, .ref (E.1 16)), (1, .ref (E.1 1))]) dX6_takeBack_47 rfl (by decide) rfl ?_
          refine g_aload_n X 0 (i0 := 2) dX6_takeBack_48 rfl rfl ?_
          refine g_ifnull X dX6_takeBack_49 ?_
          refine g_aload_n X 2 (i0 := 1) dX6_takeBack_52 rfl rfl ?_
          refine g_aload_n X 0 (i0 := 2) dX6_takeBack_53 rfl rfl ?_
          obtain ⟨D48, e47, h⟩ := cV_s h
          refine g_V X (As := [.ref (E.1 43)]) (rest := []) (c_X8_copyFrom_state_ring5 l G E  _ _ e47) 1 (wg_1 E _) rfl rfl kv_X6_26 ⟨rfl, rfl⟩ ⟨rfl, hd_X8_copyFrom⟩ (⟨Nat.le_of_ble_eq_true rfl, Nat.le_of_ble_eq_true rfl⟩) rfl rfl (Nat.le_of_ble_eq_true rfl) dX6_takeBack_54 ?_
          refine g_aload_n X 1 (i0 := 0) dX6_takeBack_57 rfl rfl ?_
          refine g_get X (D := D48) (v := .int (D48.1 124)) (T := TX6) 16 uX6 (wg_16 E _) rfl 2 (by decide) fl_X6_30 rfl rfl dX6_takeBack_58 ?_
          exact g_iret X hr rfl dX6_takeBack_61 (Option.some.inj h)
        have h := (ite_s h).2 u46
        by_cases u49 : q30 = 48
        · have hh := (ite_s h).1 u49
          clear h
          subst u49
          have h := hh
          clear hh
          refine g_V X (As := [.int ((D.1 123) - (1 : Int32))]) (rest := []) (c_X6_placeAt l G E ((D.1 123) - (1 : Int32)) _ _ e28) 16 (wg_16 E _) rfl rfl kv_X6_22 ⟨rfl, rfl⟩ ⟨rfl, hd_X6_placeAt⟩ (⟨Nat.le_of_ble_eq_true rfl, Nat.le_of_ble_eq_true rfl⟩) rfl rfl (Nat.le_of_ble_eq_true rfl) dX6_takeBack_44 ?_
          refine g_astore_n X (i0 := 2) (lv' := [(2, .ref (E.1 48)), (0, .ref (E.1 16)), (1, .ref (E.1 1))]) dX6_takeBack_47 rfl (by decide) rfl ?_
          refine g_aload_n X 0 (i0 := 2) dX6_takeBack_48 rfl rfl ?_
          refine g_ifnull X dX6_takeBack_49 ?_
          refine g_aload_n X 2 (i0 := 1) dX6_takeBack_52 rfl rfl ?_
          refine g_aload_n X 0 (i0 := 2) dX6_takeBack_53 rfl rfl ?_
          obtain ⟨D51, e50, h⟩ := cV_s h
          refine g_V X (As := [.ref (E.1 48)]) (rest := []) (c_X8_copyFrom_state_ring6 l G E  _ _ e50) 1 (wg_1 E _) rfl rfl kv_X6_26 ⟨rfl, rfl⟩ ⟨rfl, hd_X8_copyFrom⟩ (⟨Nat.le_of_ble_eq_true rfl, Nat.le_of_ble_eq_true rfl⟩) rfl rfl (Nat.le_of_ble_eq_true rfl) dX6_takeBack_54 ?_
          refine g_aload_n X 1 (i0 := 0) dX6_takeBack_57 rfl rfl ?_
          refine g_get X (D := D51) (v := .int (D51.1 124)) (T := TX6) 16 uX6 (wg_16 E _) rfl 2 (by decide) fl_X6_30 rfl rfl dX6_takeBack_58 ?_
          exact g_iret X hr rfl dX6_takeBack_61 (Option.some.inj h)
        have h := (ite_s h).2 u49
        by_cases u52 : q30 = 53
        · have hh := (ite_s h).1 u52
          clear h
          subst u52
          have h := hh
          clear hh
          refine g_V X (As := [.int ((D.1 123) - (1 : Int32))]) (rest := []) (c_X6_placeAt l G E ((D.1 123) - (1 : Int32)) _ _ e28) 16 (wg_16 E _) rfl rfl kv_X6_22 ⟨rfl, rfl⟩ ⟨rfl, hd_X6_placeAt⟩ (⟨Nat.le_of_ble_eq_true rfl, Nat.le_of_ble_eq_true rfl⟩) rfl rfl (Nat.le_of_ble_eq_true rfl) dX6_takeBack_44 ?_
          refine g_astore_n X (i0 := 2) (lv' := [(2, .ref (E.1 53)), (0, .ref (E.1 16)), (1, .ref (E.1 1))]) dX6_takeBack_47 rfl (by decide) rfl ?_
          refine g_aload_n X 0 (i0 := 2) dX6_takeBack_48 rfl rfl ?_
          refine g_ifnull X dX6_takeBack_49 ?_
          refine g_aload_n X 2 (i0 := 1) dX6_takeBack_52 rfl rfl ?_
          refine g_aload_n X 0 (i0 := 2) dX6_takeBack_53 rfl rfl ?_
          obtain ⟨D54, e53, h⟩ := cV_s h
          refine g_V X (As := [.ref (E.1 53)]) (rest := []) (c_X8_copyFrom_state_ring7 l G E  _ _ e53) 1 (wg_1 E _) rfl rfl kv_X6_26 ⟨rfl, rfl⟩ ⟨rfl, hd_X8_copyFrom⟩ (⟨Nat.le_of_ble_eq_true rfl, Nat.le_of_ble_eq_true rfl⟩) rfl rfl (Nat.le_of_ble_eq_true rfl) dX6_takeBack_54 ?_
          refine g_aload_n X 1 (i0 := 0) dX6_takeBack_57 rfl rfl ?_
          refine g_get X (D := D54) (v := .int (D54.1 124)) (T := TX6) 16 uX6 (wg_16 E _) rfl 2 (by decide) fl_X6_30 rfl rfl dX6_takeBack_58 ?_
          exact g_iret X hr rfl dX6_takeBack_61 (Option.some.inj h)
        have h := (ite_s h).2 u52
        cases h
      · refine g_V X (As := [.int ((D.1 123) - (1 : Int32))]) (rest := []) (c_X6_placeAt l G E ((D.1 123) - (1 : Int32)) _ _ e28) 16 (wg_16 E _) rfl rfl kv_X6_22 ⟨rfl, rfl⟩ ⟨rfl, hd_X6_placeAt⟩ (⟨Nat.le_of_ble_eq_true rfl, Nat.le_of_ble_eq_true rfl⟩) rfl rfl (Nat.le_of_ble_eq_true rfl) dX6_takeBack_44 ?_
        refine g_astore_nN X (i0 := 2) (lv' := [(2, .null), (0, .ref (E.1 16)), (1, .ref (E.1 1))]) dX6_takeBack_47 rfl (by decide) rfl ?_
        refine g_aload_nN X 0 (i0 := 2) dX6_takeBack_48 rfl rfl ?_
        refine g_ifnullN X (tgt := 57) dX6_takeBack_49 (by decide) ?_
        refine g_aload_n X 1 (i0 := 0) dX6_takeBack_57 rfl rfl ?_
        refine g_get X (D := D29) (v := .int (D29.1 124)) (T := TX6) 16 uX6 (wg_16 E _) rfl 2 (by decide) fl_X6_30 rfl rfl dX6_takeBack_58 ?_
        exact g_iret X hr rfl dX6_takeBack_61 (Option.some.inj h)
def S_X6_forget  (D : DD) : Option RT := some (0, none, (setI D 124 (0 : Int32)))
set_option maxRecDepth 100000 in
set_option maxHeartbeats 4000000 in
theorem c_X6_forget (l : Launch) (G : va_G) (E : EE)  (D : DD) (r : RT) (h : S_X6_forget  D = some r) : MM l G E yX6_forget cX6_forget 1 none (rmm 0) [.ref (E.1 16)] D r := by
  refine m_of rfl (Nat.le_of_ble_eq_true rfl) ?_
  intro p e s m args below meth c X hr
  unfold S_X6_forget at h
  refine g_aload_n X 0 (i0 := 0) dX6_forget_0 rfl rfl ?_
  refine g_iconst X (v := (0 : Int32)) dX6_forget_1 (by decide) ?_
  refine g_put X (D := D) (v := .int (0 : Int32)) (T := TX6) (D' := (setI D 124 (0 : Int32))) 16 uX6 tyX6 tyX6_ok nmX6 (wg_16 E _) rfl 2 (by decide) fl_X6_30 rfl rfl rfl rfl (Nat.le_of_ble_eq_true rfl) (ws_I_124 E _ _) dX6_forget_2 ?_
  exact g_vret X hr dX6_forget_5 (Option.some.inj h)
theorem fl_X7_11 : Cond.fieldLink RX7 11 "StoneQuarry$Line" "signs" "[C" ∈ UT := ut 279 (by decide +kernel) (by decide +kernel)
theorem fl_X7_15 : Cond.fieldLink RX7 15 "StoneQuarry$Line" "length" "I" ∈ UT := ut 280 (by decide +kernel) (by decide +kernel)
theorem kn_X7_48 : Cond.methodLinkNest RX7 48 yX12_inRange "StoneQuarry" ∈ NEST := nst 1136 (by decide +kernel) rfl
theorem uX7 : ∀ w ∈ wsX70, w ∈ UT := ut_all (by decide +kernel) (by decide +kernel)
theorem wg_78 (E : EE) (D : DD) : (wd E D)[78]? = some (E.1 78, .inr (7, [.ref (E.1 79), .int (D.1 128)])) := rfl
theorem wg_79 (E : EE) (D : DD) : (wd E D)[79]? = some (E.1 79, .inl (E.2 2, 7, .inl (D.2.2.1 64))) := rfl
theorem ws_A_64 (E : EE) (D : DD) (f : Nat → Int32) : (wd E D).set 79 (E.1 79, .inl (E.2 2, 7, .inl f)) = wd E (setA D 64 f) := rfl
theorem ws_I_128 (E : EE) (D : DD) (v : Int32) : (wd E D).set 78 (E.1 78, .inr (7, [.ref (E.1 79), .int v])) = wd E (setI D 128 v) := rfl
def S_X7_put (a0 : Int32) (D : DD) : Option RT := (cI (S_X12_inRange (D.1 128) (0 : Int32) (6 : Int32) D) (fun r3 D2 => (if r3 = 0 then some (0, none, D2) else (if inB (D2.1 128) 7 = true then some (0, none, (setI (setA D2 64 (upd (D2.2.2.1 64) (D2.1 128).toNatClampNeg (vp_nar .char a0))) 128 ((D2.1 128) + (1 : Int32)))) else none))))
set_option maxRecDepth 100000 in
set_option maxHeartbeats 4000000 in
theorem c_X7_put (l : Launch) (G : va_G) (E : EE) (a0 : Int32) (D : DD) (r : RT) (h : S_X7_put a0 D = some r) : MM l G E yX7_put cX7_put 2 none (rmm 1) [.ref (E.1 78), .int a0] D r := by
  refine m_of rfl (Nat.le_of_ble_eq_true rfl) ?_
  intro p e s m args below meth c X hr
  unfold S_X7_put at h
  refine g_aload_n X 0 (i0 := 0) dX7_put_0 rfl rfl ?_
  refine g_get X (D := D) (v := .int (D.1 128)) (T := TX7) 78 uX7 (wg_78 E _) rfl 1 (by decide) fl_X7_15 rfl rfl dX7_put_1 ?_
  refine g_iconst X (v := (0 : Int32)) dX7_put_4 (by decide) ?_
  refine g_bipush X (v := (6 : Int32)) dX7_put_5 (by decide) ?_
  obtain ⟨r3, D2, e1, h⟩ := cI_s h
  refine g_SN X (As := [.int (D.1 128), .int (0 : Int32), .int (6 : Int32)]) (rest := []) (c_X12_inRange l G E (D.1 128) (0 : Int32) (6 : Int32) _ _ e1) wc_X12_inRange kn_X7_48 wi_RX12 wt_X12_inRange ⟨rfl, rfl⟩ hd_X12_inRange (⟨Nat.le_of_ble_eq_true rfl, Nat.le_of_ble_eq_true rfl⟩) rfl rfl (Nat.le_of_ble_eq_true rfl) dX7_put_7 ?_
  refine g_if_eq X (tgt := 33) dX7_put_10 (by decide) (fun c5 => ?_) (fun c5 => ?_)
  · have h := (ite_s h).1 c5
    exact g_vret X hr dX7_put_33 (Option.some.inj h)
  · have h := (ite_s h).2 c5
    refine g_aload_n X 0 (i0 := 0) dX7_put_13 rfl rfl ?_
    refine g_get X (D := D2) (v := .ref (E.1 79)) (T := TX7) 78 uX7 (wg_78 E _) rfl 0 (by decide) fl_X7_11 rfl rfl dX7_put_14 ?_
    refine g_aload_n X 0 (i0 := 0) dX7_put_17 rfl rfl ?_
    refine g_get X (D := D2) (v := .int (D2.1 128)) (T := TX7) 78 uX7 (wg_78 E _) rfl 1 (by decide) fl_X7_15 rfl rfl dX7_put_18 ?_
    refine g_iload_n X 1 (i0 := 1) dX7_put_21 rfl rfl ?_
    obtain ⟨b4, h⟩ := chk_s h
    refine g_cast X (D := D2) (f := (D2.2.2.1 64)) (i := (D2.1 128)) (x := a0) (D' := (setA D2 64 (upd (D2.2.2.1 64) (D2.1 128).toNatClampNeg (vp_nar .char a0)))) 79 (wg_79 E _) (inB_vp b4) (ws_A_64 E _ _) dX7_put_22 ?_
    refine g_aload_n X 0 (i0 := 0) dX7_put_23 rfl rfl ?_
    refine g_dup X dX7_put_24 rfl ?_
    refine g_get X (D := (setA D2 64 (upd (D2.2.2.1 64) (D2.1 128).toNatClampNeg (vp_nar .char a0)))) (v := .int (D2.1 128)) (T := TX7) 78 uX7 (wg_78 E _) rfl 1 (by decide) fl_X7_15 rfl rfl dX7_put_25 ?_
    refine g_iconst X (v := (1 : Int32)) dX7_put_28 (by decide) ?_
    refine g_iadd X dX7_put_29 ?_
    refine g_put X (D := (setA D2 64 (upd (D2.2.2.1 64) (D2.1 128).toNatClampNeg (vp_nar .char a0)))) (v := .int ((D2.1 128) + (1 : Int32))) (T := TX7) (D' := (setI (setA D2 64 (upd (D2.2.2.1 64) (D2.1 128).toNatClampNeg (vp_nar .char a0))) 128 ((D2.1 128) + (1 : Int32)))) 78 uX7 tyX7 tyX7_ok nmX7 (wg_78 E _) rfl 1 (by decide) fl_X7_15 rfl rfl rfl rfl (Nat.le_of_ble_eq_true rfl) (ws_I_128 E _ _) dX7_put_30 ?_
    exact g_vret X hr dX7_put_33 (Option.some.inj h)
def S_X7_digit (a0 : Int32) (D : DD) : Option RT := (if vp_nar .char (((48 : Int32) + a0).toUInt32 % 65536).toInt32 = (((48 : Int32) + a0).toUInt32 % 65536).toInt32 then some (0, some (.int (((48 : Int32) + a0).toUInt32 % 65536).toInt32), D) else none)
set_option maxRecDepth 100000 in
set_option maxHeartbeats 4000000 in
theorem c_X7_digit (l : Launch) (G : va_G) (E : EE) (a0 : Int32) (D : DD) (r : RT) (h : S_X7_digit a0 D = some r) : MM l G E yX7_digit cX7_digit 1 (some .char) (rmm 0) [.int a0] D r := by
  refine m_of rfl (Nat.le_of_ble_eq_true rfl) ?_
  intro p e s m args below meth c X hr
  unfold S_X7_digit at h
  refine g_bipush X (v := (48 : Int32)) dX7_digit_0 (by decide) ?_
  refine g_iload_n X 0 (i0 := 0) dX7_digit_2 rfl rfl ?_
  refine g_iadd X dX7_digit_3 ?_
  refine g_i2c X dX7_digit_4 ?_
  obtain ⟨n1, h⟩ := chk_s h
  exact g_iret X hr (by first | exact congrArg Value.int n1 | (rw [show narrow .char (.int (((48 : Int32) + a0).toUInt32 % 65536).toInt32) = .int (vp_nar .char (((48 : Int32) + a0).toUInt32 % 65536).toInt32) from rfl, n1])) dX7_digit_5 (Option.some.inj h)
theorem kv_X8_60 : GoodIn UT (wsV RX8 60 RX8 yX8_cellOf (Cond.code yX8_cellOf cX8_cellOf 2 (some .int) :: UT)) := gu_V (ut 765 (by decide +kernel) (by decide +kernel)) wm_X8_cellOf we_X8_cellOf wi_RX8 wc_X8_cellOf
def b_X8_chargedAt_0 (a0 : Int32) (D : DD) : Option ((Nat × List Int32 × DD) ⊕ RT) := some (.inl (1, [a0, (0 : Int32)], D))
def b_X8_chargedAt_1 (x1 : Int32) (x2 : Int32) (D : DD) : Option ((Nat × List Int32 × DD) ⊕ RT) := (if (D.1 0) ≤ x2 then some (.inr (0, some (.int (0 : Int32)), D)) else (cI (S_X8_cellOf x2 D) (fun r3 D2 => (if r3 = x1 then some (.inr (0, some (.int (1 : Int32)), D2)) else some (.inl (1, [x1, (x2 + (1 : Int32))], D2))))))
def T_X8_chargedAt (k : Nat) (ls : List Int32) (D : DD) : Option ((Nat × List Int32 × DD) ⊕ RT) := match k, ls with
  | 0, [a0] => b_X8_chargedAt_0 a0 D
  | 1, [x1, x2] => b_X8_chargedAt_1 x1 x2 D
  | _, _ => none
def S_X8_chargedAt (a0 : Int32) (D : DD) : Option RT := run T_X8_chargedAt FUEL 0 [a0] D
def hg_X8_chargedAt (p : Program) (l : Launch) (e : Env) (s : State) (m : MethodId) (args : Array Value) (below : List Frame) (meth : Method) (c : Code) (G : va_G) (E : EE) (r : RT) (k : Nat) (ls : List Int32) (D : DD) : Prop := match k, ls with
  | 0, [a0] => GW p l e (rmm 2) s m args below meth c G E 3 (MQ below (QR G E s.heap.size r) args s 0 0 (fr E s.heap.size)) 0 0 D 0 [(0, .ref (E.1 1)), (1, .int a0)] []
  | 1, [x1, x2] => GW p l e (rmm 2) s m args below meth c G E 3 (MQ below (QR G E s.heap.size r) args s 0 0 (fr E s.heap.size)) 0 0 D 2 [(0, .ref (E.1 1)), (1, .int x1), (2, .int x2)] []
  | _, _ => True
set_option maxRecDepth 100000 in
set_option maxHeartbeats 4000000 in
theorem bl_X8_chargedAt_0 {p : Program} {l : Launch} {e : Env} {s : State} {m : MethodId} {args : Array Value} {below : List Frame} {meth : Method} {c : Code} {G : va_G} {E : EE} {r : RT} (X : CX p s m args meth c cX8_chargedAt RX8 3 G E) (hr : meth.sig.returnType = (some .boolean)) (a0 : Int32) (D : DD) (o : (Nat × List Int32 × DD) ⊕ RT) (h : b_X8_chargedAt_0 a0 D = some o) (h1 : ∀ x, o = .inl x → hg_X8_chargedAt p l e s m args below meth c G E r x.1 x.2.1 x.2.2) (h2 : ∀ x, o = .inr x → x = r) : GW p l e (rmm 2) s m args below meth c G E 3 (MQ below (QR G E s.heap.size r) args s 0 0 (fr E s.heap.size)) 0 0 D 0 [(0, .ref (E.1 1)), (1, .int a0)] [] := by
  unfold b_X8_chargedAt_0 at h
  refine g_iconst X (v := (0 : Int32)) dX8_chargedAt_0 (by decide) ?_
  refine g_istore_n X (i0 := 2) (lv' := [(2, .int (0 : Int32)), (0, .ref (E.1 1)), (1, .int a0)]) dX8_chargedAt_1 rfl (by decide) rfl ?_
  refine g_sub (lv' := [(0, .ref (E.1 1)), (1, .int a0), (2, .int (0 : Int32))]) [1, 2, 0] rfl ?_
  exact h1 _ (Option.some.inj h).symm
set_option maxRecDepth 100000 in
set_option maxHeartbeats 4000000 in
theorem bl_X8_chargedAt_1 {p : Program} {l : Launch} {e : Env} {s : State} {m : MethodId} {args : Array Value} {below : List Frame} {meth : Method} {c : Code} {G : va_G} {E : EE} {r : RT} (X : CX p s m args meth c cX8_chargedAt RX8 3 G E) (hr : meth.sig.returnType = (some .boolean)) (x1 : Int32) (x2 : Int32) (D : DD) (o : (Nat × List Int32 × DD) ⊕ RT) (h : b_X8_chargedAt_1 x1 x2 D = some o) (h1 : ∀ x, o = .inl x → hg_X8_chargedAt p l e s m args below meth c G E r x.1 x.2.1 x.2.2) (h2 : ∀ x, o = .inr x → x = r) : GW p l e (rmm 2) s m args below meth c G E 3 (MQ below (QR G E s.heap.size r) args s 0 0 (fr E s.heap.size)) 0 0 D 2 [(0, .ref (E.1 1)), (1, .int x1), (2, .int x2)] [] := by
  unfold b_X8_chargedAt_1 at h
  refine g_iload_n X 2 (i0 := 2) dX8_chargedAt_2 rfl rfl ?_
  refine g_aload_n X 0 (i0 := 0) dX8_chargedAt_3 rfl rfl ?_
  refine g_get X (D := D) (v := .int (D.1 0)) (T := TX8) 1 uX8 (wg_1 E _) rfl 4 (by decide) fl_X8_36 rfl rfl dX8_chargedAt_4 ?_
  refine g_icmp_ge X (tgt := 27) dX8_chargedAt_7 (by decide) (fun c5 => ?_) (fun c5 => ?_)
  · have h := (ite_s h).1 c5
    refine g_iconst X (v := (0 : Int32)) dX8_chargedAt_27 (by decide) ?_
    exact g_iret X hr rfl dX8_chargedAt_28 (h2 _ (Option.some.inj h).symm)
  · have h := (ite_s h).2 c5
    refine g_aload_n X 0 (i0 := 0) dX8_chargedAt_10 rfl rfl ?_
    refine g_iload_n X 2 (i0 := 2) dX8_chargedAt_11 rfl rfl ?_
    obtain ⟨r3, D2, e1, h⟩ := cI_s h
    refine g_V X (As := [.int x2]) (rest := []) (c_X8_cellOf l G E x2 _ _ e1) 1 (wg_1 E _) rfl rfl kv_X8_60 ⟨rfl, rfl⟩ ⟨rfl, hd_X8_cellOf⟩ (⟨Nat.le_of_ble_eq_true rfl, Nat.le_of_ble_eq_true rfl⟩) rfl rfl (Nat.le_of_ble_eq_true rfl) dX8_chargedAt_12 ?_
    refine g_iload_n X 1 (i0 := 1) dX8_chargedAt_15 rfl rfl ?_
    refine g_icmp_ne X (tgt := 21) dX8_chargedAt_16 (by decide) (fun c4 => ?_) (fun c4 => ?_)
    · have h := (ite_s h).2 c4
      refine g_iinc X 2 (v := (x2 + (1 : Int32))) (lv' := [(2, .int (x2 + (1 : Int32))), (0, .ref (E.1 1)), (1, .int x1)]) dX8_chargedAt_21 rfl rfl (by decide) rfl ?_
      refine g_goto X (tgt := 2) dX8_chargedAt_24 (by decide) ?_
      refine g_sub (lv' := [(0, .ref (E.1 1)), (1, .int x1), (2, .int (x2 + (1 : Int32)))]) [1, 2, 0] rfl ?_
      exact h1 _ (Option.some.inj h).symm
    · have h := (ite_s h).1 c4
      refine g_iconst X (v := (1 : Int32)) dX8_chargedAt_19 (by decide) ?_
      exact g_iret X hr rfl dX8_chargedAt_20 (h2 _ (Option.some.inj h).symm)
set_option maxRecDepth 100000 in
set_option maxHeartbeats 4000000 in
theorem c_X8_chargedAt (l : Launch) (G : va_G) (E : EE) (a0 : Int32) (D : DD) (r : RT) (h : S_X8_chargedAt a0 D = some r) : MM l G E yX8_chargedAt cX8_chargedAt 3 (some .boolean) (rmm 2) [.ref (E.1 1), .int a0] D r := by
  unfold S_X8_chargedAt at h
  refine m_of rfl (Nat.le_of_ble_eq_true rfl) ?_
  intro p e s m args below meth c X hr
  exact run_G (T := T_X8_chargedAt) (HG := hg_X8_chargedAt p l e s m args below meth c G E r) (by
    intro k ls D o hT h1 h2
    unfold T_X8_chargedAt at hT
    split at hT
    · exact bl_X8_chargedAt_0 X hr _ D o hT h1 h2
    · exact bl_X8_chargedAt_1 X hr _ _ D o hT h1 h2
    · cases hT) FUEL 0 [a0] D h
def S_X8_hardnessAt (a0 : Int32) (D : DD) : Option RT := (cI (S_X12_isCell a0 D) (fun r3 D2 => (if r3 = 0 then some (0, some (.int (0 : Int32)), D2) else (if inB a0 36 = true then some (0, some (.int ((D2.2.2.1 0) a0.toNatClampNeg)), D2) else none))))
set_option maxRecDepth 100000 in
set_option maxHeartbeats 4000000 in
theorem c_X8_hardnessAt (l : Launch) (G : va_G) (E : EE) (a0 : Int32) (D : DD) (r : RT) (h : S_X8_hardnessAt a0 D = some r) : MM l G E yX8_hardnessAt cX8_hardnessAt 2 (some .int) (rmm 1) [.ref (E.1 1), .int a0] D r := by
  refine m_of rfl (Nat.le_of_ble_eq_true rfl) ?_
  intro p e s m args below meth c X hr
  unfold S_X8_hardnessAt at h
  refine g_iload_n X 1 (i0 := 1) dX8_hardnessAt_0 rfl rfl ?_
  obtain ⟨r3, D2, e1, h⟩ := cI_s h
  refine g_SN X (As := [.int a0]) (rest := []) (c_X12_isCell l G E a0 _ _ e1) wc_X12_isCell kn_X8_53 wi_RX12 wt_X12_isCell ⟨rfl, rfl⟩ hd_X12_isCell (⟨Nat.le_of_ble_eq_true rfl, Nat.le_of_ble_eq_true rfl⟩) rfl rfl (Nat.le_of_ble_eq_true rfl) dX8_hardnessAt_1 ?_
  refine g_if_eq X (tgt := 16) dX8_hardnessAt_4 (by decide) (fun c5 => ?_) (fun c5 => ?_)
  · have h := (ite_s h).1 c5
    refine g_iconst X (v := (0 : Int32)) dX8_hardnessAt_16 (by decide) ?_
    exact g_iret X hr rfl dX8_hardnessAt_17 (Option.some.inj h)
  · have h := (ite_s h).2 c5
    refine g_aload_n X 0 (i0 := 0) dX8_hardnessAt_7 rfl rfl ?_
    refine g_get X (D := D2) (v := .ref (E.1 2)) (T := TX8) 1 uX8 (wg_1 E _) rfl 0 (by decide) fl_X8_9 rfl rfl dX8_hardnessAt_8 ?_
    refine g_iload_n X 1 (i0 := 1) dX8_hardnessAt_11 rfl rfl ?_
    obtain ⟨b4, h⟩ := chk_s h
    refine g_iald X (D := D2) (f := (D2.2.2.1 0)) (i := a0) 2 (wg_2 E _) (inB_vp b4) dX8_hardnessAt_12 ?_
    refine g_goto X (tgt := 17) dX8_hardnessAt_13 (by decide) ?_
    exact g_iret X hr rfl dX8_hardnessAt_17 (Option.some.inj h)
theorem hd_X7_digit : yX7_digit.cls ≠ "java/lang/invoke/MethodHandle" ∧ yX7_digit.cls ≠ "java/lang/invoke/VarHandle" ∧ (parseMethodDescriptor yX7_digit.desc).map (fun d => d.parameters.length) = some 1 := by decide +kernel
theorem hd_X8_chargedAt : yX8_chargedAt.cls ≠ "java/lang/invoke/MethodHandle" ∧ yX8_chargedAt.cls ≠ "java/lang/invoke/VarHandle" ∧ (parseMethodDescriptor yX8_chargedAt.desc).map (fun d => d.parameters.length) = some 1 := by decide +kernel
theorem hd_X8_hardnessAt : yX8_hardnessAt.cls ≠ "java/lang/invoke/MethodHandle" ∧ yX8_hardnessAt.cls ≠ "java/lang/invoke/VarHandle" ∧ (parseMethodDescriptor yX8_hardnessAt.desc).map (fun d => d.parameters.length) = some 1 := by decide +kernel
theorem wc_X7_digit : Cond.code yX7_digit cX7_digit 1 (some .char) ∈ UT := ut 1131 (by decide +kernel) (by decide +kernel)
theorem wi_RX7 : Cond.initialized RX7 ∈ UT := ut 85 (by decide +kernel) (by decide +kernel)
theorem wt_X7_digit : Cond.static yX7_digit ∈ UT := ut 1130 (by decide +kernel) (by decide +kernel)
theorem ks_X7_37 : GoodIn UT (va_wsS RX7 37 yX7_digit (Cond.code yX7_digit cX7_digit 1 (some .char) :: UT)) := gu_S (ut 1129 (by decide +kernel) (by decide +kernel)) wt_X7_digit wi_RX7 wc_X7_digit
theorem wc_X8_chargedAt : Cond.code yX8_chargedAt cX8_chargedAt 3 (some .boolean) ∈ UT := ut 764 (by decide +kernel) (by decide +kernel)
theorem we_X8_chargedAt : Cond.selects RX8 yX8_chargedAt yX8_chargedAt ∈ UT := ut 763 (by decide +kernel) (by decide +kernel)
theorem wm_X8_chargedAt : Cond.instanceMethod yX8_chargedAt ∈ UT := ut 762 (by decide +kernel) (by decide +kernel)
theorem kv_X7_52 : GoodIn UT (wsV RX7 52 RX8 yX8_chargedAt (Cond.code yX8_chargedAt cX8_chargedAt 3 (some .boolean) :: UT)) := gu_V (ut 1126 (by decide +kernel) (by decide +kernel)) wm_X8_chargedAt we_X8_chargedAt wi_RX8 wc_X8_chargedAt
theorem kv_X7_55 : GoodIn UT (wsV RX7 55 RX8 yX8_openAt (Cond.code yX8_openAt cX8_openAt 2 (some .boolean) :: UT)) := gu_V (ut 1127 (by decide +kernel) (by decide +kernel)) wm_X8_openAt we_X8_openAt wi_RX8 wc_X8_openAt
theorem wc_X8_hardnessAt : Cond.code yX8_hardnessAt cX8_hardnessAt 2 (some .int) ∈ UT := ut 388 (by decide +kernel) (by decide +kernel)
theorem we_X8_hardnessAt : Cond.selects RX8 yX8_hardnessAt yX8_hardnessAt ∈ UT := ut 387 (by decide +kernel) (by decide +kernel)
theorem wm_X8_hardnessAt : Cond.instanceMethod yX8_hardnessAt ∈ UT := ut 386 (by decide +kernel) (by decide +kernel)
theorem kv_X7_58 : GoodIn UT (wsV RX7 58 RX8 yX8_hardnessAt (Cond.code yX8_hardnessAt cX8_hardnessAt 2 (some .int) :: UT)) := gu_V (ut 1128 (by decide +kernel) (by decide +kernel)) wm_X8_hardnessAt we_X8_hardnessAt wi_RX8 wc_X8_hardnessAt
def S_X7_signOf (a1 : Int32) (D : DD) : Option RT := (cI (S_X8_chargedAt a1 D) (fun r3 D2 => (if r3 = 0 then (cI (S_X8_openAt a1 D2) (fun r6 D5 => (if r6 = 0 then (cI (S_X8_hardnessAt a1 D5) (fun r9 D8 => (cI (S_X7_digit r9 D8) (fun r12 D11 => (if vp_nar .char r12 = r12 then some (0, some (.int r12), D11) else none))))) else some (0, some (.int (46 : Int32)), D5)))) else some (0, some (.int (42 : Int32)), D2))))
set_option maxRecDepth 100000 in
set_option maxHeartbeats 4000000 in
theorem c_X7_signOf (l : Launch) (G : va_G) (E : EE) (a1 : Int32) (D : DD) (r : RT) (h : S_X7_signOf a1 D = some r) : MM l G E yX7_signOf cX7_signOf 2 (some .char) (rmm 3) [.ref (E.1 1), .int a1] D r := by
  refine m_of rfl (Nat.le_of_ble_eq_true rfl) ?_
  intro p e s m args below meth c X hr
  unfold S_X7_signOf at h
  refine g_aload_n X 0 (i0 := 0) dX7_signOf_0 rfl rfl ?_
  refine g_iload_n X 1 (i0 := 1) dX7_signOf_1 rfl rfl ?_
  obtain ⟨r3, D2, e1, h⟩ := cI_s h
  refine g_V X (As := [.int a1]) (rest := []) (c_X8_chargedAt l G E a1 _ _ e1) 1 (wg_1 E _) rfl rfl kv_X7_52 ⟨rfl, rfl⟩ ⟨rfl, hd_X8_chargedAt⟩ (⟨Nat.le_of_ble_eq_true rfl, Nat.le_of_ble_eq_true rfl⟩) rfl rfl (Nat.le_of_ble_eq_true rfl) dX7_signOf_2 ?_
  refine g_if_eq X (tgt := 11) dX7_signOf_5 (by decide) (fun c15 => ?_) (fun c15 => ?_)
  · have h := (ite_s h).1 c15
    refine g_aload_n X 0 (i0 := 0) dX7_signOf_11 rfl rfl ?_
    refine g_iload_n X 1 (i0 := 1) dX7_signOf_12 rfl rfl ?_
    obtain ⟨r6, D5, e4, h⟩ := cI_s h
    refine g_V X (As := [.int a1]) (rest := []) (c_X8_openAt l G E a1 _ _ e4) 1 (wg_1 E _) rfl rfl kv_X7_55 ⟨rfl, rfl⟩ ⟨rfl, hd_X8_openAt⟩ (⟨Nat.le_of_ble_eq_true rfl, Nat.le_of_ble_eq_true rfl⟩) rfl rfl (Nat.le_of_ble_eq_true rfl) dX7_signOf_13 ?_
    refine g_if_eq X (tgt := 24) dX7_signOf_16 (by decide) (fun c14 => ?_) (fun c14 => ?_)
    · have h := (ite_s h).1 c14
      refine g_aload_n X 0 (i0 := 0) dX7_signOf_24 rfl rfl ?_
      refine g_iload_n X 1 (i0 := 1) dX7_signOf_25 rfl rfl ?_
      obtain ⟨r9, D8, e7, h⟩ := cI_s h
      refine g_V X (As := [.int a1]) (rest := []) (c_X8_hardnessAt l G E a1 _ _ e7) 1 (wg_1 E _) rfl rfl kv_X7_58 ⟨rfl, rfl⟩ ⟨rfl, hd_X8_hardnessAt⟩ (⟨Nat.le_of_ble_eq_true rfl, Nat.le_of_ble_eq_true rfl⟩) rfl rfl (Nat.le_of_ble_eq_true rfl) dX7_signOf_26 ?_
      obtain ⟨r12, D11, e10, h⟩ := cI_s h
      refine g_S X (As := [.int r9]) (rest := []) (c_X7_digit l G E r9 _ _ e10) ks_X7_37 ⟨rfl, rfl⟩ hd_X7_digit (⟨Nat.le_of_ble_eq_true rfl, Nat.le_of_ble_eq_true rfl⟩) rfl rfl (Nat.le_of_ble_eq_true rfl) dX7_signOf_29 ?_
      obtain ⟨n13, h⟩ := chk_s h
      exact g_iret X hr (by first | exact congrArg Value.int n13 | (rw [show narrow .char (.int r12) = .int (vp_nar .char r12) from rfl, n13])) dX7_signOf_32 (Option.some.inj h)
    · have h := (ite_s h).2 c14
      refine g_bipush X (v := (46 : Int32)) dX7_signOf_19 (by decide) ?_
      refine g_goto X (tgt := 32) dX7_signOf_21 (by decide) ?_
      exact g_iret X hr rfl dX7_signOf_32 (Option.some.inj h)
  · have h := (ite_s h).2 c15
    refine g_bipush X (v := (42 : Int32)) dX7_signOf_8 (by decide) ?_
    exact g_iret X hr rfl dX7_signOf_10 (Option.some.inj h)
theorem hd_X7_put : yX7_put.cls ≠ "java/lang/invoke/MethodHandle" ∧ yX7_put.cls ≠ "java/lang/invoke/VarHandle" ∧ (parseMethodDescriptor yX7_put.desc).map (fun d => d.parameters.length) = some 1 := by decide +kernel
theorem hd_X7_signOf : yX7_signOf.cls ≠ "java/lang/invoke/MethodHandle" ∧ yX7_signOf.cls ≠ "java/lang/invoke/VarHandle" ∧ (parseMethodDescriptor yX7_signOf.desc).map (fun d => d.parameters.length) = some 2 := by decide +kernel
theorem kn_X7_19 : Cond.methodLinkNest RX7 19 yX12_cellAt "StoneQuarry" ∈ NEST := nst 1122 (by decide +kernel) rfl
theorem wc_X7_signOf : Cond.code yX7_signOf cX7_signOf 2 (some .char) ∈ UT := ut 1125 (by decide +kernel) (by decide +kernel)
theorem wt_X7_signOf : Cond.static yX7_signOf ∈ UT := ut 1124 (by decide +kernel) (by decide +kernel)
theorem ks_X7_23 : GoodIn UT (va_wsS RX7 23 yX7_signOf (Cond.code yX7_signOf cX7_signOf 2 (some .char) :: UT)) := gu_S (ut 1123 (by decide +kernel) (by decide +kernel)) wt_X7_signOf wi_RX7 wc_X7_signOf
theorem wc_X7_put : Cond.code yX7_put cX7_put 2 none ∈ UT := ut 1135 (by decide +kernel) (by decide +kernel)
theorem we_X7_put : Cond.selects RX7 yX7_put yX7_put ∈ UT := ut 27 (by decide +kernel) (by decide +kernel)
theorem wm_X7_put : Cond.instanceMethod yX7_put ∈ UT := ut 1134 (by decide +kernel) (by decide +kernel)
theorem kv_X7_27 : GoodIn UT (wsV RX7 27 RX7 yX7_put (Cond.code yX7_put cX7_put 2 none :: UT)) := gu_V (ut 1132 (by decide +kernel) (by decide +kernel)) wm_X7_put we_X7_put wi_RX7 wc_X7_put
def b_X7_showRow_0 (a1 : Int32) (D : DD) : Option ((Nat × List Int32 × DD) ⊕ RT) := some (.inl (1, [a1, (0 : Int32)], (setI D 128 (0 : Int32))))
def b_X7_showRow_1 (x2 : Int32) (x3 : Int32) (D : DD) : Option ((Nat × List Int32 × DD) ⊕ RT) := (if (6 : Int32) ≤ x3 then some (.inr (0, some (.int (D.1 128)), D)) else (cI (S_X12_cellAt x2 x3 D) (fun r3 D2 => (cI (S_X7_signOf r3 D2) (fun r6 D5 => (cV (S_X7_put r6 D5) (fun D8 => some (.inl (1, [x2, (x3 + (1 : Int32))], D8)))))))))
def T_X7_showRow (k : Nat) (ls : List Int32) (D : DD) : Option ((Nat × List Int32 × DD) ⊕ RT) := match k, ls with
  | 0, [a1] => b_X7_showRow_0 a1 D
  | 1, [x2, x3] => b_X7_showRow_1 x2 x3 D
  | _, _ => none
def S_X7_showRow (a1 : Int32) (D : DD) : Option RT := run T_X7_showRow FUEL 0 [a1] D
def hg_X7_showRow (p : Program) (l : Launch) (e : Env) (s : State) (m : MethodId) (args : Array Value) (below : List Frame) (meth : Method) (c : Code) (G : va_G) (E : EE) (r : RT) (k : Nat) (ls : List Int32) (D : DD) : Prop := match k, ls with
  | 0, [a1] => GW p l e (rmm 4) s m args below meth c G E 4 (MQ below (QR G E s.heap.size r) args s 0 0 (fr E s.heap.size)) 0 0 D 0 [(0, .ref (E.1 78)), (1, .ref (E.1 1)), (2, .int a1)] []
  | 1, [x2, x3] => GW p l e (rmm 4) s m args below meth c G E 4 (MQ below (QR G E s.heap.size r) args s 0 0 (fr E s.heap.size)) 0 0 D 7 [(0, .ref (E.1 78)), (1, .ref (E.1 1)), (2, .int x2), (3, .int x3)] []
  | _, _ => True
set_option maxRecDepth 100000 in
set_option maxHeartbeats 4000000 in
theorem bl_X7_showRow_0 {p : Program} {l : Launch} {e : Env} {s : State} {m : MethodId} {args : Array Value} {below : List Frame} {meth : Method} {c : Code} {G : va_G} {E : EE} {r : RT} (X : CX p s m args meth c cX7_showRow RX7 4 G E) (hr : meth.sig.returnType = (some .int)) (a1 : Int32) (D : DD) (o : (Nat × List Int32 × DD) ⊕ RT) (h : b_X7_showRow_0 a1 D = some o) (h1 : ∀ x, o = .inl x → hg_X7_showRow p l e s m args below meth c G E r x.1 x.2.1 x.2.2) (h2 : ∀ x, o = .inr x → x = r) : GW p l e (rmm 4) s m args below meth c G E 4 (MQ below (QR G E s.heap.size r) args s 0 0 (fr E s.heap.size)) 0 0 D 0 [(0, .ref (E.1 78)), (1, .ref (E.1 1)), (2, .int a1)] [] := by
  unfold b_X7_showRow_0 at h
  refine g_aload_n X 0 (i0 := 0) dX7_showRow_0 rfl rfl ?_
  refine g_iconst X (v := (0 : Int32)) dX7_showRow_1 (by decide) ?_
  refine g_put X (D := D) (v := .int (0 : Int32)) (T := TX7) (D' := (setI D 128 (0 : Int32))) 78 uX7 tyX7 tyX7_ok nmX7 (wg_78 E _) rfl 1 (by decide) fl_X7_15 rfl rfl rfl rfl (Nat.le_of_ble_eq_true rfl) (ws_I_128 E _ _) dX7_showRow_2 ?_
  refine g_iconst X (v := (0 : Int32)) dX7_showRow_5 (by decide) ?_
  refine g_istore_n X (i0 := 3) (lv' := [(3, .int (0 : Int32)), (0, .ref (E.1 78)), (1, .ref (E.1 1)), (2, .int a1)]) dX7_showRow_6 rfl (by decide) rfl ?_
  refine g_sub (lv' := [(0, .ref (E.1 78)), (1, .ref (E.1 1)), (2, .int a1), (3, .int (0 : Int32))]) [1, 2, 3, 0] rfl ?_
  exact h1 _ (Option.some.inj h).symm
set_option maxRecDepth 100000 in
set_option maxHeartbeats 4000000 in
theorem bl_X7_showRow_1 {p : Program} {l : Launch} {e : Env} {s : State} {m : MethodId} {args : Array Value} {below : List Frame} {meth : Method} {c : Code} {G : va_G} {E : EE} {r : RT} (X : CX p s m args meth c cX7_showRow RX7 4 G E) (hr : meth.sig.returnType = (some .int)) (x2 : Int32) (x3 : Int32) (D : DD) (o : (Nat × List Int32 × DD) ⊕ RT) (h : b_X7_showRow_1 x2 x3 D = some o) (h1 : ∀ x, o = .inl x → hg_X7_showRow p l e s m args below meth c G E r x.1 x.2.1 x.2.2) (h2 : ∀ x, o = .inr x → x = r) : GW p l e (rmm 4) s m args below meth c G E 4 (MQ below (QR G E s.heap.size r) args s 0 0 (fr E s.heap.size)) 0 0 D 7 [(0, .ref (E.1 78)), (1, .ref (E.1 1)), (2, .int x2), (3, .int x3)] [] := by
  unfold b_X7_showRow_1 at h
  refine g_iload_n X 3 (i0 := 3) dX7_showRow_7 rfl rfl ?_
  refine g_bipush X (v := (6 : Int32)) dX7_showRow_8 (by decide) ?_
  refine g_icmp_ge X (tgt := 32) dX7_showRow_10 (by decide) (fun c9 => ?_) (fun c9 => ?_)
  · have h := (ite_s h).1 c9
    refine g_aload_n X 0 (i0 := 0) dX7_showRow_32 rfl rfl ?_
    refine g_get X (D := D) (v := .int (D.1 128)) (T := TX7) 78 uX7 (wg_78 E _) rfl 1 (by decide) fl_X7_15 rfl rfl dX7_showRow_33 ?_
    exact g_iret X hr rfl dX7_showRow_36 (h2 _ (Option.some.inj h).symm)
  · have h := (ite_s h).2 c9
    refine g_aload_n X 0 (i0 := 0) dX7_showRow_13 rfl rfl ?_
    refine g_aload_n X 1 (i0 := 1) dX7_showRow_14 rfl rfl ?_
    refine g_iload_n X 2 (i0 := 2) dX7_showRow_15 rfl rfl ?_
    refine g_iload_n X 3 (i0 := 3) dX7_showRow_16 rfl rfl ?_
    obtain ⟨r3, D2, e1, h⟩ := cI_s h
    refine g_SN X (As := [.int x2, .int x3]) (rest := [.ref (E.1 1), .ref (E.1 78)]) (c_X12_cellAt l G E x2 x3 _ _ e1) wc_X12_cellAt kn_X7_19 wi_RX12 wt_X12_cellAt ⟨rfl, rfl⟩ hd_X12_cellAt (⟨Nat.le_of_ble_eq_true rfl, Nat.le_of_ble_eq_true rfl⟩) rfl rfl (Nat.le_of_ble_eq_true rfl) dX7_showRow_17 ?_
    obtain ⟨r6, D5, e4, h⟩ := cI_s h
    refine g_S X (As := [.ref (E.1 1), .int r3]) (rest := [.ref (E.1 78)]) (c_X7_signOf l G E r3 _ _ e4) ks_X7_23 ⟨rfl, rfl⟩ hd_X7_signOf (⟨Nat.le_of_ble_eq_true rfl, Nat.le_of_ble_eq_true rfl⟩) rfl rfl (Nat.le_of_ble_eq_true rfl) dX7_showRow_20 ?_
    obtain ⟨D8, e7, h⟩ := cV_s h
    refine g_V X (As := [.int r6]) (rest := []) (c_X7_put l G E r6 _ _ e7) 78 (wg_78 E _) rfl rfl kv_X7_27 ⟨rfl, rfl⟩ ⟨rfl, hd_X7_put⟩ (⟨Nat.le_of_ble_eq_true rfl, Nat.le_of_ble_eq_true rfl⟩) rfl rfl (Nat.le_of_ble_eq_true rfl) dX7_showRow_23 ?_
    refine g_iinc X 3 (v := (x3 + (1 : Int32))) (lv' := [(3, .int (x3 + (1 : Int32))), (0, .ref (E.1 78)), (1, .ref (E.1 1)), (2, .int x2)]) dX7_showRow_26 rfl rfl (by decide) rfl ?_
    refine g_goto X (tgt := 7) dX7_showRow_29 (by decide) ?_
    refine g_sub (lv' := [(0, .ref (E.1 78)), (1, .ref (E.1 1)), (2, .int x2), (3, .int (x3 + (1 : Int32)))]) [1, 2, 3, 0] rfl ?_
    exact h1 _ (Option.some.inj h).symm
set_option maxRecDepth 100000 in
set_option maxHeartbeats 4000000 in
theorem c_X7_showRow (l : Launch) (G : va_G) (E : EE) (a1 : Int32) (D : DD) (r : RT) (h : S_X7_showRow a1 D = some r) : MM l G E yX7_showRow cX7_showRow 4 (some .int) (rmm 4) [.ref (E.1 78), .ref (E.1 1), .int a1] D r := by
  unfold S_X7_showRow at h
  refine m_of rfl (Nat.le_of_ble_eq_true rfl) ?_
  intro p e s m args below meth c X hr
  exact run_G (T := T_X7_showRow) (HG := hg_X7_showRow p l e s m args below meth c G E r) (by
    intro k ls D o hT h1 h2
    unfold T_X7_showRow at hT
    split at hT
    · exact bl_X7_showRow_0 X hr _ D o hT h1 h2
    · exact bl_X7_showRow_1 X hr _ _ D o hT h1 h2
    · cases hT) FUEL 0 [a1] D h
theorem kv_X7_31 : GoodIn UT (wsV RX7 31 RX8 yX8_cellOf (Cond.code yX8_cellOf cX8_cellOf 2 (some .int) :: UT)) := gu_V (ut 1148 (by decide +kernel) (by decide +kernel)) wm_X8_cellOf we_X8_cellOf wi_RX8 wc_X8_cellOf
theorem kv_X7_41 : GoodIn UT (wsV RX7 41 RX8 yX8_strengthOf (Cond.code yX8_strengthOf cX8_strengthOf 2 (some .int) :: UT)) := gu_V (ut 1149 (by decide +kernel) (by decide +kernel)) wm_X8_strengthOf we_X8_strengthOf wi_RX8 wc_X8_strengthOf
def S_X7_showCharge (a1 : Int32) (D : DD) : Option RT := (cI (S_X8_cellOf a1 D) (fun r3 D2 => (cI (S_X7_digit a1 (setI D2 128 (0 : Int32))) (fun r6 D5 => (cV (S_X7_put r6 D5) (fun D8 => (cV (S_X7_put (64 : Int32) D8) (fun D10 => (cI (S_X7_digit (r3 / (6 : Int32)) D10) (fun r13 D12 => (cV (S_X7_put r13 D12) (fun D15 => (cV (S_X7_put (44 : Int32) D15) (fun D17 => (cI (S_X7_digit (r3 - r3 / (6 : Int32) * (6 : Int32)) D17) (fun r20 D19 => (cV (S_X7_put r20 D19) (fun D22 => (cV (S_X7_put (58 : Int32) D22) (fun D24 => (cI (S_X8_strengthOf a1 D24) (fun r27 D26 => (cI (S_X7_digit r27 D26) (fun r30 D29 => (cV (S_X7_put r30 D29) (fun D32 => some (0, some (.int (D32.1 128)), D32)))))))))))))))))))))))))))
set_option maxRecDepth 100000 in
set_option maxHeartbeats 4000000 in
theorem c_X7_showCharge (l : Launch) (G : va_G) (E : EE) (a1 : Int32) (D : DD) (r : RT) (h : S_X7_showCharge a1 D = some r) : MM l G E yX7_showCharge cX7_showCharge 4 (some .int) (rmm 2) [.ref (E.1 78), .ref (E.1 1), .int a1] D r := by
  refine m_of rfl (Nat.le_of_ble_eq_true rfl) ?_
  intro p e s m args below meth c X hr
  unfold S_X7_showCharge at h
  refine g_aload_n X 1 (i0 := 1) dX7_showCharge_0 rfl rfl ?_
  refine g_iload_n X 2 (i0 := 2) dX7_showCharge_1 rfl rfl ?_
  obtain ⟨r3, D2, e1, h⟩ := cI_s h
  refine g_V X (As := [.int a1]) (rest := []) (c_X8_cellOf l G E a1 _ _ e1) 1 (wg_1 E _) rfl rfl kv_X7_31 ⟨rfl, rfl⟩ ⟨rfl, hd_X8_cellOf⟩ (⟨Nat.le_of_ble_eq_true rfl, Nat.le_of_ble_eq_true rfl⟩) rfl rfl (Nat.le_of_ble_eq_true rfl) dX7_showCharge_2 ?_
  refine g_istore_n X (i0 := 3) (lv' := [(3, .int r3), (0, .ref (E.1 78)), (1, .ref (E.1 1)), (2, .int a1)]) dX7_showCharge_5 rfl (by decide) rfl ?_
  refine g_aload_n X 1 (i0 := 0) dX7_showCharge_6 rfl rfl ?_
  refine g_iconst X (v := (0 : Int32)) dX7_showCharge_7 (by decide) ?_
  refine g_put X (D := D2) (v := .int (0 : Int32)) (T := TX7) (D' := (setI D2 128 (0 : Int32))) 78 uX7 tyX7 tyX7_ok nmX7 (wg_78 E _) rfl 1 (by decide) fl_X7_15 rfl rfl rfl rfl (Nat.le_of_ble_eq_true rfl) (ws_I_128 E _ _) dX7_showCharge_8 ?_
  refine g_aload_n X 1 (i0 := 0) dX7_showCharge_11 rfl rfl ?_
  refine g_iload_n X 3 (i0 := 2) dX7_showCharge_12 rfl rfl ?_
  obtain ⟨r6, D5, e4, h⟩ := cI_s h
  refine g_S X (As := [.int a1]) (rest := [.ref (E.1 78)]) (c_X7_digit l G E a1 _ _ e4) ks_X7_37 ⟨rfl, rfl⟩ hd_X7_digit (⟨Nat.le_of_ble_eq_true rfl, Nat.le_of_ble_eq_true rfl⟩) rfl rfl (Nat.le_of_ble_eq_true rfl) dX7_showCharge_13 ?_
  obtain ⟨D8, e7, h⟩ := cV_s h
  refine g_V X (As := [.int r6]) (rest := []) (c_X7_put l G E r6 _ _ e7) 78 (wg_78 E _) rfl rfl kv_X7_27 ⟨rfl, rfl⟩ ⟨rfl, hd_X7_put⟩ (⟨Nat.le_of_ble_eq_true rfl, Nat.le_of_ble_eq_true rfl⟩) rfl rfl (Nat.le_of_ble_eq_true rfl) dX7_showCharge_16 ?_
  refine g_aload_n X 1 (i0 := 0) dX7_showCharge_19 rfl rfl ?_
  refine g_bipush X (v := (64 : Int32)) dX7_showCharge_20 (by decide) ?_
  obtain ⟨D10, e9, h⟩ := cV_s h
  refine g_V X (As := [.int (64 : Int32)]) (rest := []) (c_X7_put l G E (64 : Int32) _ _ e9) 78 (wg_78 E _) rfl rfl kv_X7_27 ⟨rfl, rfl⟩ ⟨rfl, hd_X7_put⟩ (⟨Nat.le_of_ble_eq_true rfl, Nat.le_of_ble_eq_true rfl⟩) rfl rfl (Nat.le_of_ble_eq_true rfl) dX7_showCharge_22 ?_
  refine g_aload_n X 1 (i0 := 0) dX7_showCharge_25 rfl rfl ?_
  refine g_iload_n X 0 (i0 := 3) dX7_showCharge_26 rfl rfl ?_
  refine g_bipush X (v := (6 : Int32)) dX7_showCharge_27 (by decide) ?_
  refine g_idiv X (by decide) dX7_showCharge_29 ?_
  obtain ⟨r13, D12, e11, h⟩ := cI_s h
  refine g_S X (As := [.int (r3 / (6 : Int32))]) (rest := [.ref (E.1 78)]) (c_X7_digit l G E (r3 / (6 : Int32)) _ _ e11) ks_X7_37 ⟨rfl, rfl⟩ hd_X7_digit (⟨Nat.le_of_ble_eq_true rfl, Nat.le_of_ble_eq_true rfl⟩) rfl rfl (Nat.le_of_ble_eq_true rfl) dX7_showCharge_30 ?_
  obtain ⟨D15, e14, h⟩ := cV_s h
  refine g_V X (As := [.int r13]) (rest := []) (c_X7_put l G E r13 _ _ e14) 78 (wg_78 E _) rfl rfl kv_X7_27 ⟨rfl, rfl⟩ ⟨rfl, hd_X7_put⟩ (⟨Nat.le_of_ble_eq_true rfl, Nat.le_of_ble_eq_true rfl⟩) rfl rfl (Nat.le_of_ble_eq_true rfl) dX7_showCharge_33 ?_
  refine g_aload_n X 1 (i0 := 0) dX7_showCharge_36 rfl rfl ?_
  refine g_bipush X (v := (44 : Int32)) dX7_showCharge_37 (by decide) ?_
  obtain ⟨D17, e16, h⟩ := cV_s h
  refine g_V X (As := [.int (44 : Int32)]) (rest := []) (c_X7_put l G E (44 : Int32) _ _ e16) 78 (wg_78 E _) rfl rfl kv_X7_27 ⟨rfl, rfl⟩ ⟨rfl, hd_X7_put⟩ (⟨Nat.le_of_ble_eq_true rfl, Nat.le_of_ble_eq_true rfl⟩) rfl rfl (Nat.le_of_ble_eq_true rfl) dX7_showCharge_39 ?_
  refine g_aload_n X 1 (i0 := 0) dX7_showCharge_42 rfl rfl ?_
  refine g_iload_n X 0 (i0 := 3) dX7_showCharge_43 rfl rfl ?_
  refine g_bipush X (v := (6 : Int32)) dX7_showCharge_44 (by decide) ?_
  refine g_irem X (by decide) dX7_showCharge_46 ?_
  obtain ⟨r20, D19, e18, h⟩ := cI_s h
  refine g_S X (As := [.int (r3 - r3 / (6 : Int32) * (6 : Int32))]) (rest := [.ref (E.1 78)]) (c_X7_digit l G E (r3 - r3 / (6 : Int32) * (6 : Int32)) _ _ e18) ks_X7_37 ⟨rfl, rfl⟩ hd_X7_digit (⟨Nat.le_of_ble_eq_true rfl, Nat.le_of_ble_eq_true rfl⟩) rfl rfl (Nat.le_of_ble_eq_true rfl) dX7_showCharge_47 ?_
  obtain ⟨D22, e21, h⟩ := cV_s h
  refine g_V X (As := [.int r20]) (rest := []) (c_X7_put l G E r20 _ _ e21) 78 (wg_78 E _) rfl rfl kv_X7_27 ⟨rfl, rfl⟩ ⟨rfl, hd_X7_put⟩ (⟨Nat.le_of_ble_eq_true rfl, Nat.le_of_ble_eq_true rfl⟩) rfl rfl (Nat.le_of_ble_eq_true rfl) dX7_showCharge_50 ?_
  refine g_aload_n X 1 (i0 := 0) dX7_showCharge_53 rfl rfl ?_
  refine g_bipush X (v := (58 : Int32)) dX7_showCharge_54 (by decide) ?_
  obtain ⟨D24, e23, h⟩ := cV_s h
  refine g_V X (As := [.int (58 : Int32)]) (rest := []) (c_X7_put l G E (58 : Int32) _ _ e23) 78 (wg_78 E _) rfl rfl kv_X7_27 ⟨rfl, rfl⟩ ⟨rfl, hd_X7_put⟩ (⟨Nat.le_of_ble_eq_true rfl, Nat.le_of_ble_eq_true rfl⟩) rfl rfl (Nat.le_of_ble_eq_true rfl) dX7_showCharge_56 ?_
  refine g_aload_n X 1 (i0 := 0) dX7_showCharge_59 rfl rfl ?_
  refine g_aload_n X 2 (i0 := 1) dX7_showCharge_60 rfl rfl ?_
  refine g_iload_n X 3 (i0 := 2) dX7_showCharge_61 rfl rfl ?_
  obtain ⟨r27, D26, e25, h⟩ := cI_s h
  refine g_V X (As := [.int a1]) (rest := [.ref (E.1 78)]) (c_X8_strengthOf l G E a1 _ _ e25) 1 (wg_1 E _) rfl rfl kv_X7_41 ⟨rfl, rfl⟩ ⟨rfl, hd_X8_strengthOf⟩ (⟨Nat.le_of_ble_eq_true rfl, Nat.le_of_ble_eq_true rfl⟩) rfl rfl (Nat.le_of_ble_eq_true rfl) dX7_showCharge_62 ?_
  obtain ⟨r30, D29, e28, h⟩ := cI_s h
  refine g_S X (As := [.int r27]) (rest := [.ref (E.1 78)]) (c_X7_digit l G E r27 _ _ e28) ks_X7_37 ⟨rfl, rfl⟩ hd_X7_digit (⟨Nat.le_of_ble_eq_true rfl, Nat.le_of_ble_eq_true rfl⟩) rfl rfl (Nat.le_of_ble_eq_true rfl) dX7_showCharge_65 ?_
  obtain ⟨D32, e31, h⟩ := cV_s h
  refine g_V X (As := [.int r30]) (rest := []) (c_X7_put l G E r30 _ _ e31) 78 (wg_78 E _) rfl rfl kv_X7_27 ⟨rfl, rfl⟩ ⟨rfl, hd_X7_put⟩ (⟨Nat.le_of_ble_eq_true rfl, Nat.le_of_ble_eq_true rfl⟩) rfl rfl (Nat.le_of_ble_eq_true rfl) dX7_showCharge_68 ?_
  refine g_aload_n X 1 (i0 := 0) dX7_showCharge_71 rfl rfl ?_
  refine g_get X (D := D32) (v := .int (D32.1 128)) (T := TX7) 78 uX7 (wg_78 E _) rfl 1 (by decide) fl_X7_15 rfl rfl dX7_showCharge_72 ?_
  exact g_iret X hr rfl dX7_showCharge_75 (Option.some.inj h)
def S_X7_hasSign (a0 : Int32) (D : DD) : Option RT := (if a0 < 0 then some (0, some (.int (0 : Int32)), D) else (if (D.1 128) ≤ a0 then some (0, some (.int (0 : Int32)), D) else (if (7 : Int32) ≤ a0 then some (0, some (.int (0 : Int32)), D) else some (0, some (.int (1 : Int32)), D))))
set_option maxRecDepth 100000 in
set_option maxHeartbeats 4000000 in
theorem c_X7_hasSign (l : Launch) (G : va_G) (E : EE) (a0 : Int32) (D : DD) (r : RT) (h : S_X7_hasSign a0 D = some r) : MM l G E yX7_hasSign cX7_hasSign 2 (some .boolean) (rmm 0) [.ref (E.1 78), .int a0] D r := by
  refine m_of rfl (Nat.le_of_ble_eq_true rfl) ?_
  intro p e s m args below meth c X hr
  unfold S_X7_hasSign at h
  refine g_iload_n X 1 (i0 := 1) dX7_hasSign_0 rfl rfl ?_
  refine g_if_lt X (tgt := 22) dX7_hasSign_1 (by decide) (fun c3 => ?_) (fun c3 => ?_)
  · have h := (ite_s h).1 c3
    refine g_iconst X (v := (0 : Int32)) dX7_hasSign_22 (by decide) ?_
    exact g_iret X hr rfl dX7_hasSign_23 (Option.some.inj h)
  · have h := (ite_s h).2 c3
    refine g_iload_n X 1 (i0 := 1) dX7_hasSign_4 rfl rfl ?_
    refine g_aload_n X 0 (i0 := 0) dX7_hasSign_5 rfl rfl ?_
    refine g_get X (D := D) (v := .int (D.1 128)) (T := TX7) 78 uX7 (wg_78 E _) rfl 1 (by decide) fl_X7_15 rfl rfl dX7_hasSign_6 ?_
    refine g_icmp_ge X (tgt := 22) dX7_hasSign_9 (by decide) (fun c2 => ?_) (fun c2 => ?_)
    · have h := (ite_s h).1 c2
      refine g_iconst X (v := (0 : Int32)) dX7_hasSign_22 (by decide) ?_
      exact g_iret X hr rfl dX7_hasSign_23 (Option.some.inj h)
    · have h := (ite_s h).2 c2
      refine g_iload_n X 1 (i0 := 1) dX7_hasSign_12 rfl rfl ?_
      refine g_bipush X (v := (7 : Int32)) dX7_hasSign_13 (by decide) ?_
      refine g_icmp_ge X (tgt := 22) dX7_hasSign_15 (by decide) (fun c1 => ?_) (fun c1 => ?_)
      · have h := (ite_s h).1 c1
        refine g_iconst X (v := (0 : Int32)) dX7_hasSign_22 (by decide) ?_
        exact g_iret X hr rfl dX7_hasSign_23 (Option.some.inj h)
      · have h := (ite_s h).2 c1
        refine g_iconst X (v := (1 : Int32)) dX7_hasSign_18 (by decide) ?_
        refine g_goto X (tgt := 23) dX7_hasSign_19 (by decide) ?_
        exact g_iret X hr rfl dX7_hasSign_23 (Option.some.inj h)
theorem hd_X7_hasSign : yX7_hasSign.cls ≠ "java/lang/invoke/MethodHandle" ∧ yX7_hasSign.cls ≠ "java/lang/invoke/VarHandle" ∧ (parseMethodDescriptor yX7_hasSign.desc).map (fun d => d.parameters.length) = some 1 := by decide +kernel
theorem wc_X7_hasSign : Cond.code yX7_hasSign cX7_hasSign 2 (some .boolean) ∈ UT := ut 1160 (by decide +kernel) (by decide +kernel)
theorem we_X7_hasSign : Cond.selects RX7 yX7_hasSign yX7_hasSign ∈ UT := ut 1159 (by decide +kernel) (by decide +kernel)
theorem wm_X7_hasSign : Cond.instanceMethod yX7_hasSign ∈ UT := ut 1158 (by decide +kernel) (by decide +kernel)
theorem kv_X7_44 : GoodIn UT (wsV RX7 44 RX7 yX7_hasSign (Cond.code yX7_hasSign cX7_hasSign 2 (some .boolean) :: UT)) := gu_V (ut 1166 (by decide +kernel) (by decide +kernel)) wm_X7_hasSign we_X7_hasSign wi_RX7 wc_X7_hasSign
def S_X7_signAt (a0 : Int32) (D : DD) : Option RT := (cI (S_X7_hasSign a0 D) (fun r3 D2 => (if r3 = 0 then some (0, some (.int (32 : Int32)), D2) else (if inB a0 7 = true then (if vp_nar .char ((D2.2.2.1 64) a0.toNatClampNeg) = ((D2.2.2.1 64) a0.toNatClampNeg) then some (0, some (.int ((D2.2.2.1 64) a0.toNatClampNeg)), D2) else none) else none))))
set_option maxRecDepth 100000 in
set_option maxHeartbeats 4000000 in
theorem c_X7_signAt (l : Launch) (G : va_G) (E : EE) (a0 : Int32) (D : DD) (r : RT) (h : S_X7_signAt a0 D = some r) : MM l G E yX7_signAt cX7_signAt 2 (some .char) (rmm 1) [.ref (E.1 78), .int a0] D r := by
  refine m_of rfl (Nat.le_of_ble_eq_true rfl) ?_
  intro p e s m args below meth c X hr
  unfold S_X7_signAt at h
  refine g_aload_n X 0 (i0 := 0) dX7_signAt_0 rfl rfl ?_
  refine g_iload_n X 1 (i0 := 1) dX7_signAt_1 rfl rfl ?_
  obtain ⟨r3, D2, e1, h⟩ := cI_s h
  refine g_V X (As := [.int a0]) (rest := []) (c_X7_hasSign l G E a0 _ _ e1) 78 (wg_78 E _) rfl rfl kv_X7_44 ⟨rfl, rfl⟩ ⟨rfl, hd_X7_hasSign⟩ (⟨Nat.le_of_ble_eq_true rfl, Nat.le_of_ble_eq_true rfl⟩) rfl rfl (Nat.le_of_ble_eq_true rfl) dX7_signAt_2 ?_
  refine g_if_eq X (tgt := 17) dX7_signAt_5 (by decide) (fun c6 => ?_) (fun c6 => ?_)
  · have h := (ite_s h).1 c6
    refine g_bipush X (v := (32 : Int32)) dX7_signAt_17 (by decide) ?_
    exact g_iret X hr rfl dX7_signAt_19 (Option.some.inj h)
  · have h := (ite_s h).2 c6
    refine g_aload_n X 0 (i0 := 0) dX7_signAt_8 rfl rfl ?_
    refine g_get X (D := D2) (v := .ref (E.1 79)) (T := TX7) 78 uX7 (wg_78 E _) rfl 0 (by decide) fl_X7_11 rfl rfl dX7_signAt_9 ?_
    refine g_iload_n X 1 (i0 := 1) dX7_signAt_12 rfl rfl ?_
    obtain ⟨b4, h⟩ := chk_s h
    refine g_cald X (D := D2) (f := (D2.2.2.1 64)) (i := a0) 79 (wg_79 E _) (inB_vp b4) dX7_signAt_13 ?_
    refine g_goto X (tgt := 19) dX7_signAt_14 (by decide) ?_
    obtain ⟨n5, h⟩ := chk_s h
    exact g_iret X hr (by first | exact congrArg Value.int n5 | (rw [show narrow .char (.int ((D2.2.2.1 64) a0.toNatClampNeg)) = .int (vp_nar .char ((D2.2.2.1 64) a0.toNatClampNeg)) from rfl, n5])) dX7_signAt_19 (Option.some.inj h)
def S_X8_copyFrom  (D : DD) : Option RT := some (0, none, (setJ (setI (setI (setI (setI (setA (setA (setA (setA D 0 (va_cpy (D.2.2.1 0) (D.2.2.1 0) (0 : Int32).toNatClampNeg (0 : Int32).toNatClampNeg (36 : Int32).toNatClampNeg)) 1 (va_cpy (D.2.2.1 1) (D.2.2.1 1) (0 : Int32).toNatClampNeg (0 : Int32).toNatClampNeg (6 : Int32).toNatClampNeg)) 2 (va_cpy (D.2.2.1 2) (D.2.2.1 2) (0 : Int32).toNatClampNeg (0 : Int32).toNatClampNeg (6 : Int32).toNatClampNeg)) 3 (va_cpy (D.2.2.1 3) (D.2.2.1 3) (0 : Int32).toNatClampNeg (0 : Int32).toNatClampNeg (11 : Int32).toNatClampNeg)) 0 (D.1 0)) 1 (D.1 1)) 2 (D.1 2)) 3 (D.1 3)) 0 (D.2.1 0)))
set_option maxRecDepth 100000 in
set_option maxHeartbeats 4000000 in
theorem c_X8_copyFrom (l : Launch) (G : va_G) (E : EE)  (D : DD) (r : RT) (h : S_X8_copyFrom  D = some r) : MM l G E yX8_copyFrom cX8_copyFrom 2 none (rmm 1) [.ref (E.1 1), .ref (E.1 1)] D r := by
  refine m_of rfl (Nat.le_of_ble_eq_true rfl) ?_
  intro p e s m args below meth c X hr
  unfold S_X8_copyFrom at h
  refine g_aload_n X 1 (i0 := 1) dX8_copyFrom_0 rfl rfl ?_
  refine g_get X (D := D) (v := .ref (E.1 2)) (T := TX8) 1 uX8 (wg_1 E _) rfl 0 (by decide) fl_X8_9 rfl rfl dX8_copyFrom_1 ?_
  refine g_iconst X (v := (0 : Int32)) dX8_copyFrom_4 (by decide) ?_
  refine g_aload_n X 0 (i0 := 0) dX8_copyFrom_5 rfl rfl ?_
  refine g_get X (D := D) (v := .ref (E.1 2)) (T := TX8) 1 uX8 (wg_1 E _) rfl 0 (by decide) fl_X8_9 rfl rfl dX8_copyFrom_6 ?_
  refine g_iconst X (v := (0 : Int32)) dX8_copyFrom_9 (by decide) ?_
  refine g_bipush X (v := (36 : Int32)) dX8_copyFrom_10 (by decide) ?_
  refine g_copyi X (D := D) (f := (D.2.2.1 0)) (g := (D.2.2.1 0)) (sp := (0 : Int32)) (dp := (0 : Int32)) (n := (36 : Int32)) (D' := (setA D 0 (va_cpy (D.2.2.1 0) (D.2.2.1 0) (0 : Int32).toNatClampNeg (0 : Int32).toNatClampNeg (36 : Int32).toNatClampNeg))) wl_X8_30 wn_copy ws_copy wi_sys 2 2 (wg_2 E _) (wg_2 E _) (by decide) (by decide) (by decide) (by decide) (by decide) (ws_A_0 E _ _) (Nat.le_of_ble_eq_true rfl) (Nat.le_of_ble_eq_true rfl) dX8_copyFrom_12 ?_
  refine g_aload_n X 1 (i0 := 1) dX8_copyFrom_15 rfl rfl ?_
  refine g_get X (D := (setA D 0 (va_cpy (D.2.2.1 0) (D.2.2.1 0) (0 : Int32).toNatClampNeg (0 : Int32).toNatClampNeg (36 : Int32).toNatClampNeg))) (v := .ref (E.1 3)) (T := TX8) 1 uX8 (wg_1 E _) rfl 1 (by decide) fl_X8_15 rfl rfl dX8_copyFrom_16 ?_
  refine g_iconst X (v := (0 : Int32)) dX8_copyFrom_19 (by decide) ?_
  refine g_aload_n X 0 (i0 := 0) dX8_copyFrom_20 rfl rfl ?_
  refine g_get X (D := (setA D 0 (va_cpy (D.2.2.1 0) (D.2.2.1 0) (0 : Int32).toNatClampNeg (0 : Int32).toNatClampNeg (36 : Int32).toNatClampNeg))) (v := .ref (E.1 3)) (T := TX8) 1 uX8 (wg_1 E _) rfl 1 (by decide) fl_X8_15 rfl rfl dX8_copyFrom_21 ?_
  refine g_iconst X (v := (0 : Int32)) dX8_copyFrom_24 (by decide) ?_
  refine g_bipush X (v := (6 : Int32)) dX8_copyFrom_25 (by decide) ?_
  refine g_copyi X (D := (setA D 0 (va_cpy (D.2.2.1 0) (D.2.2.1 0) (0 : Int32).toNatClampNeg (0 : Int32).toNatClampNeg (36 : Int32).toNatClampNeg))) (f := (D.2.2.1 1)) (g := (D.2.2.1 1)) (sp := (0 : Int32)) (dp := (0 : Int32)) (n := (6 : Int32)) (D' := (setA (setA D 0 (va_cpy (D.2.2.1 0) (D.2.2.1 0) (0 : Int32).toNatClampNeg (0 : Int32).toNatClampNeg (36 : Int32).toNatClampNeg)) 1 (va_cpy (D.2.2.1 1) (D.2.2.1 1) (0 : Int32).toNatClampNeg (0 : Int32).toNatClampNeg (6 : Int32).toNatClampNeg))) wl_X8_30 wn_copy ws_copy wi_sys 3 3 (wg_3 E _) (wg_3 E _) (by decide) (by decide) (by decide) (by decide) (by decide) (ws_A_1 E _ _) (Nat.le_of_ble_eq_true rfl) (Nat.le_of_ble_eq_true rfl) dX8_copyFrom_27 ?_
  refine g_aload_n X 1 (i0 := 1) dX8_copyFrom_30 rfl rfl ?_
  refine g_get X (D := (setA (setA D 0 (va_cpy (D.2.2.1 0) (D.2.2.1 0) (0 : Int32).toNatClampNeg (0 : Int32).toNatClampNeg (36 : Int32).toNatClampNeg)) 1 (va_cpy (D.2.2.1 1) (D.2.2.1 1) (0 : Int32).toNatClampNeg (0 : Int32).toNatClampNeg (6 : Int32).toNatClampNeg))) (v := .ref (E.1 4)) (T := TX8) 1 uX8 (wg_1 E _) rfl 2 (by decide) fl_X8_18 rfl rfl dX8_copyFrom_31 ?_
  refine g_iconst X (v := (0 : Int32)) dX8_copyFrom_34 (by decide) ?_
  refine g_aload_n X 0 (i0 := 0) dX8_copyFrom_35 rfl rfl ?_
  refine g_get X (D := (setA (setA D 0 (va_cpy (D.2.2.1 0) (D.2.2.1 0) (0 : Int32).toNatClampNeg (0 : Int32).toNatClampNeg (36 : Int32).toNatClampNeg)) 1 (va_cpy (D.2.2.1 1) (D.2.2.1 1) (0 : Int32).toNatClampNeg (0 : Int32).toNatClampNeg (6 : Int32).toNatClampNeg))) (v := .ref (E.1 4)) (T := TX8) 1 uX8 (wg_1 E _) rfl 2 (by decide) fl_X8_18 rfl rfl dX8_copyFrom_36 ?_
  refine g_iconst X (v := (0 : Int32)) dX8_copyFrom_39 (by decide) ?_
  refine g_bipush X (v := (6 : Int32)) dX8_copyFrom_40 (by decide) ?_
  refine g_copyi X (D := (setA (setA D 0 (va_cpy (D.2.2.1 0) (D.2.2.1 0) (0 : Int32).toNatClampNeg (0 : Int32).toNatClampNeg (36 : Int32).toNatClampNeg)) 1 (va_cpy (D.2.2.1 1) (D.2.2.1 1) (0 : Int32).toNatClampNeg (0 : Int32).toNatClampNeg (6 : Int32).toNatClampNeg))) (f := (D.2.2.1 2)) (g := (D.2.2.1 2)) (sp := (0 : Int32)) (dp := (0 : Int32)) (n := (6 : Int32)) (D' := (setA (setA (setA D 0 (va_cpy (D.2.2.1 0) (D.2.2.1 0) (0 : Int32).toNatClampNeg (0 : Int32).toNatClampNeg (36 : Int32).toNatClampNeg)) 1 (va_cpy (D.2.2.1 1) (D.2.2.1 1) (0 : Int32).toNatClampNeg (0 : Int32).toNatClampNeg (6 : Int32).toNatClampNeg)) 2 (va_cpy (D.2.2.1 2) (D.2.2.1 2) (0 : Int32).toNatClampNeg (0 : Int32).toNatClampNeg (6 : Int32).toNatClampNeg))) wl_X8_30 wn_copy ws_copy wi_sys 4 4 (wg_4 E _) (wg_4 E _) (by decide) (by decide) (by decide) (by decide) (by decide) (ws_A_2 E _ _) (Nat.le_of_ble_eq_true rfl) (Nat.le_of_ble_eq_true rfl) dX8_copyFrom_42 ?_
  refine g_aload_n X 1 (i0 := 1) dX8_copyFrom_45 rfl rfl ?_
  refine g_get X (D := (setA (setA (setA D 0 (va_cpy (D.2.2.1 0) (D.2.2.1 0) (0 : Int32).toNatClampNeg (0 : Int32).toNatClampNeg (36 : Int32).toNatClampNeg)) 1 (va_cpy (D.2.2.1 1) (D.2.2.1 1) (0 : Int32).toNatClampNeg (0 : Int32).toNatClampNeg (6 : Int32).toNatClampNeg)) 2 (va_cpy (D.2.2.1 2) (D.2.2.1 2) (0 : Int32).toNatClampNeg (0 : Int32).toNatClampNeg (6 : Int32).toNatClampNeg))) (v := .ref (E.1 5)) (T := TX8) 1 uX8 (wg_1 E _) rfl 3 (by decide) fl_X8_21 rfl rfl dX8_copyFrom_46 ?_
  refine g_iconst X (v := (0 : Int32)) dX8_copyFrom_49 (by decide) ?_
  refine g_aload_n X 0 (i0 := 0) dX8_copyFrom_50 rfl rfl ?_
  refine g_get X (D := (setA (setA (setA D 0 (va_cpy (D.2.2.1 0) (D.2.2.1 0) (0 : Int32).toNatClampNeg (0 : Int32).toNatClampNeg (36 : Int32).toNatClampNeg)) 1 (va_cpy (D.2.2.1 1) (D.2.2.1 1) (0 : Int32).toNatClampNeg (0 : Int32).toNatClampNeg (6 : Int32).toNatClampNeg)) 2 (va_cpy (D.2.2.1 2) (D.2.2.1 2) (0 : Int32).toNatClampNeg (0 : Int32).toNatClampNeg (6 : Int32).toNatClampNeg))) (v := .ref (E.1 5)) (T := TX8) 1 uX8 (wg_1 E _) rfl 3 (by decide) fl_X8_21 rfl rfl dX8_copyFrom_51 ?_
  refine g_iconst X (v := (0 : Int32)) dX8_copyFrom_54 (by decide) ?_
  refine g_bipush X (v := (11 : Int32)) dX8_copyFrom_55 (by decide) ?_
  refine g_copyi X (D := (setA (setA (setA D 0 (va_cpy (D.2.2.1 0) (D.2.2.1 0) (0 : Int32).toNatClampNeg (0 : Int32).toNatClampNeg (36 : Int32).toNatClampNeg)) 1 (va_cpy (D.2.2.1 1) (D.2.2.1 1) (0 : Int32).toNatClampNeg (0 : Int32).toNatClampNeg (6 : Int32).toNatClampNeg)) 2 (va_cpy (D.2.2.1 2) (D.2.2.1 2) (0 : Int32).toNatClampNeg (0 : Int32).toNatClampNeg (6 : Int32).toNatClampNeg))) (f := (D.2.2.1 3)) (g := (D.2.2.1 3)) (sp := (0 : Int32)) (dp := (0 : Int32)) (n := (11 : Int32)) (D' := (setA (setA (setA (setA D 0 (va_cpy (D.2.2.1 0) (D.2.2.1 0) (0 : Int32).toNatClampNeg (0 : Int32).toNatClampNeg (36 : Int32).toNatClampNeg)) 1 (va_cpy (D.2.2.1 1) (D.2.2.1 1) (0 : Int32).toNatClampNeg (0 : Int32).toNatClampNeg (6 : Int32).toNatClampNeg)) 2 (va_cpy (D.2.2.1 2) (D.2.2.1 2) (0 : Int32).toNatClampNeg (0 : Int32).toNatClampNeg (6 : Int32).toNatClampNeg)) 3 (va_cpy (D.2.2.1 3) (D.2.2.1 3) (0 : Int32).toNatClampNeg (0 : Int32).toNatClampNeg (11 : Int32).toNatClampNeg))) wl_X8_30 wn_copy ws_copy wi_sys 5 5 (wg_5 E _) (wg_5 E _) (by decide) (by decide) (by decide) (by decide) (by decide) (ws_A_3 E _ _) (Nat.le_of_ble_eq_true rfl) (Nat.le_of_ble_eq_true rfl) dX8_copyFrom_57 ?_
  refine g_aload_n X 0 (i0 := 0) dX8_copyFrom_60 rfl rfl ?_
  refine g_aload_n X 1 (i0 := 1) dX8_copyFrom_61 rfl rfl ?_
  refine g_get X (D := (setA (setA (setA (setA D 0 (va_cpy (D.2.2.1 0) (D.2.2.1 0) (0 : Int32).toNatClampNeg (0 : Int32).toNatClampNeg (36 : Int32).toNatClampNeg)) 1 (va_cpy (D.2.2.1 1) (D.2.2.1 1) (0 : Int32).toNatClampNeg (0 : Int32).toNatClampNeg (6 : Int32).toNatClampNeg)) 2 (va_cpy (D.2.2.1 2) (D.2.2.1 2) (0 : Int32).toNatClampNeg (0 : Int32).toNatClampNeg (6 : Int32).toNatClampNeg)) 3 (va_cpy (D.2.2.1 3) (D.2.2.1 3) (0 : Int32).toNatClampNeg (0 : Int32).toNatClampNeg (11 : Int32).toNatClampNeg))) (v := .int (D.1 0)) (T := TX8) 1 uX8 (wg_1 E _) rfl 4 (by decide) fl_X8_36 rfl rfl dX8_copyFrom_62 ?_
  refine g_put X (D := (setA (setA (setA (setA D 0 (va_cpy (D.2.2.1 0) (D.2.2.1 0) (0 : Int32).toNatClampNeg (0 : Int32).toNatClampNeg (36 : Int32).toNatClampNeg)) 1 (va_cpy (D.2.2.1 1) (D.2.2.1 1) (0 : Int32).toNatClampNeg (0 : Int32).toNatClampNeg (6 : Int32).toNatClampNeg)) 2 (va_cpy (D.2.2.1 2) (D.2.2.1 2) (0 : Int32).toNatClampNeg (0 : Int32).toNatClampNeg (6 : Int32).toNatClampNeg)) 3 (va_cpy (D.2.2.1 3) (D.2.2.1 3) (0 : Int32).toNatClampNeg (0 : Int32).toNatClampNeg (11 : Int32).toNatClampNeg))) (v := .int (D.1 0)) (T := TX8) (D' := (setI (setA (setA (setA (setA D 0 (va_cpy (D.2.2.1 0) (D.2.2.1 0) (0 : Int32).toNatClampNeg (0 : Int32).toNatClampNeg (36 : Int32).toNatClampNeg)) 1 (va_cpy (D.2.2.1 1) (D.2.2.1 1) (0 : Int32).toNatClampNeg (0 : Int32).toNatClampNeg (6 : Int32).toNatClampNeg)) 2 (va_cpy (D.2.2.1 2) (D.2.2.1 2) (0 : Int32).toNatClampNeg (0 : Int32).toNatClampNeg (6 : Int32).toNatClampNeg)) 3 (va_cpy (D.2.2.1 3) (D.2.2.1 3) (0 : Int32).toNatClampNeg (0 : Int32).toNatClampNeg (11 : Int32).toNatClampNeg)) 0 (D.1 0))) 1 uX8 tyX8 tyX8_ok nmX8 (wg_1 E _) rfl 4 (by decide) fl_X8_36 rfl rfl rfl rfl (Nat.le_of_ble_eq_true rfl) (ws_I_0 E _ _) dX8_copyFrom_65 ?_
  refine g_aload_n X 0 (i0 := 0) dX8_copyFrom_68 rfl rfl ?_
  refine g_aload_n X 1 (i0 := 1) dX8_copyFrom_69 rfl rfl ?_
  refine g_get X (D := (setI (setA (setA (setA (setA D 0 (va_cpy (D.2.2.1 0) (D.2.2.1 0) (0 : Int32).toNatClampNeg (0 : Int32).toNatClampNeg (36 : Int32).toNatClampNeg)) 1 (va_cpy (D.2.2.1 1) (D.2.2.1 1) (0 : Int32).toNatClampNeg (0 : Int32).toNatClampNeg (6 : Int32).toNatClampNeg)) 2 (va_cpy (D.2.2.1 2) (D.2.2.1 2) (0 : Int32).toNatClampNeg (0 : Int32).toNatClampNeg (6 : Int32).toNatClampNeg)) 3 (va_cpy (D.2.2.1 3) (D.2.2.1 3) (0 : Int32).toNatClampNeg (0 : Int32).toNatClampNeg (11 : Int32).toNatClampNeg)) 0 (D.1 0))) (v := .int (D.1 1)) (T := TX8) 1 uX8 (wg_1 E _) rfl 5 (by decide) fl_X8_40 rfl rfl dX8_copyFrom_70 ?_
  refine g_put X (D := (setI (setA (setA (setA (setA D 0 (va_cpy (D.2.2.1 0) (D.2.2.1 0) (0 : Int32).toNatClampNeg (0 : Int32).toNatClampNeg (36 : Int32).toNatClampNeg)) 1 (va_cpy (D.2.2.1 1) (D.2.2.1 1) (0 : Int32).toNatClampNeg (0 : Int32).toNatClampNeg (6 : Int32).toNatClampNeg)) 2 (va_cpy (D.2.2.1 2) (D.2.2.1 2) (0 : Int32).toNatClampNeg (0 : Int32).toNatClampNeg (6 : Int32).toNatClampNeg)) 3 (va_cpy (D.2.2.1 3) (D.2.2.1 3) (0 : Int32).toNatClampNeg (0 : Int32).toNatClampNeg (11 : Int32).toNatClampNeg)) 0 (D.1 0))) (v := .int (D.1 1)) (T := TX8) (D' := (setI (setI (setA (setA (setA (setA D 0 (va_cpy (D.2.2.1 0) (D.2.2.1 0) (0 : Int32).toNatClampNeg (0 : Int32).toNatClampNeg (36 : Int32).toNatClampNeg)) 1 (va_cpy (D.2.2.1 1) (D.2.2.1 1) (0 : Int32).toNatClampNeg (0 : Int32).toNatClampNeg (6 : Int32).toNatClampNeg)) 2 (va_cpy (D.2.2.1 2) (D.2.2.1 2) (0 : Int32).toNatClampNeg (0 : Int32).toNatClampNeg (6 : Int32).toNatClampNeg)) 3 (va_cpy (D.2.2.1 3) (D.2.2.1 3) (0 : Int32).toNatClampNeg (0 : Int32).toNatClampNeg (11 : Int32).toNatClampNeg)) 0 (D.1 0)) 1 (D.1 1))) 1 uX8 tyX8 tyX8_ok nmX8 (wg_1 E _) rfl 5 (by decide) fl_X8_40 rfl rfl rfl rfl (Nat.le_of_ble_eq_true rfl) (ws_I_1 E _ _) dX8_copyFrom_73 ?_
  refine g_aload_n X 0 (i0 := 0) dX8_copyFrom_76 rfl rfl ?_
  refine g_aload_n X 1 (i0 := 1) dX8_copyFrom_77 rfl rfl ?_
  refine g_get X (D := (setI (setI (setA (setA (setA (setA D 0 (va_cpy (D.2.2.1 0) (D.2.2.1 0) (0 : Int32).toNatClampNeg (0 : Int32).toNatClampNeg (36 : Int32).toNatClampNeg)) 1 (va_cpy (D.2.2.1 1) (D.2.2.1 1) (0 : Int32).toNatClampNeg (0 : Int32).toNatClampNeg (6 : Int32).toNatClampNeg)) 2 (va_cpy (D.2.2.1 2) (D.2.2.1 2) (0 : Int32).toNatClampNeg (0 : Int32).toNatClampNeg (6 : Int32).toNatClampNeg)) 3 (va_cpy (D.2.2.1 3) (D.2.2.1 3) (0 : Int32).toNatClampNeg (0 : Int32).toNatClampNeg (11 : Int32).toNatClampNeg)) 0 (D.1 0)) 1 (D.1 1))) (v := .int (D.1 2)) (T := TX8) 1 uX8 (wg_1 E _) rfl 6 (by decide) fl_X8_43 rfl rfl dX8_copyFrom_78 ?_
  refine g_put X (D := (setI (setI (setA (setA (setA (setA D 0 (va_cpy (D.2.2.1 0) (D.2.2.1 0) (0 : Int32).toNatClampNeg (0 : Int32).toNatClampNeg (36 : Int32).toNatClampNeg)) 1 (va_cpy (D.2.2.1 1) (D.2.2.1 1) (0 : Int32).toNatClampNeg (0 : Int32).toNatClampNeg (6 : Int32).toNatClampNeg)) 2 (va_cpy (D.2.2.1 2) (D.2.2.1 2) (0 : Int32).toNatClampNeg (0 : Int32).toNatClampNeg (6 : Int32).toNatClampNeg)) 3 (va_cpy (D.2.2.1 3) (D.2.2.1 3) (0 : Int32).toNatClampNeg (0 : Int32).toNatClampNeg (11 : Int32).toNatClampNeg)) 0 (D.1 0)) 1 (D.1 1))) (v := .int (D.1 2)) (T := TX8) (D' := (setI (setI (setI (setA (setA (setA (setA D 0 (va_cpy (D.2.2.1 0) (D.2.2.1 0) (0 : Int32).toNatClampNeg (0 : Int32).toNatClampNeg (36 : Int32).toNatClampNeg)) 1 (va_cpy (D.2.2.1 1) (D.2.2.1 1) (0 : Int32).toNatClampNeg (0 : Int32).toNatClampNeg (6 : Int32).toNatClampNeg)) 2 (va_cpy (D.2.2.1 2) (D.2.2.1 2) (0 : Int32).toNatClampNeg (0 : Int32).toNatClampNeg (6 : Int32).toNatClampNeg)) 3 (va_cpy (D.2.2.1 3) (D.2.2.1 3) (0 : Int32).toNatClampNeg (0 : Int32).toNatClampNeg (11 : Int32).toNatClampNeg)) 0 (D.1 0)) 1 (D.1 1)) 2 (D.1 2))) 1 uX8 tyX8 tyX8_ok nmX8 (wg_1 E _) rfl 6 (by decide) fl_X8_43 rfl rfl rfl rfl (Nat.le_of_ble_eq_true rfl) (ws_I_2 E _ _) dX8_copyFrom_81 ?_
  refine g_aload_n X 0 (i0 := 0) dX8_copyFrom_84 rfl rfl ?_
  refine g_aload_n X 1 (i0 := 1) dX8_copyFrom_85 rfl rfl ?_
  refine g_get X (D := (setI (setI (setI (setA (setA (setA (setA D 0 (va_cpy (D.2.2.1 0) (D.2.2.1 0) (0 : Int32).toNatClampNeg (0 : Int32).toNatClampNeg (36 : Int32).toNatClampNeg)) 1 (va_cpy (D.2.2.1 1) (D.2.2.1 1) (0 : Int32).toNatClampNeg (0 : Int32).toNatClampNeg (6 : Int32).toNatClampNeg)) 2 (va_cpy (D.2.2.1 2) (D.2.2.1 2) (0 : Int32).toNatClampNeg (0 : Int32).toNatClampNeg (6 : Int32).toNatClampNeg)) 3 (va_cpy (D.2.2.1 3) (D.2.2.1 3) (0 : Int32).toNatClampNeg (0 : Int32).toNatClampNeg (11 : Int32).toNatClampNeg)) 0 (D.1 0)) 1 (D.1 1)) 2 (D.1 2))) (v := .int (D.1 3)) (T := TX8) 1 uX8 (wg_1 E _) rfl 7 (by decide) fl_X8_46 rfl rfl dX8_copyFrom_86 ?_
  refine g_put X (D := (setI (setI (setI (setA (setA (setA (setA D 0 (va_cpy (D.2.2.1 0) (D.2.2.1 0) (0 : Int32).toNatClampNeg (0 : Int32).toNatClampNeg (36 : Int32).toNatClampNeg)) 1 (va_cpy (D.2.2.1 1) (D.2.2.1 1) (0 : Int32).toNatClampNeg (0 : Int32).toNatClampNeg (6 : Int32).toNatClampNeg)) 2 (va_cpy (D.2.2.1 2) (D.2.2.1 2) (0 : Int32).toNatClampNeg (0 : Int32).toNatClampNeg (6 : Int32).toNatClampNeg)) 3 (va_cpy (D.2.2.1 3) (D.2.2.1 3) (0 : Int32).toNatClampNeg (0 : Int32).toNatClampNeg (11 : Int32).toNatClampNeg)) 0 (D.1 0)) 1 (D.1 1)) 2 (D.1 2))) (v := .int (D.1 3)) (T := TX8) (D' := (setI (setI (setI (setI (setA (setA (setA (setA D 0 (va_cpy (D.2.2.1 0) (D.2.2.1 0) (0 : Int32).toNatClampNeg (0 : Int32).toNatClampNeg (36 : Int32).toNatClampNeg)) 1 (va_cpy (D.2.2.1 1) (D.2.2.1 1) (0 : Int32).toNatClampNeg (0 : Int32).toNatClampNeg (6 : Int32).toNatClampNeg)) 2 (va_cpy (D.2.2.1 2) (D.2.2.1 2) (0 : Int32).toNatClampNeg (0 : Int32).toNatClampNeg (6 : Int32).toNatClampNeg)) 3 (va_cpy (D.2.2.1 3) (D.2.2.1 3) (0 : Int32).toNatClampNeg (0 : Int32).toNatClampNeg (11 : Int32).toNatClampNeg)) 0 (D.1 0)) 1 (D.1 1)) 2 (D.1 2)) 3 (D.1 3))) 1 uX8 tyX8 tyX8_ok nmX8 (wg_1 E _) rfl 7 (by decide) fl_X8_46 rfl rfl rfl rfl (Nat.le_of_ble_eq_true rfl) (ws_I_3 E _ _) dX8_copyFrom_89 ?_
  refine g_aload_n X 0 (i0 := 0) dX8_copyFrom_92 rfl rfl ?_
  refine g_aload_n X 1 (i0 := 1) dX8_copyFrom_93 rfl rfl ?_
  refine g_get X (D := (setI (setI (setI (setI (setA (setA (setA (setA D 0 (va_cpy (D.2.2.1 0) (D.2.2.1 0) (0 : Int32).toNatClampNeg (0 : Int32).toNatClampNeg (36 : Int32).toNatClampNeg)) 1 (va_cpy (D.2.2.1 1) (D.2.2.1 1) (0 : Int32).toNatClampNeg (0 : Int32).toNatClampNeg (6 : Int32).toNatClampNeg)) 2 (va_cpy (D.2.2.1 2) (D.2.2.1 2) (0 : Int32).toNatClampNeg (0 : Int32).toNatClampNeg (6 : Int32).toNatClampNeg)) 3 (va_cpy (D.2.2.1 3) (D.2.2.1 3) (0 : Int32).toNatClampNeg (0 : Int32).toNatClampNeg (11 : Int32).toNatClampNeg)) 0 (D.1 0)) 1 (D.1 1)) 2 (D.1 2)) 3 (D.1 3))) (v := .long (D.2.1 0)) (T := TX8) 1 uX8 (wg_1 E _) rfl 8 (by decide) fl_X8_49 rfl rfl dX8_copyFrom_94 ?_
  refine g_put X (D := (setI (setI (setI (setI (setA (setA (setA (setA D 0 (va_cpy (D.2.2.1 0) (D.2.2.1 0) (0 : Int32).toNatClampNeg (0 : Int32).toNatClampNeg (36 : Int32).toNatClampNeg)) 1 (va_cpy (D.2.2.1 1) (D.2.2.1 1) (0 : Int32).toNatClampNeg (0 : Int32).toNatClampNeg (6 : Int32).toNatClampNeg)) 2 (va_cpy (D.2.2.1 2) (D.2.2.1 2) (0 : Int32).toNatClampNeg (0 : Int32).toNatClampNeg (6 : Int32).toNatClampNeg)) 3 (va_cpy (D.2.2.1 3) (D.2.2.1 3) (0 : Int32).toNatClampNeg (0 : Int32).toNatClampNeg (11 : Int32).toNatClampNeg)) 0 (D.1 0)) 1 (D.1 1)) 2 (D.1 2)) 3 (D.1 3))) (v := .long (D.2.1 0)) (T := TX8) (D' := (setJ (setI (setI (setI (setI (setA (setA (setA (setA D 0 (va_cpy (D.2.2.1 0) (D.2.2.1 0) (0 : Int32).toNatClampNeg (0 : Int32).toNatClampNeg (36 : Int32).toNatClampNeg)) 1 (va_cpy (D.2.2.1 1) (D.2.2.1 1) (0 : Int32).toNatClampNeg (0 : Int32).toNatClampNeg (6 : Int32).toNatClampNeg)) 2 (va_cpy (D.2.2.1 2) (D.2.2.1 2) (0 : Int32).toNatClampNeg (0 : Int32).toNatClampNeg (6 : Int32).toNatClampNeg)) 3 (va_cpy (D.2.2.1 3) (D.2.2.1 3) (0 : Int32).toNatClampNeg (0 : Int32).toNatClampNeg (11 : Int32).toNatClampNeg)) 0 (D.1 0)) 1 (D.1 1)) 2 (D.1 2)) 3 (D.1 3)) 0 (D.2.1 0))) 1 uX8 tyX8 tyX8_ok nmX8 (wg_1 E _) rfl 8 (by decide) fl_X8_49 rfl rfl rfl rfl (Nat.le_of_ble_eq_true rfl) (ws_J_0 E _ _) dX8_copyFrom_97 ?_
  exact g_vret X hr dX8_copyFrom_100 (Option.some.inj h)
def b_X8_countOpen_0  (D : DD) : Option ((Nat × List Int32 × DD) ⊕ RT) := some (.inl (1, [(0 : Int32), (0 : Int32)], D))
def b_X8_countOpen_1 (x1 : Int32) (x2 : Int32) (D : DD) : Option ((Nat × List Int32 × DD) ⊕ RT) := (if (36 : Int32) ≤ x2 then some (.inr (0, some (.int x1), D)) else (if inB x2 36 = true then (if ((D.2.2.1 0) x2.toNatClampNeg) = 0 then some (.inl (1, [(x1 + (1 : Int32)), (x2 + (1 : Int32))], D)) else some (.inl (1, [x1, (x2 + (1 : Int32))], D))) else none))
def T_X8_countOpen (k : Nat) (ls : List Int32) (D : DD) : Option ((Nat × List Int32 × DD) ⊕ RT) := match k, ls with
  | 0, [] => b_X8_countOpen_0  D
  | 1, [x1, x2] => b_X8_countOpen_1 x1 x2 D
  | _, _ => none
def S_X8_countOpen  (D : DD) : Option RT := run T_X8_countOpen FUEL 0 [] D
def hg_X8_countOpen (p : Program) (l : Launch) (e : Env) (s : State) (m : MethodId) (args : Array Value) (below : List Frame) (meth : Method) (c : Code) (G : va_G) (E : EE) (r : RT) (k : Nat) (ls : List Int32) (D : DD) : Prop := match k, ls with
  | 0, [] => GW p l e (rmm 0) s m args below meth c G E 3 (MQ below (QR G E s.heap.size r) args s 0 0 (fr E s.heap.size)) 0 0 D 0 [(0, .ref (E.1 1))] []
  | 1, [x1, x2] => GW p l e (rmm 0) s m args below meth c G E 3 (MQ below (QR G E s.heap.size r) args s 0 0 (fr E s.heap.size)) 0 0 D 4 [(0, .ref (E.1 1)), (1, .int x1), (2, .int x2)] []
  | _, _ => True
set_option maxRecDepth 100000 in
set_option maxHeartbeats 4000000 in
theorem bl_X8_countOpen_0 {p : Program} {l : Launch} {e : Env} {s : State} {m : MethodId} {args : Array Value} {below : List Frame} {meth : Method} {c : Code} {G : va_G} {E : EE} {r : RT} (X : CX p s m args meth c cX8_countOpen RX8 3 G E) (hr : meth.sig.returnType = (some .int))  (D : DD) (o : (Nat × List Int32 × DD) ⊕ RT) (h : b_X8_countOpen_0  D = some o) (h1 : ∀ x, o = .inl x → hg_X8_countOpen p l e s m args below meth c G E r x.1 x.2.1 x.2.2) (h2 : ∀ x, o = .inr x → x = r) : GW p l e (rmm 0) s m args below meth c G E 3 (MQ below (QR G E s.heap.size r) args s 0 0 (fr E s.heap.size)) 0 0 D 0 [(0, .ref (E.1 1))] [] := by
  unfold b_X8_countOpen_0 at h
  refine g_iconst X (v := (0 : Int32)) dX8_countOpen_0 (by decide) ?_
  refine g_istore_n X (i0 := 1) (lv' := [(1, .int (0 : Int32)), (0, .ref (E.1 1))]) dX8_countOpen_1 rfl (by decide) rfl ?_
  refine g_iconst X (v := (0 : Int32)) dX8_countOpen_2 (by decide) ?_
  refine g_istore_n X (i0 := 2) (lv' := [(2, .int (0 : Int32)), (1, .int (0 : Int32)), (0, .ref (E.1 1))]) dX8_countOpen_3 rfl (by decide) rfl ?_
  refine g_sub (lv' := [(0, .ref (E.1 1)), (1, .int (0 : Int32)), (2, .int (0 : Int32))]) [2, 1, 0] rfl ?_
  exact h1 _ (Option.some.inj h).symm
set_option maxRecDepth 100000 in
set_option maxHeartbeats 4000000 in
theorem bl_X8_countOpen_1 {p : Program} {l : Launch} {e : Env} {s : State} {m : MethodId} {args : Array Value} {below : List Frame} {meth : Method} {c : Code} {G : va_G} {E : EE} {r : RT} (X : CX p s m args meth c cX8_countOpen RX8 3 G E) (hr : meth.sig.returnType = (some .int)) (x1 : Int32) (x2 : Int32) (D : DD) (o : (Nat × List Int32 × DD) ⊕ RT) (h : b_X8_countOpen_1 x1 x2 D = some o) (h1 : ∀ x, o = .inl x → hg_X8_countOpen p l e s m args below meth c G E r x.1 x.2.1 x.2.2) (h2 : ∀ x, o = .inr x → x = r) : GW p l e (rmm 0) s m args below meth c G E 3 (MQ below (QR G E s.heap.size r) args s 0 0 (fr E s.heap.size)) 0 0 D 4 [(0, .ref (E.1 1)), (1, .int x1), (2, .int x2)] [] := by
  unfold b_X8_countOpen_1 at h
  refine g_iload_n X 2 (i0 := 2) dX8_countOpen_4 rfl rfl ?_
  refine g_bipush X (v := (36 : Int32)) dX8_countOpen_5 (by decide) ?_
  refine g_icmp_ge X (tgt := 28) dX8_countOpen_7 (by decide) (fun c3 => ?_) (fun c3 => ?_)
  · have h := (ite_s h).1 c3
    refine g_iload_n X 1 (i0 := 1) dX8_countOpen_28 rfl rfl ?_
    exact g_iret X hr rfl dX8_countOpen_29 (h2 _ (Option.some.inj h).symm)
  · have h := (ite_s h).2 c3
    refine g_aload_n X 0 (i0 := 0) dX8_countOpen_10 rfl rfl ?_
    refine g_get X (D := D) (v := .ref (E.1 2)) (T := TX8) 1 uX8 (wg_1 E _) rfl 0 (by decide) fl_X8_9 rfl rfl dX8_countOpen_11 ?_
    refine g_iload_n X 2 (i0 := 2) dX8_countOpen_14 rfl rfl ?_
    obtain ⟨b1, h⟩ := chk_s h
    refine g_iald X (D := D) (f := (D.2.2.1 0)) (i := x2) 2 (wg_2 E _) (inB_vp b1) dX8_countOpen_15 ?_
    refine g_if_ne X (tgt := 22) dX8_countOpen_16 (by decide) (fun c2 => ?_) (fun c2 => ?_)
    · have h := (ite_s h).2 c2
      refine g_iinc X 2 (v := (x2 + (1 : Int32))) (lv' := [(2, .int (x2 + (1 : Int32))), (0, .ref (E.1 1)), (1, .int x1)]) dX8_countOpen_22 rfl rfl (by decide) rfl ?_
      refine g_goto X (tgt := 4) dX8_countOpen_25 (by decide) ?_
      refine g_sub (lv' := [(0, .ref (E.1 1)), (1, .int x1), (2, .int (x2 + (1 : Int32)))]) [1, 2, 0] rfl ?_
      exact h1 _ (Option.some.inj h).symm
    · have h := (ite_s h).1 c2
      refine g_iinc X 1 (v := (x1 + (1 : Int32))) (lv' := [(1, .int (x1 + (1 : Int32))), (0, .ref (E.1 1)), (2, .int x2)]) dX8_countOpen_19 rfl rfl (by decide) rfl ?_
      refine g_iinc X 2 (v := (x2 + (1 : Int32))) (lv' := [(2, .int (x2 + (1 : Int32))), (1, .int (x1 + (1 : Int32))), (0, .ref (E.1 1))]) dX8_countOpen_22 rfl rfl (by decide) rfl ?_
      refine g_goto X (tgt := 4) dX8_countOpen_25 (by decide) ?_
      refine g_sub (lv' := [(0, .ref (E.1 1)), (1, .int (x1 + (1 : Int32))), (2, .int (x2 + (1 : Int32)))]) [2, 1, 0] rfl ?_
      exact h1 _ (Option.some.inj h).symm
set_option maxRecDepth 100000 in
set_option maxHeartbeats 4000000 in
theorem c_X8_countOpen (l : Launch) (G : va_G) (E : EE)  (D : DD) (r : RT) (h : S_X8_countOpen  D = some r) : MM l G E yX8_countOpen cX8_countOpen 3 (some .int) (rmm 0) [.ref (E.1 1)] D r := by
  unfold S_X8_countOpen at h
  refine m_of rfl (Nat.le_of_ble_eq_true rfl) ?_
  intro p e s m args below meth c X hr
  exact run_G (T := T_X8_countOpen) (HG := hg_X8_countOpen p l e s m args below meth c G E r) (by
    intro k ls D o hT h1 h2
    unfold T_X8_countOpen at hT
    split at hT
    · exact bl_X8_countOpen_0 X hr  D o hT h1 h2
    · exact bl_X8_countOpen_1 X hr _ _ D o hT h1 h2
    · cases hT) FUEL 0 [] D h
def b_X8_sumOfHardness_0  (D : DD) : Option ((Nat × List Int32 × DD) ⊕ RT) := some (.inl (1, [(0 : Int32), (0 : Int32)], D))
def b_X8_sumOfHardness_1 (x1 : Int32) (x2 : Int32) (D : DD) : Option ((Nat × List Int32 × DD) ⊕ RT) := (if (36 : Int32) ≤ x2 then some (.inr (0, some (.int x1), D)) else (if inB x2 36 = true then some (.inl (1, [(x1 + ((D.2.2.1 0) x2.toNatClampNeg)), (x2 + (1 : Int32))], D)) else none))
def T_X8_sumOfHardness (k : Nat) (ls : List Int32) (D : DD) : Option ((Nat × List Int32 × DD) ⊕ RT) := match k, ls with
  | 0, [] => b_X8_sumOfHardness_0  D
  | 1, [x1, x2] => b_X8_sumOfHardness_1 x1 x2 D
  | _, _ => none
def S_X8_sumOfHardness  (D : DD) : Option RT := run T_X8_sumOfHardness FUEL 0 [] D
def hg_X8_sumOfHardness (p : Program) (l : Launch) (e : Env) (s : State) (m : MethodId) (args : Array Value) (below : List Frame) (meth : Method) (c : Code) (G : va_G) (E : EE) (r : RT) (k : Nat) (ls : List Int32) (D : DD) : Prop := match k, ls with
  | 0, [] => GW p l e (rmm 0) s m args below meth c G E 3 (MQ below (QR G E s.heap.size r) args s 0 0 (fr E s.heap.size)) 0 0 D 0 [(0, .ref (E.1 1))] []
  | 1, [x1, x2] => GW p l e (rmm 0) s m args below meth c G E 3 (MQ below (QR G E s.heap.size r) args s 0 0 (fr E s.heap.size)) 0 0 D 4 [(0, .ref (E.1 1)), (1, .int x1), (2, .int x2)] []
  | _, _ => True
set_option maxRecDepth 100000 in
set_option maxHeartbeats 4000000 in
theorem bl_X8_sumOfHardness_0 {p : Program} {l : Launch} {e : Env} {s : State} {m : MethodId} {args : Array Value} {below : List Frame} {meth : Method} {c : Code} {G : va_G} {E : EE} {r : RT} (X : CX p s m args meth c cX8_sumOfHardness RX8 3 G E) (hr : meth.sig.returnType = (some .int))  (D : DD) (o : (Nat × List Int32 × DD) ⊕ RT) (h : b_X8_sumOfHardness_0  D = some o) (h1 : ∀ x, o = .inl x → hg_X8_sumOfHardness p l e s m args below meth c G E r x.1 x.2.1 x.2.2) (h2 : ∀ x, o = .inr x → x = r) : GW p l e (rmm 0) s m args below meth c G E 3 (MQ below (QR G E s.heap.size r) args s 0 0 (fr E s.heap.size)) 0 0 D 0 [(0, .ref (E.1 1))] [] := by
  unfold b_X8_sumOfHardness_0 at h
  refine g_iconst X (v := (0 : Int32)) dX8_sumOfHardness_0 (by decide) ?_
  refine g_istore_n X (i0 := 1) (lv' := [(1, .int (0 : Int32)), (0, .ref (E.1 1))]) dX8_sumOfHardness_1 rfl (by decide) rfl ?_
  refine g_iconst X (v := (0 : Int32)) dX8_sumOfHardness_2 (by decide) ?_
  refine g_istore_n X (i0 := 2) (lv' := [(2, .int (0 : Int32)), (1, .int (0 : Int32)), (0, .ref (E.1 1))]) dX8_sumOfHardness_3 rfl (by decide) rfl ?_
  refine g_sub (lv' := [(0, .ref (E.1 1)), (1, .int (0 : Int32)), (2, .int (0 : Int32))]) [2, 1, 0] rfl ?_
  exact h1 _ (Option.some.inj h).symm
set_option maxRecDepth 100000 in
set_option maxHeartbeats 4000000 in
theorem bl_X8_sumOfHardness_1 {p : Program} {l : Launch} {e : Env} {s : State} {m : MethodId} {args : Array Value} {below : List Frame} {meth : Method} {c : Code} {G : va_G} {E : EE} {r : RT} (X : CX p s m args meth c cX8_sumOfHardness RX8 3 G E) (hr : meth.sig.returnType = (some .int)) (x1 : Int32) (x2 : Int32) (D : DD) (o : (Nat × List Int32 × DD) ⊕ RT) (h : b_X8_sumOfHardness_1 x1 x2 D = some o) (h1 : ∀ x, o = .inl x → hg_X8_sumOfHardness p l e s m args below meth c G E r x.1 x.2.1 x.2.2) (h2 : ∀ x, o = .inr x → x = r) : GW p l e (rmm 0) s m args below meth c G E 3 (MQ below (QR G E s.heap.size r) args s 0 0 (fr E s.heap.size)) 0 0 D 4 [(0, .ref (E.1 1)), (1, .int x1), (2, .int x2)] [] := by
  unfold b_X8_sumOfHardness_1 at h
  refine g_iload_n X 2 (i0 := 2) dX8_sumOfHardness_4 rfl rfl ?_
  refine g_bipush X (v := (36 : Int32)) dX8_sumOfHardness_5 (by decide) ?_
  refine g_icmp_ge X (tgt := 25) dX8_sumOfHardness_7 (by decide) (fun c2 => ?_) (fun c2 => ?_)
  · have h := (ite_s h).1 c2
    refine g_iload_n X 1 (i0 := 1) dX8_sumOfHardness_25 rfl rfl ?_
    exact g_iret X hr rfl dX8_sumOfHardness_26 (h2 _ (Option.some.inj h).symm)
  · have h := (ite_s h).2 c2
    refine g_iload_n X 1 (i0 := 1) dX8_sumOfHardness_10 rfl rfl ?_
    refine g_aload_n X 0 (i0 := 0) dX8_sumOfHardness_11 rfl rfl ?_
    refine g_get X (D := D) (v := .ref (E.1 2)) (T := TX8) 1 uX8 (wg_1 E _) rfl 0 (by decide) fl_X8_9 rfl rfl dX8_sumOfHardness_12 ?_
    refine g_iload_n X 2 (i0 := 2) dX8_sumOfHardness_15 rfl rfl ?_
    obtain ⟨b1, h⟩ := chk_s h
    refine g_iald X (D := D) (f := (D.2.2.1 0)) (i := x2) 2 (wg_2 E _) (inB_vp b1) dX8_sumOfHardness_16 ?_
    refine g_iadd X dX8_sumOfHardness_17 ?_
    refine g_istore_n X (i0 := 1) (lv' := [(1, .int (x1 + ((D.2.2.1 0) x2.toNatClampNeg))), (0, .ref (E.1 1)), (2, .int x2)]) dX8_sumOfHardness_18 rfl (by decide) rfl ?_
    refine g_iinc X 2 (v := (x2 + (1 : Int32))) (lv' := [(2, .int (x2 + (1 : Int32))), (1, .int (x1 + ((D.2.2.1 0) x2.toNatClampNeg))), (0, .ref (E.1 1))]) dX8_sumOfHardness_19 rfl rfl (by decide) rfl ?_
    refine g_goto X (tgt := 4) dX8_sumOfHardness_22 (by decide) ?_
    refine g_sub (lv' := [(0, .ref (E.1 1)), (1, .int (x1 + ((D.2.2.1 0) x2.toNatClampNeg))), (2, .int (x2 + (1 : Int32)))]) [2, 1, 0] rfl ?_
    exact h1 _ (Option.some.inj h).symm
set_option maxRecDepth 100000 in
set_option maxHeartbeats 4000000 in
theorem c_X8_sumOfHardness (l : Launch) (G : va_G) (E : EE)  (D : DD) (r : RT) (h : S_X8_sumOfHardness  D = some r) : MM l G E yX8_sumOfHardness cX8_sumOfHardness 3 (some .int) (rmm 0) [.ref (E.1 1)] D r := by
  unfold S_X8_sumOfHardness at h
  refine m_of rfl (Nat.le_of_ble_eq_true rfl) ?_
  intro p e s m args below meth c X hr
  exact run_G (T := T_X8_sumOfHardness) (HG := hg_X8_sumOfHardness p l e s m args below meth c G E r) (by
    intro k ls D o hT h1 h2
    unfold T_X8_sumOfHardness at hT
    split at hT
    · exact bl_X8_sumOfHardness_0 X hr  D o hT h1 h2
    · exact bl_X8_sumOfHardness_1 X hr _ _ D o hT h1 h2
    · cases hT) FUEL 0 [] D h
theorem kn_X8_68 : Cond.methodLinkNest RX8 68 yX12_cellAt "StoneQuarry" ∈ NEST := nst 644 (by decide +kernel) rfl
theorem kv_X8_72 : GoodIn UT (wsV RX8 72 RX8 yX8_openAt (Cond.code yX8_openAt cX8_openAt 2 (some .boolean) :: UT)) := gu_V (ut 645 (by decide +kernel) (by decide +kernel)) wm_X8_openAt we_X8_openAt wi_RX8 wc_X8_openAt
def S_X8_faultOfHardness (a0 : Int32) (a1 : Int32) (a2 : Int32) (D : DD) : Option RT := (cI (S_X12_cellAt a0 a1 D) (fun r3 D2 => (if r3 = (-1 : Int32) then some (0, some (.int (1 : Int32)), D2) else (cI (S_X12_inRange a2 (1 : Int32) (9 : Int32) D2) (fun r6 D5 => (if r6 = 0 then some (0, some (.int (1 : Int32)), D5) else (cI (S_X8_openAt r3 D5) (fun r9 D8 => (if r9 = 0 then some (0, some (.int (0 : Int32)), D8) else some (0, some (.int (2 : Int32)), D8))))))))))
set_option maxRecDepth 100000 in
set_option maxHeartbeats 4000000 in
theorem c_X8_faultOfHardness (l : Launch) (G : va_G) (E : EE) (a0 : Int32) (a1 : Int32) (a2 : Int32) (D : DD) (r : RT) (h : S_X8_faultOfHardness a0 a1 a2 D = some r) : MM l G E yX8_faultOfHardness cX8_faultOfHardness 5 (some .int) (rmm 2) [.ref (E.1 1), .int a0, .int a1, .int a2] D r := by
  refine m_of rfl (Nat.le_of_ble_eq_true rfl) ?_
  intro p e s m args below meth c X hr
  unfold S_X8_faultOfHardness at h
  refine g_iload_n X 1 (i0 := 1) dX8_faultOfHardness_0 rfl rfl ?_
  refine g_iload_n X 2 (i0 := 2) dX8_faultOfHardness_1 rfl rfl ?_
  obtain ⟨r3, D2, e1, h⟩ := cI_s h
  refine g_SN X (As := [.int a0, .int a1]) (rest := []) (c_X12_cellAt l G E a0 a1 _ _ e1) wc_X12_cellAt kn_X8_68 wi_RX12 wt_X12_cellAt ⟨rfl, rfl⟩ hd_X12_cellAt (⟨Nat.le_of_ble_eq_true rfl, Nat.le_of_ble_eq_true rfl⟩) rfl rfl (Nat.le_of_ble_eq_true rfl) dX8_faultOfHardness_2 ?_
  refine g_istore X (lv' := [(4, .int r3), (0, .ref (E.1 1)), (1, .int a0), (2, .int a1), (3, .int a2)]) dX8_faultOfHardness_5 (by decide) rfl ?_
  refine g_iload X 0 dX8_faultOfHardness_7 rfl ?_
  refine g_iconst X (v := (-1 : Int32)) dX8_faultOfHardness_9 (by decide) ?_
  refine g_icmp_eq X (tgt := 23) dX8_faultOfHardness_10 (by decide) (fun c12 => ?_) (fun c12 => ?_)
  · have h := (ite_s h).1 c12
    refine g_iconst X (v := (1 : Int32)) dX8_faultOfHardness_23 (by decide) ?_
    exact g_iret X hr rfl dX8_faultOfHardness_24 (Option.some.inj h)
  · have h := (ite_s h).2 c12
    refine g_iload_n X 4 (i0 := 3) dX8_faultOfHardness_13 rfl rfl ?_
    refine g_iconst X (v := (1 : Int32)) dX8_faultOfHardness_14 (by decide) ?_
    refine g_bipush X (v := (9 : Int32)) dX8_faultOfHardness_15 (by decide) ?_
    obtain ⟨r6, D5, e4, h⟩ := cI_s h
    refine g_SN X (As := [.int a2, .int (1 : Int32), .int (9 : Int32)]) (rest := []) (c_X12_inRange l G E a2 (1 : Int32) (9 : Int32) _ _ e4) wc_X12_inRange kn_X8_64 wi_RX12 wt_X12_inRange ⟨rfl, rfl⟩ hd_X12_inRange (⟨Nat.le_of_ble_eq_true rfl, Nat.le_of_ble_eq_true rfl⟩) rfl rfl (Nat.le_of_ble_eq_true rfl) dX8_faultOfHardness_17 ?_
    refine g_if_ne X (tgt := 25) dX8_faultOfHardness_20 (by decide) (fun c11 => ?_) (fun c11 => ?_)
    · have h := (ite_s h).2 c11
      refine g_aload_n X 1 (i0 := 0) dX8_faultOfHardness_25 rfl rfl ?_
      refine g_iload X 0 dX8_faultOfHardness_26 rfl ?_
      obtain ⟨r9, D8, e7, h⟩ := cI_s h
      refine g_V X (As := [.int r3]) (rest := []) (c_X8_openAt l G E r3 _ _ e7) 1 (wg_1 E _) rfl rfl kv_X8_72 ⟨rfl, rfl⟩ ⟨rfl, hd_X8_openAt⟩ (⟨Nat.le_of_ble_eq_true rfl, Nat.le_of_ble_eq_true rfl⟩) rfl rfl (Nat.le_of_ble_eq_true rfl) dX8_faultOfHardness_28 ?_
      refine g_if_eq X (tgt := 38) dX8_faultOfHardness_31 (by decide) (fun c10 => ?_) (fun c10 => ?_)
      · have h := (ite_s h).1 c10
        refine g_iconst X (v := (0 : Int32)) dX8_faultOfHardness_38 (by decide) ?_
        exact g_iret X hr rfl dX8_faultOfHardness_39 (Option.some.inj h)
      · have h := (ite_s h).2 c10
        refine g_iconst X (v := (2 : Int32)) dX8_faultOfHardness_34 (by decide) ?_
        refine g_goto X (tgt := 39) dX8_faultOfHardness_35 (by decide) ?_
        exact g_iret X hr rfl dX8_faultOfHardness_39 (Option.some.inj h)
    · have h := (ite_s h).1 c11
      refine g_iconst X (v := (1 : Int32)) dX8_faultOfHardness_23 (by decide) ?_
      exact g_iret X hr rfl dX8_faultOfHardness_24 (Option.some.inj h)
theorem ks_X12_112 : GoodIn UT (va_wsS RX12 112 yX12_cellAt (Cond.code yX12_cellAt cX12_cellAt 2 (some .int) :: UT)) := gu_S (ut 408 (by decide +kernel) (by decide +kernel)) wt_X12_cellAt wi_RX12 wc_X12_cellAt
def S_X12_neighbourOf (a0 : Int32) (a1 : Int32) (D : DD) : Option RT := (if a1 = (0 : Int32) then (cI (S_X12_cellAt ((a0 / (6 : Int32)) - (1 : Int32)) (a0 - a0 / (6 : Int32) * (6 : Int32)) D) (fun r4 D3 => some (0, some (.int r4), D3))) else (if a1 = (1 : Int32) then (cI (S_X12_cellAt (a0 / (6 : Int32)) ((a0 - a0 / (6 : Int32) * (6 : Int32)) + (1 : Int32)) D) (fun r8 D7 => some (0, some (.int r8), D7))) else (if a1 = (2 : Int32) then (cI (S_X12_cellAt ((a0 / (6 : Int32)) + (1 : Int32)) (a0 - a0 / (6 : Int32) * (6 : Int32)) D) (fun r12 D11 => some (0, some (.int r12), D11))) else (if a1 = (3 : Int32) then (cI (S_X12_cellAt (a0 / (6 : Int32)) ((a0 - a0 / (6 : Int32) * (6 : Int32)) - (1 : Int32)) D) (fun r16 D15 => some (0, some (.int r16), D15))) else some (0, some (.int (-1 : Int32)), D)))))
set_option maxRecDepth 100000 in
set_option maxHeartbeats 4000000 in
theorem c_X12_neighbourOf (l : Launch) (G : va_G) (E : EE) (a0 : Int32) (a1 : Int32) (D : DD) (r : RT) (h : S_X12_neighbourOf a0 a1 D = some r) : MM l G E yX12_neighbourOf cX12_neighbourOf 4 (some .int) (rmm 1) [.int a0, .int a1] D r := by
  refine m_of rfl (Nat.le_of_ble_eq_true rfl) ?_
  intro p e s m args below meth c X hr
  unfold S_X12_neighbourOf at h
  refine g_iload_n X 0 (i0 := 0) dX12_neighbourOf_0 rfl rfl ?_
  refine g_bipush X (v := (6 : Int32)) dX12_neighbourOf_1 (by decide) ?_
  refine g_idiv X (by decide) dX12_neighbourOf_3 ?_
  refine g_istore_n X (i0 := 2) (lv' := [(2, .int (a0 / (6 : Int32))), (0, .int a0), (1, .int a1)]) dX12_neighbourOf_4 rfl (by decide) rfl ?_
  refine g_iload_n X 1 (i0 := 0) dX12_neighbourOf_5 rfl rfl ?_
  refine g_bipush X (v := (6 : Int32)) dX12_neighbourOf_6 (by decide) ?_
  refine g_irem X (by decide) dX12_neighbourOf_8 ?_
  refine g_istore_n X (i0 := 3) (lv' := [(3, .int (a0 - a0 / (6 : Int32) * (6 : Int32))), (2, .int (a0 / (6 : Int32))), (0, .int a0), (1, .int a1)]) dX12_neighbourOf_9 rfl (by decide) rfl ?_
  refine g_iload_n X 3 (i0 := 1) dX12_neighbourOf_10 rfl rfl ?_
  by_cases w1 : a1 = (0 : Int32)
  · have h := (ite_s h).1 w1
    refine g_tswIn X (tgt := 40) dX12_neighbourOf_11 w1 (by decide) (by decide) rfl (by decide) ?_
    refine g_iload_n X 1 (i0 := 2) dX12_neighbourOf_40 rfl rfl ?_
    refine g_iconst X (v := (1 : Int32)) dX12_neighbourOf_41 (by decide) ?_
    refine g_isub X dX12_neighbourOf_42 ?_
    refine g_iload_n X 0 (i0 := 3) dX12_neighbourOf_43 rfl rfl ?_
    obtain ⟨r4, D3, e2, h⟩ := cI_s h
    refine g_S X (As := [.int ((a0 / (6 : Int32)) - (1 : Int32)), .int (a0 - a0 / (6 : Int32) * (6 : Int32))]) (rest := []) (c_X12_cellAt l G E ((a0 / (6 : Int32)) - (1 : Int32)) (a0 - a0 / (6 : Int32) * (6 : Int32)) _ _ e2) ks_X12_112 ⟨rfl, rfl⟩ hd_X12_cellAt (⟨Nat.le_of_ble_eq_true rfl, Nat.le_of_ble_eq_true rfl⟩) rfl rfl (Nat.le_of_ble_eq_true rfl) dX12_neighbourOf_44 ?_
    exact g_iret X hr rfl dX12_neighbourOf_47 (Option.some.inj h)
  have h := (ite_s h).2 w1
  by_cases w5 : a1 = (1 : Int32)
  · have h := (ite_s h).1 w5
    refine g_tswIn X (tgt := 48) dX12_neighbourOf_11 w5 (by decide) (by decide) rfl (by decide) ?_
    refine g_iload_n X 1 (i0 := 2) dX12_neighbourOf_48 rfl rfl ?_
    refine g_iload_n X 0 (i0 := 3) dX12_neighbourOf_49 rfl rfl ?_
    refine g_iconst X (v := (1 : Int32)) dX12_neighbourOf_50 (by decide) ?_
    refine g_iadd X dX12_neighbourOf_51 ?_
    obtain ⟨r8, D7, e6, h⟩ := cI_s h
    refine g_S X (As := [.int (a0 / (6 : Int32)), .int ((a0 - a0 / (6 : Int32) * (6 : Int32)) + (1 : Int32))]) (rest := []) (c_X12_cellAt l G E (a0 / (6 : Int32)) ((a0 - a0 / (6 : Int32) * (6 : Int32)) + (1 : Int32)) _ _ e6) ks_X12_112 ⟨rfl, rfl⟩ hd_X12_cellAt (⟨Nat.le_of_ble_eq_true rfl, Nat.le_of_ble_eq_true rfl⟩) rfl rfl (Nat.le_of_ble_eq_true rfl) dX12_neighbourOf_52 ?_
    exact g_iret X hr rfl dX12_neighbourOf_55 (Option.some.inj h)
  have h := (ite_s h).2 w5
  by_cases w9 : a1 = (2 : Int32)
  · have h := (ite_s h).1 w9
    refine g_tswIn X (tgt := 56) dX12_neighbourOf_11 w9 (by decide) (by decide) rfl (by decide) ?_
    refine g_iload_n X 1 (i0 := 2) dX12_neighbourOf_56 rfl rfl ?_
    refine g_iconst X (v := (1 : Int32)) dX12_neighbourOf_57 (by decide) ?_
    refine g_iadd X dX12_neighbourOf_58 ?_
    refine g_iload_n X 0 (i0 := 3) dX12_neighbourOf_59 rfl rfl ?_
    obtain ⟨r12, D11, e10, h⟩ := cI_s h
    refine g_S X (As := [.int ((a0 / (6 : Int32)) + (1 : Int32)), .int (a0 - a0 / (6 : Int32) * (6 : Int32))]) (rest := []) (c_X12_cellAt l G E ((a0 / (6 : Int32)) + (1 : Int32)) (a0 - a0 / (6 : Int32) * (6 : Int32)) _ _ e10) ks_X12_112 ⟨rfl, rfl⟩ hd_X12_cellAt (⟨Nat.le_of_ble_eq_true rfl, Nat.le_of_ble_eq_true rfl⟩) rfl rfl (Nat.le_of_ble_eq_true rfl) dX12_neighbourOf_60 ?_
    exact g_iret X hr rfl dX12_neighbourOf_63 (Option.some.inj h)
  have h := (ite_s h).2 w9
  by_cases w13 : a1 = (3 : Int32)
  · have h := (ite_s h).1 w13
    refine g_tswIn X (tgt := 64) dX12_neighbourOf_11 w13 (by decide) (by decide) rfl (by decide) ?_
    refine g_iload_n X 1 (i0 := 2) dX12_neighbourOf_64 rfl rfl ?_
    refine g_iload_n X 0 (i0 := 3) dX12_neighbourOf_65 rfl rfl ?_
    refine g_iconst X (v := (1 : Int32)) dX12_neighbourOf_66 (by decide) ?_
    refine g_isub X dX12_neighbourOf_67 ?_
    obtain ⟨r16, D15, e14, h⟩ := cI_s h
    refine g_S X (As := [.int (a0 / (6 : Int32)), .int ((a0 - a0 / (6 : Int32) * (6 : Int32)) - (1 : Int32))]) (rest := []) (c_X12_cellAt l G E (a0 / (6 : Int32)) ((a0 - a0 / (6 : Int32) * (6 : Int32)) - (1 : Int32)) _ _ e14) ks_X12_112 ⟨rfl, rfl⟩ hd_X12_cellAt (⟨Nat.le_of_ble_eq_true rfl, Nat.le_of_ble_eq_true rfl⟩) rfl rfl (Nat.le_of_ble_eq_true rfl) dX12_neighbourOf_68 ?_
    exact g_iret X hr rfl dX12_neighbourOf_71 (Option.some.inj h)
  have h := (ite_s h).2 w13
  have zw1 := lv_neT w1 (show (0 : Int32).toInt = 0 by decide)
  have zw5 := lv_neT w5 (show (1 : Int32).toInt = 1 by decide)
  have zw9 := lv_neT w9 (show (2 : Int32).toInt = 2 by decide)
  have zw13 := lv_neT w13 (show (3 : Int32).toInt = 3 by decide)
  refine g_tswOut X (tgt := 72) dX12_neighbourOf_11 (by omega) (by decide) ?_
  refine g_iconst X (v := (-1 : Int32)) dX12_neighbourOf_72 (by decide) ?_
  exact g_iret X hr rfl dX12_neighbourOf_73 (Option.some.inj h)
theorem hd_X12_neighbourOf : yX12_neighbourOf.cls ≠ "java/lang/invoke/MethodHandle" ∧ yX12_neighbourOf.cls ≠ "java/lang/invoke/VarHandle" ∧ (parseMethodDescriptor yX12_neighbourOf.desc).map (fun d => d.parameters.length) = some 2 := by decide +kernel
theorem kn_X8_84 : Cond.methodLinkNest RX8 84 yX12_neighbourOf "StoneQuarry" ∈ NEST := nst 770 (by decide +kernel) rfl
theorem wc_X12_neighbourOf : Cond.code yX12_neighbourOf cX12_neighbourOf 4 (some .int) ∈ UT := ut 407 (by decide +kernel) (by decide +kernel)
theorem wt_X12_neighbourOf : Cond.static yX12_neighbourOf ∈ UT := ut 406 (by decide +kernel) (by decide +kernel)
def b_X8_canBeReached_0 (a0 : Int32) (D : DD) : Option ((Nat × List Int32 × DD) ⊕ RT) := (if (a0 - a0 / (6 : Int32) * (6 : Int32)) = 0 then some (.inr (0, some (.int (1 : Int32)), D)) else some (.inl (1, [a0, (0 : Int32)], D)))
def b_X8_canBeReached_1 (x1 : Int32) (x2 : Int32) (D : DD) : Option ((Nat × List Int32 × DD) ⊕ RT) := (if (4 : Int32) ≤ x2 then some (.inr (0, some (.int (0 : Int32)), D)) else (cI (S_X12_neighbourOf x1 x2 D) (fun r4 D3 => (cI (S_X8_openAt r4 D3) (fun r7 D6 => (if r7 = 0 then some (.inl (1, [x1, (x2 + (1 : Int32))], D6)) else some (.inr (0, some (.int (1 : Int32)), D6))))))))
def T_X8_canBeReached (k : Nat) (ls : List Int32) (D : DD) : Option ((Nat × List Int32 × DD) ⊕ RT) := match k, ls with
  | 0, [a0] => b_X8_canBeReached_0 a0 D
  | 1, [x1, x2] => b_X8_canBeReached_1 x1 x2 D
  | _, _ => none
def S_X8_canBeReached (a0 : Int32) (D : DD) : Option RT := run T_X8_canBeReached FUEL 0 [a0] D
def hg_X8_canBeReached (p : Program) (l : Launch) (e : Env) (s : State) (m : MethodId) (args : Array Value) (below : List Frame) (meth : Method) (c : Code) (G : va_G) (E : EE) (r : RT) (k : Nat) (ls : List Int32) (D : DD) : Prop := match k, ls with
  | 0, [a0] => GW p l e (rmm 2) s m args below meth c G E 3 (MQ below (QR G E s.heap.size r) args s 0 0 (fr E s.heap.size)) 0 0 D 0 [(0, .ref (E.1 1)), (1, .int a0)] []
  | 1, [x1, x2] => GW p l e (rmm 2) s m args below meth c G E 3 (MQ below (QR G E s.heap.size r) args s 0 0 (fr E s.heap.size)) 0 0 D 11 [(0, .ref (E.1 1)), (1, .int x1), (2, .int x2)] []
  | _, _ => True
set_option maxRecDepth 100000 in
set_option maxHeartbeats 4000000 in
theorem bl_X8_canBeReached_0 {p : Program} {l : Launch} {e : Env} {s : State} {m : MethodId} {args : Array Value} {below : List Frame} {meth : Method} {c : Code} {G : va_G} {E : EE} {r : RT} (X : CX p s m args meth c cX8_canBeReached RX8 3 G E) (hr : meth.sig.returnType = (some .boolean)) (a0 : Int32) (D : DD) (o : (Nat × List Int32 × DD) ⊕ RT) (h : b_X8_canBeReached_0 a0 D = some o) (h1 : ∀ x, o = .inl x → hg_X8_canBeReached p l e s m args below meth c G E r x.1 x.2.1 x.2.2) (h2 : ∀ x, o = .inr x → x = r) : GW p l e (rmm 2) s m args below meth c G E 3 (MQ below (QR G E s.heap.size r) args s 0 0 (fr E s.heap.size)) 0 0 D 0 [(0, .ref (E.1 1)), (1, .int a0)] [] := by
  unfold b_X8_canBeReached_0 at h
  refine g_iload_n X 1 (i0 := 1) dX8_canBeReached_0 rfl rfl ?_
  refine g_bipush X (v := (6 : Int32)) dX8_canBeReached_1 (by decide) ?_
  refine g_irem X (by decide) dX8_canBeReached_3 ?_
  refine g_if_ne X (tgt := 9) dX8_canBeReached_4 (by decide) (fun c1 => ?_) (fun c1 => ?_)
  · have h := (ite_s h).2 c1
    refine g_iconst X (v := (0 : Int32)) dX8_canBeReached_9 (by decide) ?_
    refine g_istore_n X (i0 := 2) (lv' := [(2, .int (0 : Int32)), (0, .ref (E.1 1)), (1, .int a0)]) dX8_canBeReached_10 rfl (by decide) rfl ?_
    refine g_sub (lv' := [(0, .ref (E.1 1)), (1, .int a0), (2, .int (0 : Int32))]) [1, 2, 0] rfl ?_
    exact h1 _ (Option.some.inj h).symm
  · have h := (ite_s h).1 c1
    refine g_iconst X (v := (1 : Int32)) dX8_canBeReached_7 (by decide) ?_
    exact g_iret X hr rfl dX8_canBeReached_8 (h2 _ (Option.some.inj h).symm)
set_option maxRecDepth 100000 in
set_option maxHeartbeats 4000000 in
theorem bl_X8_canBeReached_1 {p : Program} {l : Launch} {e : Env} {s : State} {m : MethodId} {args : Array Value} {below : List Frame} {meth : Method} {c : Code} {G : va_G} {E : EE} {r : RT} (X : CX p s m args meth c cX8_canBeReached RX8 3 G E) (hr : meth.sig.returnType = (some .boolean)) (x1 : Int32) (x2 : Int32) (D : DD) (o : (Nat × List Int32 × DD) ⊕ RT) (h : b_X8_canBeReached_1 x1 x2 D = some o) (h1 : ∀ x, o = .inl x → hg_X8_canBeReached p l e s m args below meth c G E r x.1 x.2.1 x.2.2) (h2 : ∀ x, o = .inr x → x = r) : GW p l e (rmm 2) s m args below meth c G E 3 (MQ below (QR G E s.heap.size r) args s 0 0 (fr E s.heap.size)) 0 0 D 11 [(0, .ref (E.1 1)), (1, .int x1), (2, .int x2)] [] := by
  unfold b_X8_canBeReached_1 at h
  refine g_iload_n X 2 (i0 := 2) dX8_canBeReached_11 rfl rfl ?_
  refine g_iconst X (v := (4 : Int32)) dX8_canBeReached_12 (by decide) ?_
  refine g_icmp_ge X (tgt := 36) dX8_canBeReached_13 (by decide) (fun c9 => ?_) (fun c9 => ?_)
  · have h := (ite_s h).1 c9
    refine g_iconst X (v := (0 : Int32)) dX8_canBeReached_36 (by decide) ?_
    exact g_iret X hr rfl dX8_canBeReached_37 (h2 _ (Option.some.inj h).symm)
  · have h := (ite_s h).2 c9
    refine g_aload_n X 0 (i0 := 0) dX8_canBeReached_16 rfl rfl ?_
    refine g_iload_n X 1 (i0 := 1) dX8_canBeReached_17 rfl rfl ?_
    refine g_iload_n X 2 (i0 := 2) dX8_canBeReached_18 rfl rfl ?_
    obtain ⟨r4, D3, e2, h⟩ := cI_s h
    refine g_SN X (As := [.int x1, .int x2]) (rest := [.ref (E.1 1)]) (c_X12_neighbourOf l G E x1 x2 _ _ e2) wc_X12_neighbourOf kn_X8_84 wi_RX12 wt_X12_neighbourOf ⟨rfl, rfl⟩ hd_X12_neighbourOf (⟨Nat.le_of_ble_eq_true rfl, Nat.le_of_ble_eq_true rfl⟩) rfl rfl (Nat.le_of_ble_eq_true rfl) dX8_canBeReached_19 ?_
    obtain ⟨r7, D6, e5, h⟩ := cI_s h
    refine g_V X (As := [.int r4]) (rest := []) (c_X8_openAt l G E r4 _ _ e5) 1 (wg_1 E _) rfl rfl kv_X8_72 ⟨rfl, rfl⟩ ⟨rfl, hd_X8_openAt⟩ (⟨Nat.le_of_ble_eq_true rfl, Nat.le_of_ble_eq_true rfl⟩) rfl rfl (Nat.le_of_ble_eq_true rfl) dX8_canBeReached_22 ?_
    refine g_if_eq X (tgt := 30) dX8_canBeReached_25 (by decide) (fun c8 => ?_) (fun c8 => ?_)
    · have h := (ite_s h).1 c8
      refine g_iinc X 2 (v := (x2 + (1 : Int32))) (lv' := [(2, .int (x2 + (1 : Int32))), (0, .ref (E.1 1)), (1, .int x1)]) dX8_canBeReached_30 rfl rfl (by decide) rfl ?_
      refine g_goto X (tgt := 11) dX8_canBeReached_33 (by decide) ?_
      refine g_sub (lv' := [(0, .ref (E.1 1)), (1, .int x1), (2, .int (x2 + (1 : Int32)))]) [1, 2, 0] rfl ?_
      exact h1 _ (Option.some.inj h).symm
    · have h := (ite_s h).2 c8
      refine g_iconst X (v := (1 : Int32)) dX8_canBeReached_28 (by decide) ?_
      exact g_iret X hr rfl dX8_canBeReached_29 (h2 _ (Option.some.inj h).symm)
set_option maxRecDepth 100000 in
set_option maxHeartbeats 4000000 in
theorem c_X8_canBeReached (l : Launch) (G : va_G) (E : EE) (a0 : Int32) (D : DD) (r : RT) (h : S_X8_canBeReached a0 D = some r) : MM l G E yX8_canBeReached cX8_canBeReached 3 (some .boolean) (rmm 2) [.ref (E.1 1), .int a0] D r := by
  unfold S_X8_canBeReached at h
  refine m_of rfl (Nat.le_of_ble_eq_true rfl) ?_
  intro p e s m args below meth c X hr
  exact run_G (T := T_X8_canBeReached) (HG := hg_X8_canBeReached p l e s m args below meth c G E r) (by
    intro k ls D o hT h1 h2
    unfold T_X8_canBeReached at hT
    split at hT
    · exact bl_X8_canBeReached_0 X hr _ D o hT h1 h2
    · exact bl_X8_canBeReached_1 X hr _ _ D o hT h1 h2
    · cases hT) FUEL 0 [a0] D h
theorem hd_X8_canBeReached : yX8_canBeReached.cls ≠ "java/lang/invoke/MethodHandle" ∧ yX8_canBeReached.cls ≠ "java/lang/invoke/VarHandle" ∧ (parseMethodDescriptor yX8_canBeReached.desc).map (fun d => d.parameters.length) = some 1 := by decide +kernel
theorem kv_X8_75 : GoodIn UT (wsV RX8 75 RX8 yX8_chargedAt (Cond.code yX8_chargedAt cX8_chargedAt 3 (some .boolean) :: UT)) := gu_V (ut 761 (by decide +kernel) (by decide +kernel)) wm_X8_chargedAt we_X8_chargedAt wi_RX8 wc_X8_chargedAt
theorem wc_X8_canBeReached : Cond.code yX8_canBeReached cX8_canBeReached 3 (some .boolean) ∈ UT := ut 769 (by decide +kernel) (by decide +kernel)
theorem we_X8_canBeReached : Cond.selects RX8 yX8_canBeReached yX8_canBeReached ∈ UT := ut 19 (by decide +kernel) (by decide +kernel)
theorem wm_X8_canBeReached : Cond.instanceMethod yX8_canBeReached ∈ UT := ut 768 (by decide +kernel) (by decide +kernel)
theorem kv_X8_78 : GoodIn UT (wsV RX8 78 RX8 yX8_canBeReached (Cond.code yX8_canBeReached cX8_canBeReached 3 (some .boolean) :: UT)) := gu_V (ut 766 (by decide +kernel) (by decide +kernel)) wm_X8_canBeReached we_X8_canBeReached wi_RX8 wc_X8_canBeReached
theorem kv_X8_81 : GoodIn UT (wsV RX8 81 RX8 yX8_hardnessAt (Cond.code yX8_hardnessAt cX8_hardnessAt 2 (some .int) :: UT)) := gu_V (ut 771 (by decide +kernel) (by decide +kernel)) wm_X8_hardnessAt we_X8_hardnessAt wi_RX8 wc_X8_hardnessAt
def S_X8_faultOfDigging (a0 : Int32) (a1 : Int32) (D : DD) : Option RT := (cI (S_X12_cellAt a0 a1 D) (fun r3 D2 => (if r3 = (-1 : Int32) then some (0, some (.int (1 : Int32)), D2) else (cI (S_X8_openAt r3 D2) (fun r6 D5 => (if r6 = 0 then (cI (S_X8_chargedAt r3 D5) (fun r9 D8 => (if r9 = 0 then (cI (S_X8_canBeReached r3 D8) (fun r12 D11 => (if r12 = 0 then some (0, some (.int (2 : Int32)), D11) else (cI (S_X8_hardnessAt r3 D11) (fun r15 D14 => (if 0 ≤ (lg_cmp (D11.2.1 0) r15.toInt64) then some (0, some (.int (0 : Int32)), D14) else some (0, some (.int (3 : Int32)), D14))))))) else some (0, some (.int (2 : Int32)), D8)))) else some (0, some (.int (2 : Int32)), D5)))))))
set_option maxRecDepth 100000 in
set_option maxHeartbeats 4000000 in
theorem c_X8_faultOfDigging (l : Launch) (G : va_G) (E : EE) (a0 : Int32) (a1 : Int32) (D : DD) (r : RT) (h : S_X8_faultOfDigging a0 a1 D = some r) : MM l G E yX8_faultOfDigging cX8_faultOfDigging 4 (some .int) (rmm 3) [.ref (E.1 1), .int a0, .int a1] D r := by
  refine m_of rfl (Nat.le_of_ble_eq_true rfl) ?_
  intro p e s m args below meth c X hr
  unfold S_X8_faultOfDigging at h
  refine g_iload_n X 1 (i0 := 1) dX8_faultOfDigging_0 rfl rfl ?_
  refine g_iload_n X 2 (i0 := 2) dX8_faultOfDigging_1 rfl rfl ?_
  obtain ⟨r3, D2, e1, h⟩ := cI_s h
  refine g_SN X (As := [.int a0, .int a1]) (rest := []) (c_X12_cellAt l G E a0 a1 _ _ e1) wc_X12_cellAt kn_X8_68 wi_RX12 wt_X12_cellAt ⟨rfl, rfl⟩ hd_X12_cellAt (⟨Nat.le_of_ble_eq_true rfl, Nat.le_of_ble_eq_true rfl⟩) rfl rfl (Nat.le_of_ble_eq_true rfl) dX8_faultOfDigging_2 ?_
  refine g_istore_n X (i0 := 3) (lv' := [(3, .int r3), (0, .ref (E.1 1)), (1, .int a0), (2, .int a1)]) dX8_faultOfDigging_5 rfl (by decide) rfl ?_
  refine g_iload_n X 0 (i0 := 3) dX8_faultOfDigging_6 rfl rfl ?_
  refine g_iconst X (v := (-1 : Int32)) dX8_faultOfDigging_7 (by decide) ?_
  refine g_icmp_ne X (tgt := 13) dX8_faultOfDigging_8 (by decide) (fun c20 => ?_) (fun c20 => ?_)
  · have h := (ite_s h).2 c20
    refine g_aload_n X 1 (i0 := 0) dX8_faultOfDigging_13 rfl rfl ?_
    refine g_iload_n X 0 (i0 := 3) dX8_faultOfDigging_14 rfl rfl ?_
    obtain ⟨r6, D5, e4, h⟩ := cI_s h
    refine g_V X (As := [.int r3]) (rest := []) (c_X8_openAt l G E r3 _ _ e4) 1 (wg_1 E _) rfl rfl kv_X8_72 ⟨rfl, rfl⟩ ⟨rfl, hd_X8_openAt⟩ (⟨Nat.le_of_ble_eq_true rfl, Nat.le_of_ble_eq_true rfl⟩) rfl rfl (Nat.le_of_ble_eq_true rfl) dX8_faultOfDigging_15 ?_
    refine g_if_ne X (tgt := 37) dX8_faultOfDigging_18 (by decide) (fun c19 => ?_) (fun c19 => ?_)
    · have h := (ite_s h).2 c19
      refine g_iconst X (v := (2 : Int32)) dX8_faultOfDigging_37 (by decide) ?_
      exact g_iret X hr rfl dX8_faultOfDigging_38 (Option.some.inj h)
    · have h := (ite_s h).1 c19
      refine g_aload_n X 1 (i0 := 0) dX8_faultOfDigging_21 rfl rfl ?_
      refine g_iload_n X 0 (i0 := 3) dX8_faultOfDigging_22 rfl rfl ?_
      obtain ⟨r9, D8, e7, h⟩ := cI_s h
      refine g_V X (As := [.int r3]) (rest := []) (c_X8_chargedAt l G E r3 _ _ e7) 1 (wg_1 E _) rfl rfl kv_X8_75 ⟨rfl, rfl⟩ ⟨rfl, hd_X8_chargedAt⟩ (⟨Nat.le_of_ble_eq_true rfl, Nat.le_of_ble_eq_true rfl⟩) rfl rfl (Nat.le_of_ble_eq_true rfl) dX8_faultOfDigging_23 ?_
      refine g_if_ne X (tgt := 37) dX8_faultOfDigging_26 (by decide) (fun c18 => ?_) (fun c18 => ?_)
      · have h := (ite_s h).2 c18
        refine g_iconst X (v := (2 : Int32)) dX8_faultOfDigging_37 (by decide) ?_
        exact g_iret X hr rfl dX8_faultOfDigging_38 (Option.some.inj h)
      · have h := (ite_s h).1 c18
        refine g_aload_n X 1 (i0 := 0) dX8_faultOfDigging_29 rfl rfl ?_
        refine g_iload_n X 0 (i0 := 3) dX8_faultOfDigging_30 rfl rfl ?_
        obtain ⟨r12, D11, e10, h⟩ := cI_s h
        refine g_V X (As := [.int r3]) (rest := []) (c_X8_canBeReached l G E r3 _ _ e10) 1 (wg_1 E _) rfl rfl kv_X8_78 ⟨rfl, rfl⟩ ⟨rfl, hd_X8_canBeReached⟩ (⟨Nat.le_of_ble_eq_true rfl, Nat.le_of_ble_eq_true rfl⟩) rfl rfl (Nat.le_of_ble_eq_true rfl) dX8_faultOfDigging_31 ?_
        refine g_if_ne X (tgt := 39) dX8_faultOfDigging_34 (by decide) (fun c17 => ?_) (fun c17 => ?_)
        · have h := (ite_s h).2 c17
          refine g_aload_n X 1 (i0 := 0) dX8_faultOfDigging_39 rfl rfl ?_
          refine g_get X (D := D11) (v := .long (D11.2.1 0)) (T := TX8) 1 uX8 (wg_1 E _) rfl 8 (by decide) fl_X8_49 rfl rfl dX8_faultOfDigging_40 ?_
          refine g_aload_n X 1 (i0 := 0) dX8_faultOfDigging_43 rfl rfl ?_
          refine g_iload_n X 0 (i0 := 3) dX8_faultOfDigging_44 rfl rfl ?_
          obtain ⟨r15, D14, e13, h⟩ := cI_s h
          refine g_V X (As := [.int r3]) (rest := [.long (D11.2.1 0)]) (c_X8_hardnessAt l G E r3 _ _ e13) 1 (wg_1 E _) rfl rfl kv_X8_81 ⟨rfl, rfl⟩ ⟨rfl, hd_X8_hardnessAt⟩ (⟨Nat.le_of_ble_eq_true rfl, Nat.le_of_ble_eq_true rfl⟩) rfl rfl (Nat.le_of_ble_eq_true rfl) dX8_faultOfDigging_45 ?_
          refine g_i2l X dX8_faultOfDigging_48 ?_
          refine g_lcmp X dX8_faultOfDigging_49 ?_
          refine g_if_ge X (tgt := 57) dX8_faultOfDigging_50 (by decide) (fun c16 => ?_) (fun c16 => ?_)
          · have h := (ite_s h).1 c16
            refine g_iconst X (v := (0 : Int32)) dX8_faultOfDigging_57 (by decide) ?_
            exact g_iret X hr rfl dX8_faultOfDigging_58 (Option.some.inj h)
          · have h := (ite_s h).2 c16
            refine g_iconst X (v := (3 : Int32)) dX8_faultOfDigging_53 (by decide) ?_
            refine g_goto X (tgt := 58) dX8_faultOfDigging_54 (by decide) ?_
            exact g_iret X hr rfl dX8_faultOfDigging_58 (Option.some.inj h)
        · have h := (ite_s h).1 c17
          refine g_iconst X (v := (2 : Int32)) dX8_faultOfDigging_37 (by decide) ?_
          exact g_iret X hr rfl dX8_faultOfDigging_38 (Option.some.inj h)
  · have h := (ite_s h).1 c20
    refine g_iconst X (v := (1 : Int32)) dX8_faultOfDigging_11 (by decide) ?_
    exact g_iret X hr rfl dX8_faultOfDigging_12 (Option.some.inj h)
def S_X8_faultOfLaying (a0 : Int32) (a1 : Int32) (a2 : Int32) (D : DD) : Option RT := (cI (S_X12_cellAt a0 a1 D) (fun r3 D2 => (if r3 = (-1 : Int32) then some (0, some (.int (1 : Int32)), D2) else (cI (S_X12_inRange a2 (1 : Int32) (9 : Int32) D2) (fun r6 D5 => (if r6 = 0 then some (0, some (.int (1 : Int32)), D5) else (if (6 : Int32) ≤ (D5.1 0) then some (0, some (.int (2 : Int32)), D5) else (cI (S_X8_openAt r3 D5) (fun r9 D8 => (if r9 = 0 then (cI (S_X8_chargedAt r3 D8) (fun r12 D11 => (if r12 = 0 then some (0, some (.int (0 : Int32)), D11) else some (0, some (.int (2 : Int32)), D11)))) else some (0, some (.int (2 : Int32)), D8)))))))))))
set_option maxRecDepth 100000 in
set_option maxHeartbeats 4000000 in
theorem c_X8_faultOfLaying (l : Launch) (G : va_G) (E : EE) (a0 : Int32) (a1 : Int32) (a2 : Int32) (D : DD) (r : RT) (h : S_X8_faultOfLaying a0 a1 a2 D = some r) : MM l G E yX8_faultOfLaying cX8_faultOfLaying 5 (some .int) (rmm 3) [.ref (E.1 1), .int a0, .int a1, .int a2] D r := by
  refine m_of rfl (Nat.le_of_ble_eq_true rfl) ?_
  intro p e s m args below meth c X hr
  unfold S_X8_faultOfLaying at h
  refine g_iload_n X 1 (i0 := 1) dX8_faultOfLaying_0 rfl rfl ?_
  refine g_iload_n X 2 (i0 := 2) dX8_faultOfLaying_1 rfl rfl ?_
  obtain ⟨r3, D2, e1, h⟩ := cI_s h
  refine g_SN X (As := [.int a0, .int a1]) (rest := []) (c_X12_cellAt l G E a0 a1 _ _ e1) wc_X12_cellAt kn_X8_68 wi_RX12 wt_X12_cellAt ⟨rfl, rfl⟩ hd_X12_cellAt (⟨Nat.le_of_ble_eq_true rfl, Nat.le_of_ble_eq_true rfl⟩) rfl rfl (Nat.le_of_ble_eq_true rfl) dX8_faultOfLaying_2 ?_
  refine g_istore X (lv' := [(4, .int r3), (0, .ref (E.1 1)), (1, .int a0), (2, .int a1), (3, .int a2)]) dX8_faultOfLaying_5 (by decide) rfl ?_
  refine g_iload X 0 dX8_faultOfLaying_7 rfl ?_
  refine g_iconst X (v := (-1 : Int32)) dX8_faultOfLaying_9 (by decide) ?_
  refine g_icmp_eq X (tgt := 23) dX8_faultOfLaying_10 (by decide) (fun c17 => ?_) (fun c17 => ?_)
  · have h := (ite_s h).1 c17
    refine g_iconst X (v := (1 : Int32)) dX8_faultOfLaying_23 (by decide) ?_
    exact g_iret X hr rfl dX8_faultOfLaying_24 (Option.some.inj h)
  · have h := (ite_s h).2 c17
    refine g_iload_n X 4 (i0 := 3) dX8_faultOfLaying_13 rfl rfl ?_
    refine g_iconst X (v := (1 : Int32)) dX8_faultOfLaying_14 (by decide) ?_
    refine g_bipush X (v := (9 : Int32)) dX8_faultOfLaying_15 (by decide) ?_
    obtain ⟨r6, D5, e4, h⟩ := cI_s h
    refine g_SN X (As := [.int a2, .int (1 : Int32), .int (9 : Int32)]) (rest := []) (c_X12_inRange l G E a2 (1 : Int32) (9 : Int32) _ _ e4) wc_X12_inRange kn_X8_64 wi_RX12 wt_X12_inRange ⟨rfl, rfl⟩ hd_X12_inRange (⟨Nat.le_of_ble_eq_true rfl, Nat.le_of_ble_eq_true rfl⟩) rfl rfl (Nat.le_of_ble_eq_true rfl) dX8_faultOfLaying_17 ?_
    refine g_if_ne X (tgt := 25) dX8_faultOfLaying_20 (by decide) (fun c16 => ?_) (fun c16 => ?_)
    · have h := (ite_s h).2 c16
      refine g_aload_n X 1 (i0 := 0) dX8_faultOfLaying_25 rfl rfl ?_
      refine g_get X (D := D5) (v := .int (D5.1 0)) (T := TX8) 1 uX8 (wg_1 E _) rfl 4 (by decide) fl_X8_36 rfl rfl dX8_faultOfLaying_26 ?_
      refine g_bipush X (v := (6 : Int32)) dX8_faultOfLaying_29 (by decide) ?_
      refine g_icmp_ge X (tgt := 52) dX8_faultOfLaying_31 (by decide) (fun c15 => ?_) (fun c15 => ?_)
      · have h := (ite_s h).1 c15
        refine g_iconst X (v := (2 : Int32)) dX8_faultOfLaying_52 (by decide) ?_
        refine g_goto X (tgt := 57) dX8_faultOfLaying_53 (by decide) ?_
        exact g_iret X hr rfl dX8_faultOfLaying_57 (Option.some.inj h)
      · have h := (ite_s h).2 c15
        refine g_aload_n X 1 (i0 := 0) dX8_faultOfLaying_34 rfl rfl ?_
        refine g_iload X 0 dX8_faultOfLaying_35 rfl ?_
        obtain ⟨r9, D8, e7, h⟩ := cI_s h
        refine g_V X (As := [.int r3]) (rest := []) (c_X8_openAt l G E r3 _ _ e7) 1 (wg_1 E _) rfl rfl kv_X8_72 ⟨rfl, rfl⟩ ⟨rfl, hd_X8_openAt⟩ (⟨Nat.le_of_ble_eq_true rfl, Nat.le_of_ble_eq_true rfl⟩) rfl rfl (Nat.le_of_ble_eq_true rfl) dX8_faultOfLaying_37 ?_
        refine g_if_ne X (tgt := 52) dX8_faultOfLaying_40 (by decide) (fun c14 => ?_) (fun c14 => ?_)
        · have h := (ite_s h).2 c14
          refine g_iconst X (v := (2 : Int32)) dX8_faultOfLaying_52 (by decide) ?_
          refine g_goto X (tgt := 57) dX8_faultOfLaying_53 (by decide) ?_
          exact g_iret X hr rfl dX8_faultOfLaying_57 (Option.some.inj h)
        · have h := (ite_s h).1 c14
          refine g_aload_n X 1 (i0 := 0) dX8_faultOfLaying_43 rfl rfl ?_
          refine g_iload X 0 dX8_faultOfLaying_44 rfl ?_
          obtain ⟨r12, D11, e10, h⟩ := cI_s h
          refine g_V X (As := [.int r3]) (rest := []) (c_X8_chargedAt l G E r3 _ _ e10) 1 (wg_1 E _) rfl rfl kv_X8_75 ⟨rfl, rfl⟩ ⟨rfl, hd_X8_chargedAt⟩ (⟨Nat.le_of_ble_eq_true rfl, Nat.le_of_ble_eq_true rfl⟩) rfl rfl (Nat.le_of_ble_eq_true rfl) dX8_faultOfLaying_46 ?_
          refine g_if_eq X (tgt := 56) dX8_faultOfLaying_49 (by decide) (fun c13 => ?_) (fun c13 => ?_)
          · have h := (ite_s h).1 c13
            refine g_iconst X (v := (0 : Int32)) dX8_faultOfLaying_56 (by decide) ?_
            exact g_iret X hr rfl dX8_faultOfLaying_57 (Option.some.inj h)
          · have h := (ite_s h).2 c13
            refine g_iconst X (v := (2 : Int32)) dX8_faultOfLaying_52 (by decide) ?_
            refine g_goto X (tgt := 57) dX8_faultOfLaying_53 (by decide) ?_
            exact g_iret X hr rfl dX8_faultOfLaying_57 (Option.some.inj h)
    · have h := (ite_s h).1 c16
      refine g_iconst X (v := (1 : Int32)) dX8_faultOfLaying_23 (by decide) ?_
      exact g_iret X hr rfl dX8_faultOfLaying_24 (Option.some.inj h)
def S_X8_faultOfPrice (a0 : Int32) (a1 : Int32) (D : DD) : Option RT := (cI (S_X12_inRange a0 (1 : Int32) (10 : Int32) D) (fun r3 D2 => (if r3 = 0 then some (0, some (.int (1 : Int32)), D2) else (cI (S_X12_inRange a1 (0 : Int32) (99 : Int32) D2) (fun r6 D5 => (if r6 = 0 then some (0, some (.int (1 : Int32)), D5) else some (0, some (.int (0 : Int32)), D5)))))))
set_option maxRecDepth 100000 in
set_option maxHeartbeats 4000000 in
theorem c_X8_faultOfPrice (l : Launch) (G : va_G) (E : EE) (a0 : Int32) (a1 : Int32) (D : DD) (r : RT) (h : S_X8_faultOfPrice a0 a1 D = some r) : MM l G E yX8_faultOfPrice cX8_faultOfPrice 3 (some .int) (rmm 1) [.ref (E.1 1), .int a0, .int a1] D r := by
  refine m_of rfl (Nat.le_of_ble_eq_true rfl) ?_
  intro p e s m args below meth c X hr
  unfold S_X8_faultOfPrice at h
  refine g_iload_n X 1 (i0 := 1) dX8_faultOfPrice_0 rfl rfl ?_
  refine g_iconst X (v := (1 : Int32)) dX8_faultOfPrice_1 (by decide) ?_
  refine g_bipush X (v := (10 : Int32)) dX8_faultOfPrice_2 (by decide) ?_
  obtain ⟨r3, D2, e1, h⟩ := cI_s h
  refine g_SN X (As := [.int a0, .int (1 : Int32), .int (10 : Int32)]) (rest := []) (c_X12_inRange l G E a0 (1 : Int32) (10 : Int32) _ _ e1) wc_X12_inRange kn_X8_64 wi_RX12 wt_X12_inRange ⟨rfl, rfl⟩ hd_X12_inRange (⟨Nat.le_of_ble_eq_true rfl, Nat.le_of_ble_eq_true rfl⟩) rfl rfl (Nat.le_of_ble_eq_true rfl) dX8_faultOfPrice_4 ?_
  refine g_if_eq X (tgt := 24) dX8_faultOfPrice_7 (by decide) (fun c8 => ?_) (fun c8 => ?_)
  · have h := (ite_s h).1 c8
    refine g_iconst X (v := (1 : Int32)) dX8_faultOfPrice_24 (by decide) ?_
    exact g_iret X hr rfl dX8_faultOfPrice_25 (Option.some.inj h)
  · have h := (ite_s h).2 c8
    refine g_iload_n X 2 (i0 := 2) dX8_faultOfPrice_10 rfl rfl ?_
    refine g_iconst X (v := (0 : Int32)) dX8_faultOfPrice_11 (by decide) ?_
    refine g_bipush X (v := (99 : Int32)) dX8_faultOfPrice_12 (by decide) ?_
    obtain ⟨r6, D5, e4, h⟩ := cI_s h
    refine g_SN X (As := [.int a1, .int (0 : Int32), .int (99 : Int32)]) (rest := []) (c_X12_inRange l G E a1 (0 : Int32) (99 : Int32) _ _ e4) wc_X12_inRange kn_X8_64 wi_RX12 wt_X12_inRange ⟨rfl, rfl⟩ hd_X12_inRange (⟨Nat.le_of_ble_eq_true rfl, Nat.le_of_ble_eq_true rfl⟩) rfl rfl (Nat.le_of_ble_eq_true rfl) dX8_faultOfPrice_14 ?_
    refine g_if_eq X (tgt := 24) dX8_faultOfPrice_17 (by decide) (fun c7 => ?_) (fun c7 => ?_)
    · have h := (ite_s h).1 c7
      refine g_iconst X (v := (1 : Int32)) dX8_faultOfPrice_24 (by decide) ?_
      exact g_iret X hr rfl dX8_faultOfPrice_25 (Option.some.inj h)
    · have h := (ite_s h).2 c7
      refine g_iconst X (v := (0 : Int32)) dX8_faultOfPrice_20 (by decide) ?_
      refine g_goto X (tgt := 25) dX8_faultOfPrice_21 (by decide) ?_
      exact g_iret X hr rfl dX8_faultOfPrice_25 (Option.some.inj h)
def S_X8_faultOfSelling (a0 : Int32) (D : DD) : Option RT := (cI (S_X12_inRange a0 (1 : Int32) (30 : Int32) D) (fun r3 D2 => (if r3 = 0 then some (0, some (.int (1 : Int32)), D2) else (if a0 ≤ (D2.1 1) then some (0, some (.int (0 : Int32)), D2) else some (0, some (.int (3 : Int32)), D2)))))
set_option maxRecDepth 100000 in
set_option maxHeartbeats 4000000 in
theorem c_X8_faultOfSelling (l : Launch) (G : va_G) (E : EE) (a0 : Int32) (D : DD) (r : RT) (h : S_X8_faultOfSelling a0 D = some r) : MM l G E yX8_faultOfSelling cX8_faultOfSelling 2 (some .int) (rmm 1) [.ref (E.1 1), .int a0] D r := by
  refine m_of rfl (Nat.le_of_ble_eq_true rfl) ?_
  intro p e s m args below meth c X hr
  unfold S_X8_faultOfSelling at h
  refine g_iload_n X 1 (i0 := 1) dX8_faultOfSelling_0 rfl rfl ?_
  refine g_iconst X (v := (1 : Int32)) dX8_faultOfSelling_1 (by decide) ?_
  refine g_bipush X (v := (30 : Int32)) dX8_faultOfSelling_2 (by decide) ?_
  obtain ⟨r3, D2, e1, h⟩ := cI_s h
  refine g_SN X (As := [.int a0, .int (1 : Int32), .int (30 : Int32)]) (rest := []) (c_X12_inRange l G E a0 (1 : Int32) (30 : Int32) _ _ e1) wc_X12_inRange kn_X8_64 wi_RX12 wt_X12_inRange ⟨rfl, rfl⟩ hd_X12_inRange (⟨Nat.le_of_ble_eq_true rfl, Nat.le_of_ble_eq_true rfl⟩) rfl rfl (Nat.le_of_ble_eq_true rfl) dX8_faultOfSelling_4 ?_
  refine g_if_ne X (tgt := 12) dX8_faultOfSelling_7 (by decide) (fun c5 => ?_) (fun c5 => ?_)
  · have h := (ite_s h).2 c5
    refine g_aload_n X 0 (i0 := 0) dX8_faultOfSelling_12 rfl rfl ?_
    refine g_get X (D := D2) (v := .int (D2.1 1)) (T := TX8) 1 uX8 (wg_1 E _) rfl 5 (by decide) fl_X8_40 rfl rfl dX8_faultOfSelling_13 ?_
    refine g_iload_n X 1 (i0 := 1) dX8_faultOfSelling_16 rfl rfl ?_
    refine g_icmp_ge X (tgt := 24) dX8_faultOfSelling_17 (by decide) (fun c4 => ?_) (fun c4 => ?_)
    · have h := (ite_s h).1 c4
      refine g_iconst X (v := (0 : Int32)) dX8_faultOfSelling_24 (by decide) ?_
      exact g_iret X hr rfl dX8_faultOfSelling_25 (Option.some.inj h)
    · have h := (ite_s h).2 c4
      refine g_iconst X (v := (3 : Int32)) dX8_faultOfSelling_20 (by decide) ?_
      refine g_goto X (tgt := 25) dX8_faultOfSelling_21 (by decide) ?_
      exact g_iret X hr rfl dX8_faultOfSelling_25 (Option.some.inj h)
  · have h := (ite_s h).1 c5
    refine g_iconst X (v := (1 : Int32)) dX8_faultOfSelling_10 (by decide) ?_
    exact g_iret X hr rfl dX8_faultOfSelling_11 (Option.some.inj h)
def S_X8_harden (a0 : Int32) (a1 : Int32) (D : DD) : Option RT := (cI (S_X12_isCell a0 D) (fun r3 D2 => (if r3 = 0 then some (0, some (.int (0 : Int32)), D2) else (if inB a0 36 = true then (if inB a0 36 = true then some (0, some (.int ((D2.2.2.1 0) a0.toNatClampNeg)), (setA D2 0 (upd (D2.2.2.1 0) a0.toNatClampNeg a1))) else none) else none))))
set_option maxRecDepth 100000 in
set_option maxHeartbeats 4000000 in
theorem c_X8_harden (l : Launch) (G : va_G) (E : EE) (a0 : Int32) (a1 : Int32) (D : DD) (r : RT) (h : S_X8_harden a0 a1 D = some r) : MM l G E yX8_harden cX8_harden 4 (some .int) (rmm 1) [.ref (E.1 1), .int a0, .int a1] D r := by
  refine m_of rfl (Nat.le_of_ble_eq_true rfl) ?_
  intro p e s m args below meth c X hr
  unfold S_X8_harden at h
  refine g_iload_n X 1 (i0 := 1) dX8_harden_0 rfl rfl ?_
  obtain ⟨r3, D2, e1, h⟩ := cI_s h
  refine g_SN X (As := [.int a0]) (rest := []) (c_X12_isCell l G E a0 _ _ e1) wc_X12_isCell kn_X8_53 wi_RX12 wt_X12_isCell ⟨rfl, rfl⟩ hd_X12_isCell (⟨Nat.le_of_ble_eq_true rfl, Nat.le_of_ble_eq_true rfl⟩) rfl rfl (Nat.le_of_ble_eq_true rfl) dX8_harden_1 ?_
  refine g_if_ne X (tgt := 9) dX8_harden_4 (by decide) (fun c6 => ?_) (fun c6 => ?_)
  · have h := (ite_s h).2 c6
    refine g_aload_n X 0 (i0 := 0) dX8_harden_9 rfl rfl ?_
    refine g_get X (D := D2) (v := .ref (E.1 2)) (T := TX8) 1 uX8 (wg_1 E _) rfl 0 (by decide) fl_X8_9 rfl rfl dX8_harden_10 ?_
    refine g_iload_n X 1 (i0 := 1) dX8_harden_13 rfl rfl ?_
    obtain ⟨b4, h⟩ := chk_s h
    refine g_iald X (D := D2) (f := (D2.2.2.1 0)) (i := a0) 2 (wg_2 E _) (inB_vp b4) dX8_harden_14 ?_
    refine g_istore_n X (i0 := 3) (lv' := [(3, .int ((D2.2.2.1 0) a0.toNatClampNeg)), (0, .ref (E.1 1)), (1, .int a0), (2, .int a1)]) dX8_harden_15 rfl (by decide) rfl ?_
    refine g_aload_n X 1 (i0 := 0) dX8_harden_16 rfl rfl ?_
    refine g_get X (D := D2) (v := .ref (E.1 2)) (T := TX8) 1 uX8 (wg_1 E _) rfl 0 (by decide) fl_X8_9 rfl rfl dX8_harden_17 ?_
    refine g_iload_n X 2 (i0 := 1) dX8_harden_20 rfl rfl ?_
    refine g_iload_n X 3 (i0 := 2) dX8_harden_21 rfl rfl ?_
    obtain ⟨b5, h⟩ := chk_s h
    refine g_iast X (D := D2) (f := (D2.2.2.1 0)) (i := a0) (x := a1) (D' := (setA D2 0 (upd (D2.2.2.1 0) a0.toNatClampNeg a1))) 2 (wg_2 E _) (inB_vp b5) (ws_A_0 E _ _) dX8_harden_22 ?_
    refine g_iload_n X 0 (i0 := 3) dX8_harden_23 rfl rfl ?_
    exact g_iret X hr rfl dX8_harden_24 (Option.some.inj h)
  · have h := (ite_s h).1 c6
    refine g_iconst X (v := (0 : Int32)) dX8_harden_7 (by decide) ?_
    exact g_iret X hr rfl dX8_harden_8 (Option.some.inj h)
theorem hd_X8_harden : yX8_harden.cls ≠ "java/lang/invoke/MethodHandle" ∧ yX8_harden.cls ≠ "java/lang/invoke/VarHandle" ∧ (parseMethodDescriptor yX8_harden.desc).map (fun d => d.parameters.length) = some 2 := by decide +kernel
theorem wc_X8_harden : Cond.code yX8_harden cX8_harden 4 (some .int) ∈ UT := ut 748 (by decide +kernel) (by decide +kernel)
theorem we_X8_harden : Cond.selects RX8 yX8_harden yX8_harden ∈ UT := ut 747 (by decide +kernel) (by decide +kernel)
theorem wm_X8_harden : Cond.instanceMethod yX8_harden ∈ UT := ut 746 (by decide +kernel) (by decide +kernel)
theorem kv_X8_87 : GoodIn UT (wsV RX8 87 RX8 yX8_harden (Cond.code yX8_harden cX8_harden 4 (some .int) :: UT)) := gu_V (ut 798 (by decide +kernel) (by decide +kernel)) wm_X8_harden we_X8_harden wi_RX8 wc_X8_harden
def S_X8_makeOpen (a0 : Int32) (D : DD) : Option RT := (cI (S_X8_harden a0 (0 : Int32) D) (fun r3 D2 => some (0, none, (setI (setI D2 2 ((D2.1 2) + r3)) 1 ((D2.1 1) + r3)))))
set_option maxRecDepth 100000 in
set_option maxHeartbeats 4000000 in
theorem c_X8_makeOpen (l : Launch) (G : va_G) (E : EE) (a0 : Int32) (D : DD) (r : RT) (h : S_X8_makeOpen a0 D = some r) : MM l G E yX8_makeOpen cX8_makeOpen 3 none (rmm 2) [.ref (E.1 1), .int a0] D r := by
  refine m_of rfl (Nat.le_of_ble_eq_true rfl) ?_
  intro p e s m args below meth c X hr
  unfold S_X8_makeOpen at h
  refine g_aload_n X 0 (i0 := 0) dX8_makeOpen_0 rfl rfl ?_
  refine g_iload_n X 1 (i0 := 1) dX8_makeOpen_1 rfl rfl ?_
  refine g_iconst X (v := (0 : Int32)) dX8_makeOpen_2 (by decide) ?_
  obtain ⟨r3, D2, e1, h⟩ := cI_s h
  refine g_V X (As := [.int a0, .int (0 : Int32)]) (rest := []) (c_X8_harden l G E a0 (0 : Int32) _ _ e1) 1 (wg_1 E _) rfl rfl kv_X8_87 ⟨rfl, rfl⟩ ⟨rfl, hd_X8_harden⟩ (⟨Nat.le_of_ble_eq_true rfl, Nat.le_of_ble_eq_true rfl⟩) rfl rfl (Nat.le_of_ble_eq_true rfl) dX8_makeOpen_3 ?_
  refine g_istore_n X (i0 := 2) (lv' := [(2, .int r3), (0, .ref (E.1 1)), (1, .int a0)]) dX8_makeOpen_6 rfl (by decide) rfl ?_
  refine g_aload_n X 1 (i0 := 0) dX8_makeOpen_7 rfl rfl ?_
  refine g_dup X dX8_makeOpen_8 rfl ?_
  refine g_get X (D := D2) (v := .int (D2.1 2)) (T := TX8) 1 uX8 (wg_1 E _) rfl 6 (by decide) fl_X8_43 rfl rfl dX8_makeOpen_9 ?_
  refine g_iload_n X 0 (i0 := 2) dX8_makeOpen_12 rfl rfl ?_
  refine g_iadd X dX8_makeOpen_13 ?_
  refine g_put X (D := D2) (v := .int ((D2.1 2) + r3)) (T := TX8) (D' := (setI D2 2 ((D2.1 2) + r3))) 1 uX8 tyX8 tyX8_ok nmX8 (wg_1 E _) rfl 6 (by decide) fl_X8_43 rfl rfl rfl rfl (Nat.le_of_ble_eq_true rfl) (ws_I_2 E _ _) dX8_makeOpen_14 ?_
  refine g_aload_n X 1 (i0 := 0) dX8_makeOpen_17 rfl rfl ?_
  refine g_dup X dX8_makeOpen_18 rfl ?_
  refine g_get X (D := (setI D2 2 ((D2.1 2) + r3))) (v := .int (D2.1 1)) (T := TX8) 1 uX8 (wg_1 E _) rfl 5 (by decide) fl_X8_40 rfl rfl dX8_makeOpen_19 ?_
  refine g_iload_n X 0 (i0 := 2) dX8_makeOpen_22 rfl rfl ?_
  refine g_iadd X dX8_makeOpen_23 ?_
  refine g_put X (D := (setI D2 2 ((D2.1 2) + r3))) (v := .int ((D2.1 1) + r3)) (T := TX8) (D' := (setI (setI D2 2 ((D2.1 2) + r3)) 1 ((D2.1 1) + r3))) 1 uX8 tyX8 tyX8_ok nmX8 (wg_1 E _) rfl 5 (by decide) fl_X8_40 rfl rfl rfl rfl (Nat.le_of_ble_eq_true rfl) (ws_I_1 E _ _) dX8_makeOpen_24 ?_
  exact g_vret X hr dX8_makeOpen_27 (Option.some.inj h)
theorem hd_X8_makeOpen : yX8_makeOpen.cls ≠ "java/lang/invoke/MethodHandle" ∧ yX8_makeOpen.cls ≠ "java/lang/invoke/VarHandle" ∧ (parseMethodDescriptor yX8_makeOpen.desc).map (fun d => d.parameters.length) = some 1 := by decide +kernel
theorem wc_X8_makeOpen : Cond.code yX8_makeOpen cX8_makeOpen 3 none ∈ UT := ut 797 (by decide +kernel) (by decide +kernel)
theorem we_X8_makeOpen : Cond.selects RX8 yX8_makeOpen yX8_makeOpen ∈ UT := ut 20 (by decide +kernel) (by decide +kernel)
theorem wm_X8_makeOpen : Cond.instanceMethod yX8_makeOpen ∈ UT := ut 796 (by decide +kernel) (by decide +kernel)
theorem kv_X8_90 : GoodIn UT (wsV RX8 90 RX8 yX8_makeOpen (Cond.code yX8_makeOpen cX8_makeOpen 3 none :: UT)) := gu_V (ut 794 (by decide +kernel) (by decide +kernel)) wm_X8_makeOpen we_X8_makeOpen wi_RX8 wc_X8_makeOpen
def S_X8_digOut (a0 : Int32) (D : DD) : Option RT := (cI (S_X8_hardnessAt a0 D) (fun r3 D2 => (cV (S_X8_makeOpen a0 (setJ D2 0 ((D.2.1 0) - r3.toInt64))) (fun D5 => some (0, some (.long (D5.2.1 0)), D5)))))
set_option maxRecDepth 100000 in
set_option maxHeartbeats 4000000 in
theorem c_X8_digOut (l : Launch) (G : va_G) (E : EE) (a0 : Int32) (D : DD) (r : RT) (h : S_X8_digOut a0 D = some r) : MM l G E yX8_digOut cX8_digOut 2 (some .long) (rmm 3) [.ref (E.1 1), .int a0] D r := by
  refine m_of rfl (Nat.le_of_ble_eq_true rfl) ?_
  intro p e s m args below meth c X hr
  unfold S_X8_digOut at h
  refine g_aload_n X 0 (i0 := 0) dX8_digOut_0 rfl rfl ?_
  refine g_dup X dX8_digOut_1 rfl ?_
  refine g_get X (D := D) (v := .long (D.2.1 0)) (T := TX8) 1 uX8 (wg_1 E _) rfl 8 (by decide) fl_X8_49 rfl rfl dX8_digOut_2 ?_
  refine g_aload_n X 0 (i0 := 0) dX8_digOut_5 rfl rfl ?_
  refine g_iload_n X 1 (i0 := 1) dX8_digOut_6 rfl rfl ?_
  obtain ⟨r3, D2, e1, h⟩ := cI_s h
  refine g_V X (As := [.int a0]) (rest := [.long (D.2.1 0), .ref (E.1 1)]) (c_X8_hardnessAt l G E a0 _ _ e1) 1 (wg_1 E _) rfl rfl kv_X8_81 ⟨rfl, rfl⟩ ⟨rfl, hd_X8_hardnessAt⟩ (⟨Nat.le_of_ble_eq_true rfl, Nat.le_of_ble_eq_true rfl⟩) rfl rfl (Nat.le_of_ble_eq_true rfl) dX8_digOut_7 ?_
  refine g_i2l X dX8_digOut_10 ?_
  refine g_lsub X dX8_digOut_11 ?_
  refine g_put X (D := D2) (v := .long ((D.2.1 0) - r3.toInt64)) (T := TX8) (D' := (setJ D2 0 ((D.2.1 0) - r3.toInt64))) 1 uX8 tyX8 tyX8_ok nmX8 (wg_1 E _) rfl 8 (by decide) fl_X8_49 rfl rfl rfl rfl (Nat.le_of_ble_eq_true rfl) (ws_J_0 E _ _) dX8_digOut_12 ?_
  refine g_aload_n X 0 (i0 := 0) dX8_digOut_15 rfl rfl ?_
  refine g_iload_n X 1 (i0 := 1) dX8_digOut_16 rfl rfl ?_
  obtain ⟨D5, e4, h⟩ := cV_s h
  refine g_V X (As := [.int a0]) (rest := []) (c_X8_makeOpen l G E a0 _ _ e4) 1 (wg_1 E _) rfl rfl kv_X8_90 ⟨rfl, rfl⟩ ⟨rfl, hd_X8_makeOpen⟩ (⟨Nat.le_of_ble_eq_true rfl, Nat.le_of_ble_eq_true rfl⟩) rfl rfl (Nat.le_of_ble_eq_true rfl) dX8_digOut_17 ?_
  refine g_aload_n X 0 (i0 := 0) dX8_digOut_20 rfl rfl ?_
  refine g_get X (D := D5) (v := .long (D5.2.1 0)) (T := TX8) 1 uX8 (wg_1 E _) rfl 8 (by decide) fl_X8_49 rfl rfl dX8_digOut_21 ?_
  exact g_lret X hr dX8_digOut_24 (Option.some.inj h)
