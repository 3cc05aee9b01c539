def S_X8_copyFrom_ring7_before  (D : DD) : Option RT := some (0, none, (setJ (setI (setI (setI (setI (setA (setA (setA (setA D 40 (va_cpy (D.2.2.1 4) (D.2.2.1 40) (0 : Int32).toNatClampNeg (0 : Int32).toNatClampNeg (36 : Int32).toNatClampNeg)) 41 (va_cpy (D.2.2.1 5) (D.2.2.1 41) (0 : Int32).toNatClampNeg (0 : Int32).toNatClampNeg (6 : Int32).toNatClampNeg)) 42 (va_cpy (D.2.2.1 6) (D.2.2.1 42) (0 : Int32).toNatClampNeg (0 : Int32).toNatClampNeg (6 : Int32).toNatClampNeg)) 43 (va_cpy (D.2.2.1 7) (D.2.2.1 43) (0 : Int32).toNatClampNeg (0 : Int32).toNatClampNeg (11 : Int32).toNatClampNeg)) 100 (D.1 10)) 101 (D.1 11)) 102 (D.1 12)) 103 (D.1 13)) 10 (D.2.1 1)))
set_option maxRecDepth 100000 in
set_option maxHeartbeats 4000000 in
theorem c_X8_copyFrom_ring7_before (l : Launch) (G : va_G) (E : EE)  (D : DD) (r : RT) (h : S_X8_copyFrom_ring7_before  D = some r) : MM l G E yX8_copyFrom cX8_copyFrom 2 none (rmm 1) [.ref (E.1 53), .ref (E.1 6)] D r := by
  refine m_of rfl (Nat.le_of_ble_eq_true rfl) ?_
  intro p e s m args below meth c X hr
  unfold S_X8_copyFrom_ring7_before at h
  refine g_aload_n X 1 (i0 := 1) dX8_copyFrom_0 rfl rfl ?_
  refine g_get X (D := D) (v := .ref (E.1 7)) (T := TX8) 6 uX8 (wg_6 E _) rfl 0 (by decide) fl_X8_9 rfl rfl dX8_copyFrom_1 ?_
  refine g_iconst X (v := (0 : Int32)) dX8_copyFrom_4 (by decide) ?_
  refine g_aload_n X 0 (i0 := 0) dX8_copyFrom_5 rfl rfl ?_
  refine g_get X (D := D) (v := .ref (E.1 54)) (T := TX8) 53 uX8 (wg_53 E _) rfl 0 (by decide) fl_X8_9 rfl rfl dX8_copyFrom_6 ?_
  refine g_iconst X (v := (0 : Int32)) dX8_copyFrom_9 (by decide) ?_
  refine g_bipush X (v := (36 : Int32)) dX8_copyFrom_10 (by decide) ?_
  refine g_copyi X (D := D) (f := (D.2.2.1 4)) (g := (D.2.2.1 40)) (sp := (0 : Int32)) (dp := (0 : Int32)) (n := (36 : Int32)) (D' := (setA D 40 (va_cpy (D.2.2.1 4) (D.2.2.1 40) (0 : Int32).toNatClampNeg (0 : Int32).toNatClampNeg (36 : Int32).toNatClampNeg))) wl_X8_30 wn_copy ws_copy wi_sys 7 54 (wg_7 E _) (wg_54 E _) (by decide) (by decide) (by decide) (by decide) (by decide) (ws_A_40 E _ _) (Nat.le_of_ble_eq_true rfl) (Nat.le_of_ble_eq_true rfl) dX8_copyFrom_12 ?_
  refine g_aload_n X 1 (i0 := 1) dX8_copyFrom_15 rfl rfl ?_
  refine g_get X (D := (setA D 40 (va_cpy (D.2.2.1 4) (D.2.2.1 40) (0 : Int32).toNatClampNeg (0 : Int32).toNatClampNeg (36 : Int32).toNatClampNeg))) (v := .ref (E.1 8)) (T := TX8) 6 uX8 (wg_6 E _) rfl 1 (by decide) fl_X8_15 rfl rfl dX8_copyFrom_16 ?_
  refine g_iconst X (v := (0 : Int32)) dX8_copyFrom_19 (by decide) ?_
  refine g_aload_n X 0 (i0 := 0) dX8_copyFrom_20 rfl rfl ?_
  refine g_get X (D := (setA D 40 (va_cpy (D.2.2.1 4) (D.2.2.1 40) (0 : Int32).toNatClampNeg (0 : Int32).toNatClampNeg (36 : Int32).toNatClampNeg))) (v := .ref (E.1 55)) (T := TX8) 53 uX8 (wg_53 E _) rfl 1 (by decide) fl_X8_15 rfl rfl dX8_copyFrom_21 ?_
  refine g_iconst X (v := (0 : Int32)) dX8_copyFrom_24 (by decide) ?_
  refine g_bipush X (v := (6 : Int32)) dX8_copyFrom_25 (by decide) ?_
  refine g_copyi X (D := (setA D 40 (va_cpy (D.2.2.1 4) (D.2.2.1 40) (0 : Int32).toNatClampNeg (0 : Int32).toNatClampNeg (36 : Int32).toNatClampNeg))) (f := (D.2.2.1 5)) (g := (D.2.2.1 41)) (sp := (0 : Int32)) (dp := (0 : Int32)) (n := (6 : Int32)) (D' := (setA (setA D 40 (va_cpy (D.2.2.1 4) (D.2.2.1 40) (0 : Int32).toNatClampNeg (0 : Int32).toNatClampNeg (36 : Int32).toNatClampNeg)) 41 (va_cpy (D.2.2.1 5) (D.2.2.1 41) (0 : Int32).toNatClampNeg (0 : Int32).toNatClampNeg (6 : Int32).toNatClampNeg))) wl_X8_30 wn_copy ws_copy wi_sys 8 55 (wg_8 E _) (wg_55 E _) (by decide) (by decide) (by decide) (by decide) (by decide) (ws_A_41 E _ _) (Nat.le_of_ble_eq_true rfl) (Nat.le_of_ble_eq_true rfl) dX8_copyFrom_27 ?_
  refine g_aload_n X 1 (i0 := 1) dX8_copyFrom_30 rfl rfl ?_
  refine g_get X (D := (setA (setA D 40 (va_cpy (D.2.2.1 4) (D.2.2.1 40) (0 : Int32).toNatClampNeg (0 : Int32).toNatClampNeg (36 : Int32).toNatClampNeg)) 41 (va_cpy (D.2.2.1 5) (D.2.2.1 41) (0 : Int32).toNatClampNeg (0 : Int32).toNatClampNeg (6 : Int32).toNatClampNeg))) (v := .ref (E.1 9)) (T := TX8) 6 uX8 (wg_6 E _) rfl 2 (by decide) fl_X8_18 rfl rfl dX8_copyFrom_31 ?_
  refine g_iconst X (v := (0 : Int32)) dX8_copyFrom_34 (by decide) ?_
  refine g_aload_n X 0 (i0 := 0) dX8_copyFrom_35 rfl rfl ?_
  refine g_get X (D := (setA (setA D 40 (va_cpy (D.2.2.1 4) (D.2.2.1 40) (0 : Int32).toNatClampNeg (0 : Int32).toNatClampNeg (36 : Int32).toNatClampNeg)) 41 (va_cpy (D.2.2.1 5) (D.2.2.1 41) (0 : Int32).toNatClampNeg (0 : Int32).toNatClampNeg (6 : Int32).toNatClampNeg))) (v := .ref (E.1 56)) (T := TX8) 53 uX8 (wg_53 E _) rfl 2 (by decide) fl_X8_18 rfl rfl dX8_copyFrom_36 ?_
  refine g_iconst X (v := (0 : Int32)) dX8_copyFrom_39 (by decide) ?_
  refine g_bipush X (v := (6 : Int32)) dX8_copyFrom_40 (by decide) ?_
  refine g_copyi X (D := (setA (setA D 40 (va_cpy (D.2.2.1 4) (D.2.2.1 40) (0 : Int32).toNatClampNeg (0 : Int32).toNatClampNeg (36 : Int32).toNatClampNeg)) 41 (va_cpy (D.2.2.1 5) (D.2.2.1 41) (0 : Int32).toNatClampNeg (0 : Int32).toNatClampNeg (6 : Int32).toNatClampNeg))) (f := (D.2.2.1 6)) (g := (D.2.2.1 42)) (sp := (0 : Int32)) (dp := (0 : Int32)) (n := (6 : Int32)) (D' := (setA (setA (setA D 40 (va_cpy (D.2.2.1 4) (D.2.2.1 40) (0 : Int32).toNatClampNeg (0 : Int32).toNatClampNeg (36 : Int32).toNatClampNeg)) 41 (va_cpy (D.2.2.1 5) (D.2.2.1 41) (0 : Int32).toNatClampNeg (0 : Int32).toNatClampNeg (6 : Int32).toNatClampNeg)) 42 (va_cpy (D.2.2.1 6) (D.2.2.1 42) (0 : Int32).toNatClampNeg (0 : Int32).toNatClampNeg (6 : Int32).toNatClampNeg))) wl_X8_30 wn_copy ws_copy wi_sys 9 56 (wg_9 E _) (wg_56 E _) (by decide) (by decide) (by decide) (by decide) (by decide) (ws_A_42 E _ _) (Nat.le_of_ble_eq_true rfl) (Nat.le_of_ble_eq_true rfl) dX8_copyFrom_42 ?_
  refine g_aload_n X 1 (i0 := 1) dX8_copyFrom_45 rfl rfl ?_
  refine g_get X (D := (setA (setA (setA D 40 (va_cpy (D.2.2.1 4) (D.2.2.1 40) (0 : Int32).toNatClampNeg (0 : Int32).toNatClampNeg (36 : Int32).toNatClampNeg)) 41 (va_cpy (D.2.2.1 5) (D.2.2.1 41) (0 : Int32).toNatClampNeg (0 : Int32).toNatClampNeg (6 : Int32).toNatClampNeg)) 42 (va_cpy (D.2.2.1 6) (D.2.2.1 42) (0 : Int32).toNatClampNeg (0 : Int32).toNatClampNeg (6 : Int32).toNatClampNeg))) (v := .ref (E.1 10)) (T := TX8) 6 uX8 (wg_6 E _) rfl 3 (by decide) fl_X8_21 rfl rfl dX8_copyFrom_46 ?_
  refine g_iconst X (v := (0 : Int32)) dX8_copyFrom_49 (by decide) ?_
  refine g_aload_n X 0 (i0 := 0) dX8_copyFrom_50 rfl rfl ?_
  refine g_get X (D := (setA (setA (setA D 40 (va_cpy (D.2.2.1 4) (D.2.2.1 40) (0 : Int32).toNatClampNeg (0 : Int32).toNatClampNeg (36 : Int32).toNatClampNeg)) 41 (va_cpy (D.2.2.1 5) (D.2.2.1 41) (0 : Int32).toNatClampNeg (0 : Int32).toNatClampNeg (6 : Int32).toNatClampNeg)) 42 (va_cpy (D.2.2.1 6) (D.2.2.1 42) (0 : Int32).toNatClampNeg (0 : Int32).toNatClampNeg (6 : Int32).toNatClampNeg))) (v := .ref (E.1 57)) (T := TX8) 53 uX8 (wg_53 E _) rfl 3 (by decide) fl_X8_21 rfl rfl dX8_copyFrom_51 ?_
  refine g_iconst X (v := (0 : Int32)) dX8_copyFrom_54 (by decide) ?_
  refine g_bipush X (v := (11 : Int32)) dX8_copyFrom_55 (by decide) ?_
  refine g_copyi X (D := (setA (setA (setA D 40 (va_cpy (D.2.2.1 4) (D.2.2.1 40) (0 : Int32).toNatClampNeg (0 : Int32).toNatClampNeg (36 : Int32).toNatClampNeg)) 41 (va_cpy (D.2.2.1 5) (D.2.2.1 41) (0 : Int32).toNatClampNeg (0 : Int32).toNatClampNeg (6 : Int32).toNatClampNeg)) 42 (va_cpy (D.2.2.1 6) (D.2.2.1 42) (0 : Int32).toNatClampNeg (0 : Int32).toNatClampNeg (6 : Int32).toNatClampNeg))) (f := (D.2.2.1 7)) (g := (D.2.2.1 43)) (sp := (0 : Int32)) (dp := (0 : Int32)) (n := (11 : Int32)) (D' := (setA (setA (setA (setA D 40 (va_cpy (D.2.2.1 4) (D.2.2.1 40) (0 : Int32).toNatClampNeg (0 : Int32).toNatClampNeg (36 : Int32).toNatClampNeg)) 41 (va_cpy (D.2.2.1 5) (D.2.2.1 41) (0 : Int32).toNatClampNeg (0 : Int32).toNatClampNeg (6 : Int32).toNatClampNeg)) 42 (va_cpy (D.2.2.1 6) (D.2.2.1 42) (0 : Int32).toNatClampNeg (0 : Int32).toNatClampNeg (6 : Int32).toNatClampNeg)) 43 (va_cpy (D.2.2.1 7) (D.2.2.1 43) (0 : Int32).toNatClampNeg (0 : Int32).toNatClampNeg (11 : Int32).toNatClampNeg))) wl_X8_30 wn_copy ws_copy wi_sys 10 57 (wg_10 E _) (wg_57 E _) (by decide) (by decide) (by decide) (by decide) (by decide) (ws_A_43 E _ _) (Nat.le_of_ble_eq_true rfl) (Nat.le_of_ble_eq_true rfl) dX8_copyFrom_57 ?_
  refine g_aload_n X 0 (i0 := 0) dX8_copyFrom_60 rfl rfl ?_
  refine g_aload_n X 1 (i0 := 1) dX8_copyFrom_61 rfl rfl ?_
  refine g_get X (D := (setA (setA (setA (setA D 40 (va_cpy (D.2.2.1 4) (D.2.2.1 40) (0 : Int32).toNatClampNeg (0 : Int32).toNatClampNeg (36 : Int32).toNatClampNeg)) 41 (va_cpy (D.2.2.1 5) (D.2.2.1 41) (0 : Int32).toNatClampNeg (0 : Int32).toNatClampNeg (6 : Int32).toNatClampNeg)) 42 (va_cpy (D.2.2.1 6) (D.2.2.1 42) (0 : Int32).toNatClampNeg (0 : Int32).toNatClampNeg (6 : Int32).toNatClampNeg)) 43 (va_cpy (D.2.2.1 7) (D.2.2.1 43) (0 : Int32).toNatClampNeg (0 : Int32).toNatClampNeg (11 : Int32).toNatClampNeg))) (v := .int (D.1 10)) (T := TX8) 6 uX8 (wg_6 E _) rfl 4 (by decide) fl_X8_36 rfl rfl dX8_copyFrom_62 ?_
  refine g_put X (D := (setA (setA (setA (setA D 40 (va_cpy (D.2.2.1 4) (D.2.2.1 40) (0 : Int32).toNatClampNeg (0 : Int32).toNatClampNeg (36 : Int32).toNatClampNeg)) 41 (va_cpy (D.2.2.1 5) (D.2.2.1 41) (0 : Int32).toNatClampNeg (0 : Int32).toNatClampNeg (6 : Int32).toNatClampNeg)) 42 (va_cpy (D.2.2.1 6) (D.2.2.1 42) (0 : Int32).toNatClampNeg (0 : Int32).toNatClampNeg (6 : Int32).toNatClampNeg)) 43 (va_cpy (D.2.2.1 7) (D.2.2.1 43) (0 : Int32).toNatClampNeg (0 : Int32).toNatClampNeg (11 : Int32).toNatClampNeg))) (v := .int (D.1 10)) (T := TX8) (D' := (setI (setA (setA (setA (setA D 40 (va_cpy (D.2.2.1 4) (D.2.2.1 40) (0 : Int32).toNatClampNeg (0 : Int32).toNatClampNeg (36 : Int32).toNatClampNeg)) 41 (va_cpy (D.2.2.1 5) (D.2.2.1 41) (0 : Int32).toNatClampNeg (0 : Int32).toNatClampNeg (6 : Int32).toNatClampNeg)) 42 (va_cpy (D.2.2.1 6) (D.2.2.1 42) (0 : Int32).toNatClampNeg (0 : Int32).toNatClampNeg (6 : Int32).toNatClampNeg)) 43 (va_cpy (D.2.2.1 7) (D.2.2.1 43) (0 : Int32).toNatClampNeg (0 : Int32).toNatClampNeg (11 : Int32).toNatClampNeg)) 100 (D.1 10))) 53 uX8 tyX8 tyX8_ok nmX8 (wg_53 E _) rfl 4 (by decide) fl_X8_36 rfl rfl rfl rfl (Nat.le_of_ble_eq_true rfl) (ws_I_100 E _ _) dX8_copyFrom_65 ?_
  refine g_aload_n X 0 (i0 := 0) dX8_copyFrom_68 rfl rfl ?_
  refine g_aload_n X 1 (i0 := 1) dX8_copyFrom_69 rfl rfl ?_
  refine g_get X (D := (setI (setA (setA (setA (setA D 40 (va_cpy (D.2.2.1 4) (D.2.2.1 40) (0 : Int32).toNatClampNeg (0 : Int32).toNatClampNeg (36 : Int32).toNatClampNeg)) 41 (va_cpy (D.2.2.1 5) (D.2.2.1 41) (0 : Int32).toNatClampNeg (0 : Int32).toNatClampNeg (6 : Int32).toNatClampNeg)) 42 (va_cpy (D.2.2.1 6) (D.2.2.1 42) (0 : Int32).toNatClampNeg (0 : Int32).toNatClampNeg (6 : Int32).toNatClampNeg)) 43 (va_cpy (D.2.2.1 7) (D.2.2.1 43) (0 : Int32).toNatClampNeg (0 : Int32).toNatClampNeg (11 : Int32).toNatClampNeg)) 100 (D.1 10))) (v := .int (D.1 11)) (T := TX8) 6 uX8 (wg_6 E _) rfl 5 (by decide) fl_X8_40 rfl rfl dX8_copyFrom_70 ?_
  refine g_put X (D := (setI (setA (setA (setA (setA D 40 (va_cpy (D.2.2.1 4) (D.2.2.1 40) (0 : Int32).toNatClampNeg (0 : Int32).toNatClampNeg (36 : Int32).toNatClampNeg)) 41 (va_cpy (D.2.2.1 5) (D.2.2.1 41) (0 : Int32).toNatClampNeg (0 : Int32).toNatClampNeg (6 : Int32).toNatClampNeg)) 42 (va_cpy (D.2.2.1 6) (D.2.2.1 42) (0 : Int32).toNatClampNeg (0 : Int32).toNatClampNeg (6 : Int32).toNatClampNeg)) 43 (va_cpy (D.2.2.1 7) (D.2.2.1 43) (0 : Int32).toNatClampNeg (0 : Int32).toNatClampNeg (11 : Int32).toNatClampNeg)) 100 (D.1 10))) (v := .int (D.1 11)) (T := TX8) (D' := (setI (setI (setA (setA (setA (setA D 40 (va_cpy (D.2.2.1 4) (D.2.2.1 40) (0 : Int32).toNatClampNeg (0 : Int32).toNatClampNeg (36 : Int32).toNatClampNeg)) 41 (va_cpy (D.2.2.1 5) (D.2.2.1 41) (0 : Int32).toNatClampNeg (0 : Int32).toNatClampNeg (6 : Int32).toNatClampNeg)) 42 (va_cpy (D.2.2.1 6) (D.2.2.1 42) (0 : Int32).toNatClampNeg (0 : Int32).toNatClampNeg (6 : Int32).toNatClampNeg)) 43 (va_cpy (D.2.2.1 7) (D.2.2.1 43) (0 : Int32).toNatClampNeg (0 : Int32).toNatClampNeg (11 : Int32).toNatClampNeg)) 100 (D.1 10)) 101 (D.1 11))) 53 uX8 tyX8 tyX8_ok nmX8 (wg_53 E _) rfl 5 (by decide) fl_X8_40 rfl rfl rfl rfl (Nat.le_of_ble_eq_true rfl) (ws_I_101 E _ _) dX8_copyFrom_73 ?_
  refine g_aload_n X 0 (i0 := 0) dX8_copyFrom_76 rfl rfl ?_
  refine g_aload_n X 1 (i0 := 1) dX8_copyFrom_77 rfl rfl ?_
  refine g_get X (D := (setI (setI (setA (setA (setA (setA D 40 (va_cpy (D.2.2.1 4) (D.2.2.1 40) (0 : Int32).toNatClampNeg (0 : Int32).toNatClampNeg (36 : Int32).toNatClampNeg)) 41 (va_cpy (D.2.2.1 5) (D.2.2.1 41) (0 : Int32).toNatClampNeg (0 : Int32).toNatClampNeg (6 : Int32).toNatClampNeg)) 42 (va_cpy (D.2.2.1 6) (D.2.2.1 42) (0 : Int32).toNatClampNeg (0 : Int32).toNatClampNeg (6 : Int32).toNatClampNeg)) 43 (va_cpy (D.2.2.1 7) (D.2.2.1 43) (0 : Int32).toNatClampNeg (0 : Int32).toNatClampNeg (11 : Int32).toNatClampNeg)) 100 (D.1 10)) 101 (D.1 11))) (v := .int (D.1 12)) (T := TX8) 6 uX8 (wg_6 E _) rfl 6 (by decide) fl_X8_43 rfl rfl dX8_copyFrom_78 ?_
  refine g_put X (D := (setI (setI (setA (setA (setA (setA D 40 (va_cpy (D.2.2.1 4) (D.2.2.1 40) (0 : Int32).toNatClampNeg (0 : Int32).toNatClampNeg (36 : Int32).toNatClampNeg)) 41 (va_cpy (D.2.2.1 5) (D.2.2.1 41) (0 : Int32).toNatClampNeg (0 : Int32).toNatClampNeg (6 : Int32).toNatClampNeg)) 42 (va_cpy (D.2.2.1 6) (D.2.2.1 42) (0 : Int32).toNatClampNeg (0 : Int32).toNatClampNeg (6 : Int32).toNatClampNeg)) 43 (va_cpy (D.2.2.1 7) (D.2.2.1 43) (0 : Int32).toNatClampNeg (0 : Int32).toNatClampNeg (11 : Int32).toNatClampNeg)) 100 (D.1 10)) 101 (D.1 11))) (v := .int (D.1 12)) (T := TX8) (D' := (setI (setI (setI (setA (setA (setA (setA D 40 (va_cpy (D.2.2.1 4) (D.2.2.1 40) (0 : Int32).toNatClampNeg (0 : Int32).toNatClampNeg (36 : Int32).toNatClampNeg)) 41 (va_cpy (D.2.2.1 5) (D.2.2.1 41) (0 : Int32).toNatClampNeg (0 : Int32).toNatClampNeg (6 : Int32).toNatClampNeg)) 42 (va_cpy (D.2.2.1 6) (D.2.2.1 42) (0 : Int32).toNatClampNeg (0 : Int32).toNatClampNeg (6 : Int32).toNatClampNeg)) 43 (va_cpy (D.2.2.1 7) (D.2.2.1 43) (0 : Int32).toNatClampNeg (0 : Int32).toNatClampNeg (11 : Int32).toNatClampNeg)) 100 (D.1 10)) 101 (D.1 11)) 102 (D.1 12))) 53 uX8 tyX8 tyX8_ok nmX8 (wg_53 E _) rfl 6 (by decide) fl_X8_43 rfl rfl rfl rfl (Nat.le_of_ble_eq_true rfl) (ws_I_102 E _ _) dX8_copyFrom_81 ?_
  refine g_aload_n X 0 (i0 := 0) dX8_copyFrom_84 rfl rfl ?_
  refine g_aload_n X 1 (i0 := 1) dX8_copyFrom_85 rfl rfl ?_
  refine g_get X (D := (setI (setI (setI (setA (setA (setA (setA D 40 (va_cpy (D.2.2.1 4) (D.2.2.1 40) (0 : Int32).toNatClampNeg (0 : Int32).toNatClampNeg (36 : Int32).toNatClampNeg)) 41 (va_cpy (D.2.2.1 5) (D.2.2.1 41) (0 : Int32).toNatClampNeg (0 : Int32).toNatClampNeg (6 : Int32).toNatClampNeg)) 42 (va_cpy (D.2.2.1 6) (D.2.2.1 42) (0 : Int32).toNatClampNeg (0 : Int32).toNatClampNeg (6 : Int32).toNatClampNeg)) 43 (va_cpy (D.2.2.1 7) (D.2.2.1 43) (0 : Int32).toNatClampNeg (0 : Int32).toNatClampNeg (11 : Int32).toNatClampNeg)) 100 (D.1 10)) 101 (D.1 11)) 102 (D.1 12))) (v := .int (D.1 13)) (T := TX8) 6 uX8 (wg_6 E _) rfl 7 (by decide) fl_X8_46 rfl rfl dX8_copyFrom_86 ?_
  refine g_put X (D := (setI (setI (setI (setA (setA (setA (setA D 40 (va_cpy (D.2.2.1 4) (D.2.2.1 40) (0 : Int32).toNatClampNeg (0 : Int32).toNatClampNeg (36 : Int32).toNatClampNeg)) 41 (va_cpy (D.2.2.1 5) (D.2.2.1 41) (0 : Int32).toNatClampNeg (0 : Int32).toNatClampNeg (6 : Int32).toNatClampNeg)) 42 (va_cpy (D.2.2.1 6) (D.2.2.1 42) (0 : Int32).toNatClampNeg (0 : Int32).toNatClampNeg (6 : Int32).toNatClampNeg)) 43 (va_cpy (D.2.2.1 7) (D.2.2.1 43) (0 : Int32).toNatClampNeg (0 : Int32).toNatClampNeg (11 : Int32).toNatClampNeg)) 100 (D.1 10)) 101 (D.1 11)) 102 (D.1 12))) (v := .int (D.1 13)) (T := TX8) (D' := (setI (setI (setI (setI (setA (setA (setA (setA D 40 (va_cpy (D.2.2.1 4) (D.2.2.1 40) (0 : Int32).toNatClampNeg (0 : Int32).toNatClampNeg (36 : Int32).toNatClampNeg)) 41 (va_cpy (D.2.2.1 5) (D.2.2.1 41) (0 : Int32).toNatClampNeg (0 : Int32).toNatClampNeg (6 : Int32).toNatClampNeg)) 42 (va_cpy (D.2.2.1 6) (D.2.2.1 42) (0 : Int32).toNatClampNeg (0 : Int32).toNatClampNeg (6 : Int32).toNatClampNeg)) 43 (va_cpy (D.2.2.1 7) (D.2.2.1 43) (0 : Int32).toNatClampNeg (0 : Int32).toNatClampNeg (11 : Int32).toNatClampNeg)) 100 (D.1 10)) 101 (D.1 11)) 102 (D.1 12)) 103 (D.1 13))) 53 uX8 tyX8 tyX8_ok nmX8 (wg_53 E _) rfl 7 (by decide) fl_X8_46 rfl rfl rfl rfl (Nat.le_of_ble_eq_true rfl) (ws_I_103 E _ _) dX8_copyFrom_89 ?_
  refine g_aload_n X 0 (i0 := 0) dX8_copyFrom_92 rfl rfl ?_
  refine g_aload_n X 1 (i0 := 1) dX8_copyFrom_93 rfl rfl ?_
  refine g_get X (D := (setI (setI (setI (setI (setA (setA (setA (setA D 40 (va_cpy (D.2.2.1 4) (D.2.2.1 40) (0 : Int32).toNatClampNeg (0 : Int32).toNatClampNeg (36 : Int32).toNatClampNeg)) 41 (va_cpy (D.2.2.1 5) (D.2.2.1 41) (0 : Int32).toNatClampNeg (0 : Int32).toNatClampNeg (6 : Int32).toNatClampNeg)) 42 (va_cpy (D.2.2.1 6) (D.2.2.1 42) (0 : Int32).toNatClampNeg (0 : Int32).toNatClampNeg (6 : Int32).toNatClampNeg)) 43 (va_cpy (D.2.2.1 7) (D.2.2.1 43) (0 : Int32).toNatClampNeg (0 : Int32).toNatClampNeg (11 : Int32).toNatClampNeg)) 100 (D.1 10)) 101 (D.1 11)) 102 (D.1 12)) 103 (D.1 13))) (v := .long (D.2.1 1)) (T := TX8) 6 uX8 (wg_6 E _) rfl 8 (by decide) fl_X8_49 rfl rfl dX8_copyFrom_94 ?_
  refine g_put X (D := (setI (setI (setI (setI (setA (setA (setA (setA D 40 (va_cpy (D.2.2.1 4) (D.2.2.1 40) (0 : Int32).toNatClampNeg (0 : Int32).toNatClampNeg (36 : Int32).toNatClampNeg)) 41 (va_cpy (D.2.2.1 5) (D.2.2.1 41) (0 : Int32).toNatClampNeg (0 : Int32).toNatClampNeg (6 : Int32).toNatClampNeg)) 42 (va_cpy (D.2.2.1 6) (D.2.2.1 42) (0 : Int32).toNatClampNeg (0 : Int32).toNatClampNeg (6 : Int32).toNatClampNeg)) 43 (va_cpy (D.2.2.1 7) (D.2.2.1 43) (0 : Int32).toNatClampNeg (0 : Int32).toNatClampNeg (11 : Int32).toNatClampNeg)) 100 (D.1 10)) 101 (D.1 11)) 102 (D.1 12)) 103 (D.1 13))) (v := .long (D.2.1 1)) (T := TX8) (D' := (setJ (setI (setI (setI (setI (setA (setA (setA (setA D 40 (va_cpy (D.2.2.1 4) (D.2.2.1 40) (0 : Int32).toNatClampNeg (0 : Int32).toNatClampNeg (36 : Int32).toNatClampNeg)) 41 (va_cpy (D.2.2.1 5) (D.2.2.1 41) (0 : Int32).toNatClampNeg (0 : Int32).toNatClampNeg (6 : Int32).toNatClampNeg)) 42 (va_cpy (D.2.2.1 6) (D.2.2.1 42) (0 : Int32).toNatClampNeg (0 : Int32).toNatClampNeg (6 : Int32).toNatClampNeg)) 43 (va_cpy (D.2.2.1 7) (D.2.2.1 43) (0 : Int32).toNatClampNeg (0 : Int32).toNatClampNeg (11 : Int32).toNatClampNeg)) 100 (D.1 10)) 101 (D.1 11)) 102 (D.1 12)) 103 (D.1 13)) 10 (D.2.1 1))) 53 uX8 tyX8 tyX8_ok nmX8 (wg_53 E _) rfl 8 (by decide) fl_X8_49 rfl rfl rfl rfl (Nat.le_of_ble_eq_true rfl) (ws_J_10 E _ _) dX8_copyFrom_97 ?_
  exact g_vret X hr dX8_copyFrom_100 (Option.some.inj h)
def b_X6_remember_history_before_0  (D : DD) : Option ((Nat × List Int32 × DD) ⊕ RT) := (cR (S_X6_placeAt (D.1 123) D) (fun q3 D2 => (if q3 = 18 then (cV (S_X8_copyFrom_ring0_before D2) (fun D6 => some (.inl (1, [], D6)))) else (if q3 = 23 then (cV (S_X8_copyFrom_ring1_before D2) (fun D9 => some (.inl (1, [], D9)))) else (if q3 = 28 then (cV (S_X8_copyFrom_ring2_before D2) (fun D12 => some (.inl (1, [], D12)))) else (if q3 = 33 then (cV (S_X8_copyFrom_ring3_before D2) (fun D15 => some (.inl (1, [], D15)))) else (if q3 = 38 then (cV (S_X8_copyFrom_ring4_before D2) (fun D18 => some (.inl (1, [], D18)))) else (if q3 = 43 then (cV (S_X8_copyFrom_ring5_before D2) (fun D21 => some (.inl (1, [], D21)))) else (if q3 = 48 then (cV (S_X8_copyFrom_ring6_before D2) (fun D24 => some (.inl (1, [], D24)))) else (if q3 = 53 then (cV (S_X8_copyFrom_ring7_before D2) (fun D27 => some (.inl (1, [], D27)))) else none))))))))) (fun D2 => some (.inl (1, [], D2))))
def b_X6_remember_history_before_1  (D : DD) : Option ((Nat × List Int32 × DD) ⊕ RT) := (if (8 : Int32) ≤ ((D.1 123) + (1 : Int32)) then some (.inr (0, none, (setI (setI D 123 (0 : Int32)) 124 (if (8 : Int32) < ((D.1 124) + (1 : Int32)) then (8 : Int32) else ((D.1 124) + (1 : Int32)))))) else some (.inr (0, none, (setI (setI D 123 ((D.1 123) + (1 : Int32))) 124 (if (8 : Int32) < ((D.1 124) + (1 : Int32)) then (8 : Int32) else ((D.1 124) + (1 : Int32)))))))
def T_X6_remember_history_before (k : Nat) (ls : List Int32) (D : DD) : Option ((Nat × List Int32 × DD) ⊕ RT) := match k, ls with
  | 0, [] => b_X6_remember_history_before_0  D
  | 1, [] => b_X6_remember_history_before_1  D
  | _, _ => none
def S_X6_remember_history_before  (D : DD) : Option RT := run T_X6_remember_history_before FUEL 0 [] D
def hg_X6_remember_history_before (p : Program) (l : Launch) (e : Env) (s : State) (m : MethodId) (args : Array Value) (below : List Frame) (meth : Method) (c : Code) (G : va_G) (E : EE) (r : RT) (k : Nat) (ls : List Int32) (D : DD) : Prop := match k, ls with
  | 0, [] => GW p l e (rmm 2) s m args below meth c G E 3 (MQ below (QR G E s.heap.size r) args s 0 0 (fr E s.heap.size)) 0 0 D 0 [(0, .ref (E.1 16)), (1, .ref (E.1 6))] []
  | 1, [] => GW p l e (rmm 2) s m args below meth c G E 3 (MQ below (QR G E s.heap.size r) args s 0 0 (fr E s.heap.size)) 0 0 D 18 [(0, .ref (E.1 16))] []
  | _, _ => True
set_option maxRecDepth 100000 in
set_option maxHeartbeats 4000000 in
theorem bl_X6_remember_history_before_0 {p : Program} {l : Launch} {e : Env} {s : State} {m : MethodId} {args : Array Value} {below : List Frame} {meth : Method} {c : Code} {G : va_G} {E : EE} {r : RT} (X : CX p s m args meth c cX6_remember RX6 3 G E) (hr : meth.sig.returnType = none)  (D : DD) (o : (Nat × List Int32 × DD) ⊕ RT) (h : b_X6_remember_history_before_0  D = some o) (h1 : ∀ x, o = .inl x → hg_X6_remember_history_before p l e s m args below meth c G E r x.1 x.2.1 x.2.2) (h2 : ∀ x, o = .inr x → x = r) : GW p l e (rmm 2) s m args below meth c G E 3 (MQ below (QR G E s.heap.size r) args s 0 0 (fr E s.heap.size)) 0 0 D 0 [(0, .ref (E.1 16)), (1, .ref (E.1 6))] [] := by
  unfold b_X6_remember_history_before_0 at h
  refine g_aload_n X 0 (i0 := 0) dX6_remember_0 rfl rfl ?_
  refine g_aload_n X 0 (i0 := 0) dX6_remember_1 rfl rfl ?_
  refine g_get X (D := D) (v := .int (D.1 123)) (T := TX6) 16 uX6 (wg_16 E _) rfl 1 (by decide) fl_X6_18 rfl rfl dX6_remember_2 ?_
  rcases cR_s h with ⟨q3, D2, e1, h⟩ | ⟨D2, e1, h⟩
  · by_cases u4 : q3 = 18
    · have hh := (ite_s h).1 u4
      clear h
      subst u4
      have h := hh
      clear hh
      refine g_V X (As := [.int (D.1 123)]) (rest := []) (c_X6_placeAt l G E (D.1 123) _ _ e1) 16 (wg_16 E _) rfl rfl kv_X6_22 ⟨rfl, rfl⟩ ⟨rfl, hd_X6_placeAt⟩ (⟨Nat.le_of_ble_eq_true rfl, Nat.le_of_ble_eq_true rfl⟩) rfl rfl (Nat.le_of_ble_eq_true rfl) dX6_remember_5 ?_
      refine g_astore_n X (i0 := 2) (lv' := [(2, .ref (E.1 18)), (0, .ref (E.1 16)), (1, .ref (E.1 6))]) dX6_remember_8 rfl (by decide) rfl ?_
      refine g_aload_n X 0 (i0 := 2) dX6_remember_9 rfl rfl ?_
      refine g_ifnull X dX6_remember_10 ?_
      refine g_aload_n X 0 (i0 := 2) dX6_remember_13 rfl rfl ?_
      refine g_aload_n X 2 (i0 := 1) dX6_remember_14 rfl rfl ?_
      obtain ⟨D6, e5, h⟩ := cV_s h
      refine g_V X (As := [.ref (E.1 6)]) (rest := []) (c_X8_copyFrom_ring0_before l G E  _ _ e5) 18 (wg_18 E _) rfl rfl kv_X6_26 ⟨rfl, rfl⟩ ⟨rfl, hd_X8_copyFrom⟩ (⟨Nat.le_of_ble_eq_true rfl, Nat.le_of_ble_eq_true rfl⟩) rfl rfl (Nat.le_of_ble_eq_true rfl) dX6_remember_15 ?_
      refine g_sub (lv' := [(0, .ref (E.1 16))]) [1] rfl ?_
      exact h1 _ (Option.some.inj h).symm
    have h := (ite_s h).2 u4
    by_cases u7 : q3 = 23
    · have hh := (ite_s h).1 u7
      clear h
      subst u7
      have h := hh
      clear hh
      refine g_V X (As := [.int (D.1 123)]) (rest := []) (c_X6_placeAt l G E (D.1 123) _ _ e1) 16 (wg_16 E _) rfl rfl kv_X6_22 ⟨rfl, rfl⟩ ⟨rfl, hd_X6_placeAt⟩ (⟨Nat.le_of_ble_eq_true rfl, Nat.le_of_ble_eq_true rfl⟩) rfl rfl (Nat.le_of_ble_eq_true rfl) dX6_remember_5 ?_
      refine g_astore_n X (i0 := 2) (lv' := [(2, .ref (E.1 23)), (0, .ref (E.1 16)), (1, .ref (E.1 6))]) dX6_remember_8 rfl (by decide) rfl ?_
      refine g_aload_n X 0 (i0 := 2) dX6_remember_9 rfl rfl ?_
      refine g_ifnull X dX6_remember_10 ?_
      refine g_aload_n X 0 (i0 := 2) dX6_remember_13 rfl rfl ?_
      refine g_aload_n X 2 (i0 := 1) dX6_remember_14 rfl rfl ?_
      obtain ⟨D9, e8, h⟩ := cV_s h
      refine g_V X (As := [.ref (E.1 6)]) (rest := []) (c_X8_copyFrom_ring1_before l G E  _ _ e8) 23 (wg_23 E _) rfl rfl kv_X6_26 ⟨rfl, rfl⟩ ⟨rfl, hd_X8_copyFrom⟩ (⟨Nat.le_of_ble_eq_true rfl, Nat.le_of_ble_eq_true rfl⟩) rfl rfl (Nat.le_of_ble_eq_true rfl) dX6_remember_15 ?_
      refine g_sub (lv' := [(0, .ref (E.1 16))]) [1] rfl ?_
      exact h1 _ (Option.some.inj h).symm
    have h := (ite_s h).2 u7
    by_cases u10 : q3 = 28
    · have hh := (ite_s h).1 u10
      clear h
      subst u10
      have h := hh
      clear hh
      refine g_V X (As := [.int (D.1 123)]) (rest := []) (c_X6_placeAt l G E (D.1 123) _ _ e1) 16 (wg_16 E _) rfl rfl kv_X6_22 ⟨rfl, rfl⟩ ⟨rfl, hd_X6_placeAt⟩ (⟨Nat.le_of_ble_eq_true rfl, Nat.le_of_ble_eq_true rfl⟩) rfl rfl (Nat.le_of_ble_eq_true rfl) dX6_remember_5 ?_
      refine g_astore_n X (i0 := 2) (lv' := [(2, .ref (E.1 28)), (0, .ref (E.1 16)), (1, .ref (E.1 6))]) dX6_remember_8 rfl (by decide) rfl ?_
      refine g_aload_n X 0 (i0 := 2) dX6_remember_9 rfl rfl ?_
      refine g_ifnull X dX6_remember_10 ?_
      refine g_aload_n X 0 (i0 := 2) dX6_remember_13 rfl rfl ?_
      refine g_aload_n X 2 (i0 := 1) dX6_remember_14 rfl rfl ?_
      obtain ⟨D12, e11, h⟩ := cV_s h
      refine g_V X (As := [.ref (E.1 6)]) (rest := []) (c_X8_copyFrom_ring2_before l G E  _ _ e11) 28 (wg_28 E _) rfl rfl kv_X6_26 ⟨rfl, rfl⟩ ⟨rfl, hd_X8_copyFrom⟩ (⟨Nat.le_of_ble_eq_true rfl, Nat.le_of_ble_eq_true rfl⟩) rfl rfl (Nat.le_of_ble_eq_true rfl) dX6_remember_15 ?_
      refine g_sub (lv' := [(0, .ref (E.1 16))]) [1] rfl ?_
      exact h1 _ (Option.some.inj h).symm
    have h := (ite_s h).2 u10
    by_cases u13 : q3 = 33
    · have hh := (ite_s h).1 u13
      clear h
      subst u13
      have h := hh
      clear hh
      refine g_V X (As := [.int (D.1 123)]) (rest := []) (c_X6_placeAt l G E (D.1 123) _ _ e1) 16 (wg_16 E _) rfl rfl kv_X6_22 ⟨rfl, rfl⟩ ⟨rfl, hd_X6_placeAt⟩ (⟨Nat.le_of_ble_eq_true rfl, Nat.le_of_ble_eq_true rfl⟩) rfl rfl (Nat.le_of_ble_eq_true rfl) dX6_remember_5 ?_
      refine g_astore_n X (i0 := 2) (lv' := [(2, .ref (E.1 33)), (0, .ref (E.1 16)), (1, .ref (E.1 6))]) dX6_remember_8 rfl (by decide) rfl ?_
      refine g_aload_n X 0 (i0 := 2) dX6_remember_9 rfl rfl ?_
      refine g_ifnull X dX6_remember_10 ?_
      refine g_aload_n X 0 (i0 := 2) dX6_remember_13 rfl rfl ?_
      refine g_aload_n X 2 (i0 := 1) dX6_remember_14 rfl rfl ?_
      obtain ⟨D15, e14, h⟩ := cV_s h
      refine g_V X (As := [.ref (E.1 6)]) (rest := []) (c_X8_copyFrom_ring3_before l G E  _ _ e14) 33 (wg_33 E _) rfl rfl kv_X6_26 ⟨rfl, rfl⟩ ⟨rfl, hd_X8_copyFrom⟩ (⟨Nat.le_of_ble_eq_true rfl, Nat.le_of_ble_eq_true rfl⟩) rfl rfl (Nat.le_of_ble_eq_true rfl) dX6_remember_15 ?_
      refine g_sub (lv' := [(0, .ref (E.1 16))]) [1] rfl ?_
      exact h1 _ (Option.some.inj h).symm
    have h := (ite_s h).2 u13
    by_cases u16 : q3 = 38
    · have hh := (ite_s h).1 u16
      clear h
      subst u16
      have h := hh
      clear hh
      refine g_V X (As := [.int (D.1 123)]) (rest := []) (c_X6_placeAt l G E (D.1 123) _ _ e1) 16 (wg_16 E _) rfl rfl kv_X6_22 ⟨rfl, rfl⟩ ⟨rfl, hd_X6_placeAt⟩ (⟨Nat.le_of_ble_eq_true rfl, Nat.le_of_ble_eq_true rfl⟩) rfl rfl (Nat.le_of_ble_eq_true rfl) dX6_remember_5 ?_
      refine g_astore_n X (i0 := 2) (lv' := [(2, .ref (E.1 38)), (0, .ref (E.1 16)), (1, .ref (E.1 6))]) dX6_remember_8 rfl (by decide) rfl ?_
      refine g_aload_n X 0 (i0 := 2) dX6_remember_9 rfl rfl ?_
      refine g_ifnull X dX6_remember_10 ?_
      refine g_aload_n X 0 (i0 := 2) dX6_remember_13 rfl rfl ?_
      refine g_aload_n X 2 (i0 := 1) dX6_remember_14 rfl rfl ?_
      obtain ⟨D18, e17, h⟩ := cV_s h
      refine g_V X (As := [.ref (E.1 6)]) (rest := []) (c_X8_copyFrom_ring4_before l G E  _ _ e17) 38 (wg_38 E _) rfl rfl kv_X6_26 ⟨rfl, rfl⟩ ⟨rfl, hd_X8_copyFrom⟩ (⟨Nat.le_of_ble_eq_true rfl, Nat.le_of_ble_eq_true rfl⟩) rfl rfl (Nat.le_of_ble_eq_true rfl) dX6_remember_15 ?_
      refine g_sub (lv' := [(0, .ref (E.1 16))]) [1] rfl ?_
      exact h1 _ (Option.some.inj h).symm
    have h := (ite_s h).2 u16
    by_cases u19 : q3 = 43
    · have hh := (ite_s h).1 u19
      clear h
      subst u19
      have h := hh
      clear hh
      refine g_V X (As := [.int (D.1 123)]) (rest := []) (c_X6_placeAt l G E (D.1 123) _ _ e1) 16 (wg_16 E _) rfl rfl kv_X6_22 ⟨rfl, rfl⟩ ⟨rfl, hd_X6_placeAt⟩ (⟨Nat.le_of_ble_eq_true rfl, Nat.le_of_ble_eq_true rfl⟩) rfl rfl (Nat.le_of_ble_eq_true rfl) dX6_remember_5 ?_
      refine g_astore_n X (i0 := 2) (lv' := [(2, .ref (E.1 43)), (0, .ref (E.1 16)), (1, .ref (E.1 6))]) dX6_remember_8 rfl (by decide) rfl ?_
      refine g_aload_n X 0 (i0 := 2) dX6_remember_9 rfl rfl ?_
      refine g_ifnull X dX6_remember_10 ?_
      refine g_aload_n X 0 (i0 := 2) dX6_remember_13 rfl rfl ?_
      refine g_aload_n X 2 (i0 := 1) dX6_remember_14 rfl rfl ?_
      obtain ⟨D21, e20, h⟩ := cV_s h
      refine g_V X (As := [.ref (E.1 6)]) (rest := []) (c_X8_copyFrom_ring5_before l G E  _ _ e20) 43 (wg_43 E _) rfl rfl kv_X6_26 ⟨rfl, rfl⟩ ⟨rfl, hd_X8_copyFrom⟩ (⟨Nat.le_of_ble_eq_true rfl, Nat.le_of_ble_eq_true rfl⟩) rfl rfl (Nat.le_of_ble_eq_true rfl) dX6_remember_15 ?_
      refine g_sub (lv' := [(0, .ref (E.1 16))]) [1] rfl ?_
      exact h1 _ (Option.some.inj h).symm
    have h := (ite_s h).2 u19
    by_cases u22 : q3 = 48
    · have hh := (ite_s h).1 u22
      clear h
      subst u22
      have h := hh
      clear hh
      refine g_V X (As := [.int (D.1 123)]) (rest := []) (c_X6_placeAt l G E (D.1 123) _ _ e1) 16 (wg_16 E _) rfl rfl kv_X6_22 ⟨rfl, rfl⟩ ⟨rfl, hd_X6_placeAt⟩ (⟨Nat.le_of_ble_eq_true rfl, Nat.le_of_ble_eq_true rfl⟩) rfl rfl (Nat.le_of_ble_eq_true rfl) dX6_remember_5 ?_
      refine g_astore_n X (i0 := 2) (lv' := [(2, .ref (E.1 48)), (0, .ref (E.1 16)), (1, .ref (E.1 6))]) dX6_remember_8 rfl (by decide) rfl ?_
      refine g_aload_n X 0 (i0 := 2) dX6_remember_9 rfl rfl ?_
      refine g_ifnull X dX6_remember_10 ?_
      refine g_aload_n X 0 (i0 := 2) dX6_remember_13 rfl rfl ?_
      refine g_aload_n X 2 (i0 := 1) dX6_remember_14 rfl rfl ?_
      obtain ⟨D24, e23, h⟩ := cV_s h
      refine g_V X (As := [.ref (E.1 6)]) (rest := []) (c_X8_copyFrom_ring6_before l G E  _ _ e23) 48 (wg_48 E _) rfl rfl kv_X6_26 ⟨rfl, rfl⟩ ⟨rfl, hd_X8_copyFrom⟩ (⟨Nat.le_of_ble_eq_true rfl, Nat.le_of_ble_eq_true rfl⟩) rfl rfl (Nat.le_of_ble_eq_true rfl) dX6_remember_15 ?_
      refine g_sub (lv' := [(0, .ref (E.1 16))]) [1] rfl ?_
      exact h1 _ (Option.some.inj h).symm
    have h := (ite_s h).2 u22
    by_cases u25 : q3 = 53
    · have hh := (ite_s h).1 u25
      clear h
      subst u25
      have h := hh
      clear hh
      refine g_V X (As := [.int (D.1 123)]) (rest := []) (c_X6_placeAt l G E (D.1 123) _ _ e1) 16 (wg_16 E _) rfl rfl kv_X6_22 ⟨rfl, rfl⟩ ⟨rfl, hd_X6_placeAt⟩ (⟨Nat.le_of_ble_eq_true rfl, Nat.le_of_ble_eq_true rfl⟩) rfl rfl (Nat.le_of_ble_eq_true rfl) dX6_remember_5 ?_
      refine g_astore_n X (i0 := 2) (lv' := [(2, .ref (E.1 53)), (0, .ref (E.1 16)), (1, .ref (E.1 6))]) dX6_remember_8 rfl (by decide) rfl ?_
      refine g_aload_n X 0 (i0 := 2) dX6_remember_9 rfl rfl ?_
      refine g_ifnull X dX6_remember_10 ?_
      refine g_aload_n X 0 (i0 := 2) dX6_remember_13 rfl rfl ?_
      refine g_aload_n X 2 (i0 := 1) dX6_remember_14 rfl rfl ?_
      obtain ⟨D27, e26, h⟩ := cV_s h
      refine g_V X (As := [.ref (E.1 6)]) (rest := []) (c_X8_copyFrom_ring7_before l G E  _ _ e26) 53 (wg_53 E _) rfl rfl kv_X6_26 ⟨rfl, rfl⟩ ⟨rfl, hd_X8_copyFrom⟩ (⟨Nat.le_of_ble_eq_true rfl, Nat.le_of_ble_eq_true rfl⟩) rfl rfl (Nat.le_of_ble_eq_true rfl) dX6_remember_15 ?_
      refine g_sub (lv' := [(0, .ref (E.1 16))]) [1] rfl ?_
      exact h1 _ (Option.some.inj h).symm
    have h := (ite_s h).2 u25
    cases h
  · refine g_V X (As := [.int (D.1 123)]) (rest := []) (c_X6_placeAt l G E (D.1 123) _ _ e1) 16 (wg_16 E _) rfl rfl kv_X6_22 ⟨rfl, rfl⟩ ⟨rfl, hd_X6_placeAt⟩ (⟨Nat.le_of_ble_eq_true rfl, Nat.le_of_ble_eq_true rfl⟩) rfl rfl (Nat.le_of_ble_eq_true rfl) dX6_remember_5 ?_
    refine g_astore_nN X (i0 := 2) (lv' := [(2, .null), (0, .ref (E.1 16)), (1, .ref (E.1 6))]) dX6_remember_8 rfl (by decide) rfl ?_
    refine g_aload_nN X 0 (i0 := 2) dX6_remember_9 rfl rfl ?_
    refine g_ifnullN X (tgt := 18) dX6_remember_10 (by decide) ?_
    refine g_sub (lv' := [(0, .ref (E.1 16))]) [1] rfl ?_
    exact h1 _ (Option.some.inj h).symm
set_option maxRecDepth 100000 in
set_option maxHeartbeats 4000000 in
theorem bl_X6_remember_history_before_1 {p : Program} {l : Launch} {e : Env} {s : State} {m : MethodId} {args : Array Value} {below : List Frame} {meth : Method} {c : Code} {G : va_G} {E : EE} {r : RT} (X : CX p s m args meth c cX6_remember RX6 3 G E) (hr : meth.sig.returnType = none)  (D : DD) (o : (Nat × List Int32 × DD) ⊕ RT) (h : b_X6_remember_history_before_1  D = some o) (h1 : ∀ x, o = .inl x → hg_X6_remember_history_before p l e s m args below meth c G E r x.1 x.2.1 x.2.2) (h2 : ∀ x, o = .inr x → x = r) : GW p l e (rmm 2) s m args below meth c G E 3 (MQ below (QR G E s.heap.size r) args s 0 0 (fr E s.heap.size)) 0 0 D 18 [(0, .ref (E.1 16))] [] := by
  unfold b_X6_remember_history_before_1 at h
  refine g_aload_n X 0 (i0 := 0) dX6_remember_18 rfl rfl ?_
  refine g_aload_n X 0 (i0 := 0) dX6_remember_19 rfl rfl ?_
  refine g_get X (D := D) (v := .int (D.1 123)) (T := TX6) 16 uX6 (wg_16 E _) rfl 1 (by decide) fl_X6_18 rfl rfl dX6_remember_20 ?_
  refine g_iconst X (v := (1 : Int32)) dX6_remember_23 (by decide) ?_
  refine g_iadd X dX6_remember_24 ?_
  refine g_bipush X (v := (8 : Int32)) dX6_remember_25 (by decide) ?_
  refine g_icmp_ge X (tgt := 39) dX6_remember_27 (by decide) (fun c28 => ?_) (fun c28 => ?_)
  · have h := (ite_s h).1 c28
    refine g_iconst X (v := (0 : Int32)) dX6_remember_39 (by decide) ?_
    refine g_put X (D := D) (v := .int (0 : Int32)) (T := TX6) (D' := (setI D 123 (0 : Int32))) 16 uX6 tyX6 tyX6_ok nmX6 (wg_16 E _) rfl 1 (by decide) fl_X6_18 rfl rfl rfl rfl (Nat.le_of_ble_eq_true rfl) (ws_I_123 E _ _) dX6_remember_40 ?_
    refine g_aload_n X 0 (i0 := 0) dX6_remember_43 rfl rfl ?_
    refine g_aload_n X 0 (i0 := 0) dX6_remember_44 rfl rfl ?_
    refine g_get X (D := (setI D 123 (0 : Int32))) (v := .int (D.1 124)) (T := TX6) 16 uX6 (wg_16 E _) rfl 2 (by decide) fl_X6_30 rfl rfl dX6_remember_45 ?_
    refine g_iconst X (v := (1 : Int32)) dX6_remember_48 (by decide) ?_
    refine g_iadd X dX6_remember_49 ?_
    refine g_bipush X (v := (8 : Int32)) dX6_remember_50 (by decide) ?_
    refine g_min X wl_X6_33 wm_min wi_math wc_min (Nat.le_of_ble_eq_true rfl) (Nat.le_of_ble_eq_true rfl) dX6_remember_52 ?_
    refine g_put X (D := (setI D 123 (0 : Int32))) (v := .int (if (8 : Int32) < ((D.1 124) + (1 : Int32)) then (8 : Int32) else ((D.1 124) + (1 : Int32)))) (T := TX6) (D' := (setI (setI D 123 (0 : Int32)) 124 (if (8 : Int32) < ((D.1 124) + (1 : Int32)) then (8 : Int32) else ((D.1 124) + (1 : Int32))))) 16 uX6 tyX6 tyX6_ok nmX6 (wg_16 E _) rfl 2 (by decide) fl_X6_30 rfl rfl rfl rfl (Nat.le_of_ble_eq_true rfl) (ws_I_124 E _ _) dX6_remember_55 ?_
    exact g_vret X hr dX6_remember_58 (h2 _ (Option.some.inj h).symm)
  · have h := (ite_s h).2 c28
    refine g_aload_n X 0 (i0 := 0) dX6_remember_30 rfl rfl ?_
    refine g_get X (D := D) (v := .int (D.1 123)) (T := TX6) 16 uX6 (wg_16 E _) rfl 1 (by decide) fl_X6_18 rfl rfl dX6_remember_31 ?_
    refine g_iconst X (v := (1 : Int32)) dX6_remember_34 (by decide) ?_
    refine g_iadd X dX6_remember_35 ?_
    refine g_goto X (tgt := 40) dX6_remember_36 (by decide) ?_
    refine g_put X (D := D) (v := .int ((D.1 123) + (1 : Int32))) (T := TX6) (D' := (setI D 123 ((D.1 123) + (1 : Int32)))) 16 uX6 tyX6 tyX6_ok nmX6 (wg_16 E _) rfl 1 (by decide) fl_X6_18 rfl rfl rfl rfl (Nat.le_of_ble_eq_true rfl) (ws_I_123 E _ _) dX6_remember_40 ?_
    refine g_aload_n X 0 (i0 := 0) dX6_remember_43 rfl rfl ?_
    refine g_aload_n X 0 (i0 := 0) dX6_remember_44 rfl rfl ?_
    refine g_get X (D := (setI D 123 ((D.1 123) + (1 : Int32)))) (v := .int (D.1 124)) (T := TX6) 16 uX6 (wg_16 E _) rfl 2 (by decide) fl_X6_30 rfl rfl dX6_remember_45 ?_
    refine g_iconst X (v := (1 : Int32)) dX6_remember_48 (by decide) ?_
    refine g_iadd X dX6_remember_49 ?_
    refine g_bipush X (v := (8 : Int32)) dX6_remember_50 (by decide) ?_
    refine g_min X wl_X6_33 wm_min wi_math wc_min (Nat.le_of_ble_eq_true rfl) (Nat.le_of_ble_eq_true rfl) dX6_remember_52 ?_
    refine g_put X (D := (setI D 123 ((D.1 123) + (1 : Int32)))) (v := .int (if (8 : Int32) < ((D.1 124) + (1 : Int32)) then (8 : Int32) else ((D.1 124) + (1 : Int32)))) (T := TX6) (D' := (setI (setI D 123 ((D.1 123) + (1 : Int32))) 124 (if (8 : Int32) < ((D.1 124) + (1 : Int32)) then (8 : Int32) else ((D.1 124) + (1 : Int32))))) 16 uX6 tyX6 tyX6_ok nmX6 (wg_16 E _) rfl 2 (by decide) fl_X6_30 rfl rfl rfl rfl (Nat.le_of_ble_eq_true rfl) (ws_I_124 E _ _) dX6_remember_55 ?_
    exact g_vret X hr dX6_remember_58 (h2 _ (Option.some.inj h).symm)
set_option maxRecDepth 100000 in
set_option maxHeartbeats 4000000 in
theorem c_X6_remember_history_before (l : Launch) (G : va_G) (E : EE)  (D : DD) (r : RT) (h : S_X6_remember_history_before  D = some r) : MM l G E yX6_remember cX6_remember 3 none (rmm 2) [.ref (E.1 16), .ref (E.1 6)] D r := by
  unfold S_X6_remember_history_before at h
  refine m_of rfl (Nat.le_of_ble_eq_true rfl) ?_
  intro p e s m args below meth c X hr
  exact run_G (T := T_X6_remember_history_before) (HG := hg_X6_remember_history_before p l e s m args below meth c G E r) (by
    intro k ls D o hT h1 h2
    unfold T_X6_remember_history_before at hT
    split at hT
    · exact bl_X6_remember_history_before_0 X hr  D o hT h1 h2
    · exact bl_X6_remember_history_before_1 X hr  D o hT h1 h2
    · cases hT) FUEL 0 [] D h
theorem ws_A_4 (E : EE) (D : DD) (f : Nat → Int32) : (wd E D).set 7 (E.1 7, .inl (E.2 0, 36, .inl f)) = wd E (setA D 4 f) := rfl
theorem ws_A_5 (E : EE) (D : DD) (f : Nat → Int32) : (wd E D).set 8 (E.1 8, .inl (E.2 0, 6, .inl f)) = wd E (setA D 5 f) := rfl
theorem ws_A_6 (E : EE) (D : DD) (f : Nat → Int32) : (wd E D).set 9 (E.1 9, .inl (E.2 0, 6, .inl f)) = wd E (setA D 6 f) := rfl
theorem ws_A_7 (E : EE) (D : DD) (f : Nat → Int32) : (wd E D).set 10 (E.1 10, .inl (E.2 0, 11, .inl f)) = wd E (setA D 7 f) := rfl
theorem ws_I_10 (E : EE) (D : DD) (v : Int32) : (wd E D).set 6 (E.1 6, .inr (8, [.ref (E.1 7), .ref (E.1 8), .ref (E.1 9), .ref (E.1 10), .int v, .int (D.1 11), .int (D.1 12), .int (D.1 13), .long (D.2.1 1)])) = wd E (setI D 10 v) := rfl
theorem ws_I_11 (E : EE) (D : DD) (v : Int32) : (wd E D).set 6 (E.1 6, .inr (8, [.ref (E.1 7), .ref (E.1 8), .ref (E.1 9), .ref (E.1 10), .int (D.1 10), .int v, .int (D.1 12), .int (D.1 13), .long (D.2.1 1)])) = wd E (setI D 11 v) := rfl
theorem ws_I_12 (E : EE) (D : DD) (v : Int32) : (wd E D).set 6 (E.1 6, .inr (8, [.ref (E.1 7), .ref (E.1 8), .ref (E.1 9), .ref (E.1 10), .int (D.1 10), .int (D.1 11), .int v, .int (D.1 13), .long (D.2.1 1)])) = wd E (setI D 12 v) := rfl
theorem ws_I_13 (E : EE) (D : DD) (v : Int32) : (wd E D).set 6 (E.1 6, .inr (8, [.ref (E.1 7), .ref (E.1 8), .ref (E.1 9), .ref (E.1 10), .int (D.1 10), .int (D.1 11), .int (D.1 12), .int v, .long (D.2.1 1)])) = wd E (setI D 13 v) := rfl
theorem ws_J_1 (E : EE) (D : DD) (v : Int64) : (wd E D).set 6 (E.1 6, .inr (8, [.ref (E.1 7), .ref (E.1 8), .ref (E.1 9), .ref (E.1 10), .int (D.1 10), .int (D.1 11), .int (D.1 12), .int (D.1 13), .long v])) = wd E (setJ D 1 v) := rfl
def S_X8_copyFrom_before_state  (D : DD) : Option RT := some (0, none, (setJ (setI (setI (setI (setI (setA (setA (setA (setA D 4 (va_cpy (D.2.2.1 0) (D.2.2.1 4) (0 : Int32).toNatClampNeg (0 : Int32).toNatClampNeg (36 : Int32).toNatClampNeg)) 5 (va_cpy (D.2.2.1 1) (D.2.2.1 5) (0 : Int32).toNatClampNeg (0 : Int32).toNatClampNeg (6 : Int32).toNatClampNeg)) 6 (va_cpy (D.2.2.1 2) (D.2.2.1 6) (0 : Int32).toNatClampNeg (0 : Int32).toNatClampNeg (6 : Int32).toNatClampNeg)) 7 (va_cpy (D.2.2.1 3) (D.2.2.1 7) (0 : Int32).toNatClampNeg (0 : Int32).toNatClampNeg (11 : Int32).toNatClampNeg)) 10 (D.1 0)) 11 (D.1 1)) 12 (D.1 2)) 13 (D.1 3)) 1 (D.2.1 0)))
set_option maxRecDepth 100000 in
set_option maxHeartbeats 4000000 in
theorem c_X8_copyFrom_before_state (l : Launch) (G : va_G) (E : EE)  (D : DD) (r : RT) (h : S_X8_copyFrom_before_state  D = some r) : MM l G E yX8_copyFrom cX8_copyFrom 2 none (rmm 1) [.ref (E.1 6), .ref (E.1 1)] D r := by
  refine m_of rfl (Nat.le_of_ble_eq_true rfl) ?_
  intro p e s m args below meth c X hr
  unfold S_X8_copyFrom_before_state at h
  refine g_aload_n X 1 (i0 := 1) dX8_copyFrom_0 rfl rfl ?_
  refine g_get X (D := D) (v := .ref (E.1 2)) (T := TX8) 1 uX8 (wg_1 E _) rfl 0 (by decide) fl_X8_9 rfl rfl dX8_copyFrom_1 ?_
  refine g_iconst X (v := (0 : Int32)) dX8_copyFrom_4 (by decide) ?_
  refine g_aload_n X 0 (i0 := 0) dX8_copyFrom_5 rfl rfl ?_
  refine g_get X (D := D) (v := .ref (E.1 7)) (T := TX8) 6 uX8 (wg_6 E _) rfl 0 (by decide) fl_X8_9 rfl rfl dX8_copyFrom_6 ?_
  refine g_iconst X (v := (0 : Int32)) dX8_copyFrom_9 (by decide) ?_
  refine g_bipush X (v := (36 : Int32)) dX8_copyFrom_10 (by decide) ?_
  refine g_copyi X (D := D) (f := (D.2.2.1 0)) (g := (D.2.2.1 4)) (sp := (0 : Int32)) (dp := (0 : Int32)) (n := (36 : Int32)) (D' := (setA D 4 (va_cpy (D.2.2.1 0) (D.2.2.1 4) (0 : Int32).toNatClampNeg (0 : Int32).toNatClampNeg (36 : Int32).toNatClampNeg))) wl_X8_30 wn_copy ws_copy wi_sys 2 7 (wg_2 E _) (wg_7 E _) (by decide) (by decide) (by decide) (by decide) (by decide) (ws_A_4 E _ _) (Nat.le_of_ble_eq_true rfl) (Nat.le_of_ble_eq_true rfl) dX8_copyFrom_12 ?_
  refine g_aload_n X 1 (i0 := 1) dX8_copyFrom_15 rfl rfl ?_
  refine g_get X (D := (setA D 4 (va_cpy (D.2.2.1 0) (D.2.2.1 4) (0 : Int32).toNatClampNeg (0 : Int32).toNatClampNeg (36 : Int32).toNatClampNeg))) (v := .ref (E.1 3)) (T := TX8) 1 uX8 (wg_1 E _) rfl 1 (by decide) fl_X8_15 rfl rfl dX8_copyFrom_16 ?_
  refine g_iconst X (v := (0 : Int32)) dX8_copyFrom_19 (by decide) ?_
  refine g_aload_n X 0 (i0 := 0) dX8_copyFrom_20 rfl rfl ?_
  refine g_get X (D := (setA D 4 (va_cpy (D.2.2.1 0) (D.2.2.1 4) (0 : Int32).toNatClampNeg (0 : Int32).toNatClampNeg (36 : Int32).toNatClampNeg))) (v := .ref (E.1 8)) (T := TX8) 6 uX8 (wg_6 E _) rfl 1 (by decide) fl_X8_15 rfl rfl dX8_copyFrom_21 ?_
  refine g_iconst X (v := (0 : Int32)) dX8_copyFrom_24 (by decide) ?_
  refine g_bipush X (v := (6 : Int32)) dX8_copyFrom_25 (by decide) ?_
  refine g_copyi X (D := (setA D 4 (va_cpy (D.2.2.1 0) (D.2.2.1 4) (0 : Int32).toNatClampNeg (0 : Int32).toNatClampNeg (36 : Int32).toNatClampNeg))) (f := (D.2.2.1 1)) (g := (D.2.2.1 5)) (sp := (0 : Int32)) (dp := (0 : Int32)) (n := (6 : Int32)) (D' := (setA (setA D 4 (va_cpy (D.2.2.1 0) (D.2.2.1 4) (0 : Int32).toNatClampNeg (0 : Int32).toNatClampNeg (36 : Int32).toNatClampNeg)) 5 (va_cpy (D.2.2.1 1) (D.2.2.1 5) (0 : Int32).toNatClampNeg (0 : Int32).toNatClampNeg (6 : Int32).toNatClampNeg))) wl_X8_30 wn_copy ws_copy wi_sys 3 8 (wg_3 E _) (wg_8 E _) (by decide) (by decide) (by decide) (by decide) (by decide) (ws_A_5 E _ _) (Nat.le_of_ble_eq_true rfl) (Nat.le_of_ble_eq_true rfl) dX8_copyFrom_27 ?_
  refine g_aload_n X 1 (i0 := 1) dX8_copyFrom_30 rfl rfl ?_
  refine g_get X (D := (setA (setA D 4 (va_cpy (D.2.2.1 0) (D.2.2.1 4) (0 : Int32).toNatClampNeg (0 : Int32).toNatClampNeg (36 : Int32).toNatClampNeg)) 5 (va_cpy (D.2.2.1 1) (D.2.2.1 5) (0 : Int32).toNatClampNeg (0 : Int32).toNatClampNeg (6 : Int32).toNatClampNeg))) (v := .ref (E.1 4)) (T := TX8) 1 uX8 (wg_1 E _) rfl 2 (by decide) fl_X8_18 rfl rfl dX8_copyFrom_31 ?_
  refine g_iconst X (v := (0 : Int32)) dX8_copyFrom_34 (by decide) ?_
  refine g_aload_n X 0 (i0 := 0) dX8_copyFrom_35 rfl rfl ?_
  refine g_get X (D := (setA (setA D 4 (va_cpy (D.2.2.1 0) (D.2.2.1 4) (0 : Int32).toNatClampNeg (0 : Int32).toNatClampNeg (36 : Int32).toNatClampNeg)) 5 (va_cpy (D.2.2.1 1) (D.2.2.1 5) (0 : Int32).toNatClampNeg (0 : Int32).toNatClampNeg (6 : Int32).toNatClampNeg))) (v := .ref (E.1 9)) (T := TX8) 6 uX8 (wg_6 E _) rfl 2 (by decide) fl_X8_18 rfl rfl dX8_copyFrom_36 ?_
  refine g_iconst X (v := (0 : Int32)) dX8_copyFrom_39 (by decide) ?_
  refine g_bipush X (v := (6 : Int32)) dX8_copyFrom_40 (by decide) ?_
  refine g_copyi X (D := (setA (setA D 4 (va_cpy (D.2.2.1 0) (D.2.2.1 4) (0 : Int32).toNatClampNeg (0 : Int32).toNatClampNeg (36 : Int32).toNatClampNeg)) 5 (va_cpy (D.2.2.1 1) (D.2.2.1 5) (0 : Int32).toNatClampNeg (0 : Int32).toNatClampNeg (6 : Int32).toNatClampNeg))) (f := (D.2.2.1 2)) (g := (D.2.2.1 6)) (sp := (0 : Int32)) (dp := (0 : Int32)) (n := (6 : Int32)) (D' := (setA (setA (setA D 4 (va_cpy (D.2.2.1 0) (D.2.2.1 4) (0 : Int32).toNatClampNeg (0 : Int32).toNatClampNeg (36 : Int32).toNatClampNeg)) 5 (va_cpy (D.2.2.1 1) (D.2.2.1 5) (0 : Int32).toNatClampNeg (0 : Int32).toNatClampNeg (6 : Int32).toNatClampNeg)) 6 (va_cpy (D.2.2.1 2) (D.2.2.1 6) (0 : Int32).toNatClampNeg (0 : Int32).toNatClampNeg (6 : Int32).toNatClampNeg))) wl_X8_30 wn_copy ws_copy wi_sys 4 9 (wg_4 E _) (wg_9 E _) (by decide) (by decide) (by decide) (by decide) (by decide) (ws_A_6 E _ _) (Nat.le_of_ble_eq_true rfl) (Nat.le_of_ble_eq_true rfl) dX8_copyFrom_42 ?_
  refine g_aload_n X 1 (i0 := 1) dX8_copyFrom_45 rfl rfl ?_
  refine g_get X (D := (setA (setA (setA D 4 (va_cpy (D.2.2.1 0) (D.2.2.1 4) (0 : Int32).toNatClampNeg (0 : Int32).toNatClampNeg (36 : Int32).toNatClampNeg)) 5 (va_cpy (D.2.2.1 1) (D.2.2.1 5) (0 : Int32).toNatClampNeg (0 : Int32).toNatClampNeg (6 : Int32).toNatClampNeg)) 6 (va_cpy (D.2.2.1 2) (D.2.2.1 6) (0 : Int32).toNatClampNeg (0 : Int32).toNatClampNeg (6 : Int32).toNatClampNeg))) (v := .ref (E.1 5)) (T := TX8) 1 uX8 (wg_1 E _) rfl 3 (by decide) fl_X8_21 rfl rfl dX8_copyFrom_46 ?_
  refine g_iconst X (v := (0 : Int32)) dX8_copyFrom_49 (by decide) ?_
  refine g_aload_n X 0 (i0 := 0) dX8_copyFrom_50 rfl rfl ?_
  refine g_get X (D := (setA (setA (setA D 4 (va_cpy (D.2.2.1 0) (D.2.2.1 4) (0 : Int32).toNatClampNeg (0 : Int32).toNatClampNeg (36 : Int32).toNatClampNeg)) 5 (va_cpy (D.2.2.1 1) (D.2.2.1 5) (0 : Int32).toNatClampNeg (0 : Int32).toNatClampNeg (6 : Int32).toNatClampNeg)) 6 (va_cpy (D.2.2.1 2) (D.2.2.1 6) (0 : Int32).toNatClampNeg (0 : Int32).toNatClampNeg (6 : Int32).toNatClampNeg))) (v := .ref (E.1 10)) (T := TX8) 6 uX8 (wg_6 E _) rfl 3 (by decide) fl_X8_21 rfl rfl dX8_copyFrom_51 ?_
  refine g_iconst X (v := (0 : Int32)) dX8_copyFrom_54 (by decide) ?_
  refine g_bipush X (v := (11 : Int32)) dX8_copyFrom_55 (by decide) ?_
  refine g_copyi X (D := (setA (setA (setA D 4 (va_cpy (D.2.2.1 0) (D.2.2.1 4) (0 : Int32).toNatClampNeg (0 : Int32).toNatClampNeg (36 : Int32).toNatClampNeg)) 5 (va_cpy (D.2.2.1 1) (D.2.2.1 5) (0 : Int32).toNatClampNeg (0 : Int32).toNatClampNeg (6 : Int32).toNatClampNeg)) 6 (va_cpy (D.2.2.1 2) (D.2.2.1 6) (0 : Int32).toNatClampNeg (0 : Int32).toNatClampNeg (6 : Int32).toNatClampNeg))) (f := (D.2.2.1 3)) (g := (D.2.2.1 7)) (sp := (0 : Int32)) (dp := (0 : Int32)) (n := (11 : Int32)) (D' := (setA (setA (setA (setA D 4 (va_cpy (D.2.2.1 0) (D.2.2.1 4) (0 : Int32).toNatClampNeg (0 : Int32).toNatClampNeg (36 : Int32).toNatClampNeg)) 5 (va_cpy (D.2.2.1 1) (D.2.2.1 5) (0 : Int32).toNatClampNeg (0 : Int32).toNatClampNeg (6 : Int32).toNatClampNeg)) 6 (va_cpy (D.2.2.1 2) (D.2.2.1 6) (0 : Int32).toNatClampNeg (0 : Int32).toNatClampNeg (6 : Int32).toNatClampNeg)) 7 (va_cpy (D.2.2.1 3) (D.2.2.1 7) (0 : Int32).toNatClampNeg (0 : Int32).toNatClampNeg (11 : Int32).toNatClampNeg))) wl_X8_30 wn_copy ws_copy wi_sys 5 10 (wg_5 E _) (wg_10 E _) (by decide) (by decide) (by decide) (by decide) (by decide) (ws_A_7 E _ _) (Nat.le_of_ble_eq_true rfl) (Nat.le_of_ble_eq_true rfl) dX8_copyFrom_57 ?_
  refine g_aload_n X 0 (i0 := 0) dX8_copyFrom_60 rfl rfl ?_
  refine g_aload_n X 1 (i0 := 1) dX8_copyFrom_61 rfl rfl ?_
  refine g_get X (D := (setA (setA (setA (setA D 4 (va_cpy (D.2.2.1 0) (D.2.2.1 4) (0 : Int32).toNatClampNeg (0 : Int32).toNatClampNeg (36 : Int32).toNatClampNeg)) 5 (va_cpy (D.2.2.1 1) (D.2.2.1 5) (0 : Int32).toNatClampNeg (0 : Int32).toNatClampNeg (6 : Int32).toNatClampNeg)) 6 (va_cpy (D.2.2.1 2) (D.2.2.1 6) (0 : Int32).toNatClampNeg (0 : Int32).toNatClampNeg (6 : Int32).toNatClampNeg)) 7 (va_cpy (D.2.2.1 3) (D.2.2.1 7) (0 : Int32).toNatClampNeg (0 : Int32).toNatClampNeg (11 : Int32).toNatClampNeg))) (v := .int (D.1 0)) (T := TX8) 1 uX8 (wg_1 E _) rfl 4 (by decide) fl_X8_36 rfl rfl dX8_copyFrom_62 ?_
  refine g_put X (D := (setA (setA (setA (setA D 4 (va_cpy (D.2.2.1 0) (D.2.2.1 4) (0 : Int32).toNatClampNeg (0 : Int32).toNatClampNeg (36 : Int32).toNatClampNeg)) 5 (va_cpy (D.2.2.1 1) (D.2.2.1 5) (0 : Int32).toNatClampNeg (0 : Int32).toNatClampNeg (6 : Int32).toNatClampNeg)) 6 (va_cpy (D.2.2.1 2) (D.2.2.1 6) (0 : Int32).toNatClampNeg (0 : Int32).toNatClampNeg (6 : Int32).toNatClampNeg)) 7 (va_cpy (D.2.2.1 3) (D.2.2.1 7) (0 : Int32).toNatClampNeg (0 : Int32).toNatClampNeg (11 : Int32).toNatClampNeg))) (v := .int (D.1 0)) (T := TX8) (D' := (setI (setA (setA (setA (setA D 4 (va_cpy (D.2.2.1 0) (D.2.2.1 4) (0 : Int32).toNatClampNeg (0 : Int32).toNatClampNeg (36 : Int32).toNatClampNeg)) 5 (va_cpy (D.2.2.1 1) (D.2.2.1 5) (0 : Int32).toNatClampNeg (0 : Int32).toNatClampNeg (6 : Int32).toNatClampNeg)) 6 (va_cpy (D.2.2.1 2) (D.2.2.1 6) (0 : Int32).toNatClampNeg (0 : Int32).toNatClampNeg (6 : Int32).toNatClampNeg)) 7 (va_cpy (D.2.2.1 3) (D.2.2.1 7) (0 : Int32).toNatClampNeg (0 : Int32).toNatClampNeg (11 : Int32).toNatClampNeg)) 10 (D.1 0))) 6 uX8 tyX8 tyX8_ok nmX8 (wg_6 E _) rfl 4 (by decide) fl_X8_36 rfl rfl rfl rfl (Nat.le_of_ble_eq_true rfl) (ws_I_10 E _ _) dX8_copyFrom_65 ?_
  refine g_aload_n X 0 (i0 := 0) dX8_copyFrom_68 rfl rfl ?_
  refine g_aload_n X 1 (i0 := 1) dX8_copyFrom_69 rfl rfl ?_
  refine g_get X (D := (setI (setA (setA (setA (setA D 4 (va_cpy (D.2.2.1 0) (D.2.2.1 4) (0 : Int32).toNatClampNeg (0 : Int32).toNatClampNeg (36 : Int32).toNatClampNeg)) 5 (va_cpy (D.2.2.1 1) (D.2.2.1 5) (0 : Int32).toNatClampNeg (0 : Int32).toNatClampNeg (6 : Int32).toNatClampNeg)) 6 (va_cpy (D.2.2.1 2) (D.2.2.1 6) (0 : Int32).toNatClampNeg (0 : Int32).toNatClampNeg (6 : Int32).toNatClampNeg)) 7 (va_cpy (D.2.2.1 3) (D.2.2.1 7) (0 : Int32).toNatClampNeg (0 : Int32).toNatClampNeg (11 : Int32).toNatClampNeg)) 10 (D.1 0))) (v := .int (D.1 1)) (T := TX8) 1 uX8 (wg_1 E _) rfl 5 (by decide) fl_X8_40 rfl rfl dX8_copyFrom_70 ?_
  refine g_put X (D := (setI (setA (setA (setA (setA D 4 (va_cpy (D.2.2.1 0) (D.2.2.1 4) (0 : Int32).toNatClampNeg (0 : Int32).toNatClampNeg (36 : Int32).toNatClampNeg)) 5 (va_cpy (D.2.2.1 1) (D.2.2.1 5) (0 : Int32).toNatClampNeg (0 : Int32).toNatClampNeg (6 : Int32).toNatClampNeg)) 6 (va_cpy (D.2.2.1 2) (D.2.2.1 6) (0 : Int32).toNatClampNeg (0 : Int32).toNatClampNeg (6 : Int32).toNatClampNeg)) 7 (va_cpy (D.2.2.1 3) (D.2.2.1 7) (0 : Int32).toNatClampNeg (0 : Int32).toNatClampNeg (11 : Int32).toNatClampNeg)) 10 (D.1 0))) (v := .int (D.1 1)) (T := TX8) (D' := (setI (setI (setA (setA (setA (setA D 4 (va_cpy (D.2.2.1 0) (D.2.2.1 4) (0 : Int32).toNatClampNeg (0 : Int32).toNatClampNeg (36 : Int32).toNatClampNeg)) 5 (va_cpy (D.2.2.1 1) (D.2.2.1 5) (0 : Int32).toNatClampNeg (0 : Int32).toNatClampNeg (6 : Int32).toNatClampNeg)) 6 (va_cpy (D.2.2.1 2) (D.2.2.1 6) (0 : Int32).toNatClampNeg (0 : Int32).toNatClampNeg (6 : Int32).toNatClampNeg)) 7 (va_cpy (D.2.2.1 3) (D.2.2.1 7) (0 : Int32).toNatClampNeg (0 : Int32).toNatClampNeg (11 : Int32).toNatClampNeg)) 10 (D.1 0)) 11 (D.1 1))) 6 uX8 tyX8 tyX8_ok nmX8 (wg_6 E _) rfl 5 (by decide) fl_X8_40 rfl rfl rfl rfl (Nat.le_of_ble_eq_true rfl) (ws_I_11 E _ _) dX8_copyFrom_73 ?_
  refine g_aload_n X 0 (i0 := 0) dX8_copyFrom_76 rfl rfl ?_
  refine g_aload_n X 1 (i0 := 1) dX8_copyFrom_77 rfl rfl ?_
  refine g_get X (D := (setI (setI (setA (setA (setA (setA D 4 (va_cpy (D.2.2.1 0) (D.2.2.1 4) (0 : Int32).toNatClampNeg (0 : Int32).toNatClampNeg (36 : Int32).toNatClampNeg)) 5 (va_cpy (D.2.2.1 1) (D.2.2.1 5) (0 : Int32).toNatClampNeg (0 : Int32).toNatClampNeg (6 : Int32).toNatClampNeg)) 6 (va_cpy (D.2.2.1 2) (D.2.2.1 6) (0 : Int32).toNatClampNeg (0 : Int32).toNatClampNeg (6 : Int32).toNatClampNeg)) 7 (va_cpy (D.2.2.1 3) (D.2.2.1 7) (0 : Int32).toNatClampNeg (0 : Int32).toNatClampNeg (11 : Int32).toNatClampNeg)) 10 (D.1 0)) 11 (D.1 1))) (v := .int (D.1 2)) (T := TX8) 1 uX8 (wg_1 E _) rfl 6 (by decide) fl_X8_43 rfl rfl dX8_copyFrom_78 ?_
  refine g_put X (D := (setI (setI (setA (setA (setA (setA D 4 (va_cpy (D.2.2.1 0) (D.2.2.1 4) (0 : Int32).toNatClampNeg (0 : Int32).toNatClampNeg (36 : Int32).toNatClampNeg)) 5 (va_cpy (D.2.2.1 1) (D.2.2.1 5) (0 : Int32).toNatClampNeg (0 : Int32).toNatClampNeg (6 : Int32).toNatClampNeg)) 6 (va_cpy (D.2.2.1 2) (D.2.2.1 6) (0 : Int32).toNatClampNeg (0 : Int32).toNatClampNeg (6 : Int32).toNatClampNeg)) 7 (va_cpy (D.2.2.1 3) (D.2.2.1 7) (0 : Int32).toNatClampNeg (0 : Int32).toNatClampNeg (11 : Int32).toNatClampNeg)) 10 (D.1 0)) 11 (D.1 1))) (v := .int (D.1 2)) (T := TX8) (D' := (setI (setI (setI (setA (setA (setA (setA D 4 (va_cpy (D.2.2.1 0) (D.2.2.1 4) (0 : Int32).toNatClampNeg (0 : Int32).toNatClampNeg (36 : Int32).toNatClampNeg)) 5 (va_cpy (D.2.2.1 1) (D.2.2.1 5) (0 : Int32).toNatClampNeg (0 : Int32).toNatClampNeg (6 : Int32).toNatClampNeg)) 6 (va_cpy (D.2.2.1 2) (D.2.2.1 6) (0 : Int32).toNatClampNeg (0 : Int32).toNatClampNeg (6 : Int32).toNatClampNeg)) 7 (va_cpy (D.2.2.1 3) (D.2.2.1 7) (0 : Int32).toNatClampNeg (0 : Int32).toNatClampNeg (11 : Int32).toNatClampNeg)) 10 (D.1 0)) 11 (D.1 1)) 12 (D.1 2))) 6 uX8 tyX8 tyX8_ok nmX8 (wg_6 E _) rfl 6 (by decide) fl_X8_43 rfl rfl rfl rfl (Nat.le_of_ble_eq_true rfl) (ws_I_12 E _ _) dX8_copyFrom_81 ?_
  refine g_aload_n X 0 (i0 := 0) dX8_copyFrom_84 rfl rfl ?_
  refine g_aload_n X 1 (i0 := 1) dX8_copyFrom_85 rfl rfl ?_
  refine g_get X (D := (setI (setI (setI (setA (setA (setA (setA D 4 (va_cpy (D.2.2.1 0) (D.2.2.1 4) (0 : Int32).toNatClampNeg (0 : Int32).toNatClampNeg (36 : Int32).toNatClampNeg)) 5 (va_cpy (D.2.2.1 1) (D.2.2.1 5) (0 : Int32).toNatClampNeg (0 : Int32).toNatClampNeg (6 : Int32).toNatClampNeg)) 6 (va_cpy (D.2.2.1 2) (D.2.2.1 6) (0 : Int32).toNatClampNeg (0 : Int32).toNatClampNeg (6 : Int32).toNatClampNeg)) 7 (va_cpy (D.2.2.1 3) (D.2.2.1 7) (0 : Int32).toNatClampNeg (0 : Int32).toNatClampNeg (11 : Int32).toNatClampNeg)) 10 (D.1 0)) 11 (D.1 1)) 12 (D.1 2))) (v := .int (D.1 3)) (T := TX8) 1 uX8 (wg_1 E _) rfl 7 (by decide) fl_X8_46 rfl rfl dX8_copyFrom_86 ?_
  refine g_put X (D := (setI (setI (setI (setA (setA (setA (setA D 4 (va_cpy (D.2.2.1 0) (D.2.2.1 4) (0 : Int32).toNatClampNeg (0 : Int32).toNatClampNeg (36 : Int32).toNatClampNeg)) 5 (va_cpy (D.2.2.1 1) (D.2.2.1 5) (0 : Int32).toNatClampNeg (0 : Int32).toNatClampNeg (6 : Int32).toNatClampNeg)) 6 (va_cpy (D.2.2.1 2) (D.2.2.1 6) (0 : Int32).toNatClampNeg (0 : Int32).toNatClampNeg (6 : Int32).toNatClampNeg)) 7 (va_cpy (D.2.2.1 3) (D.2.2.1 7) (0 : Int32).toNatClampNeg (0 : Int32).toNatClampNeg (11 : Int32).toNatClampNeg)) 10 (D.1 0)) 11 (D.1 1)) 12 (D.1 2))) (v := .int (D.1 3)) (T := TX8) (D' := (setI (setI (setI (setI (setA (setA (setA (setA D 4 (va_cpy (D.2.2.1 0) (D.2.2.1 4) (0 : Int32).toNatClampNeg (0 : Int32).toNatClampNeg (36 : Int32).toNatClampNeg)) 5 (va_cpy (D.2.2.1 1) (D.2.2.1 5) (0 : Int32).toNatClampNeg (0 : Int32).toNatClampNeg (6 : Int32).toNatClampNeg)) 6 (va_cpy (D.2.2.1 2) (D.2.2.1 6) (0 : Int32).toNatClampNeg (0 : Int32).toNatClampNeg (6 : Int32).toNatClampNeg)) 7 (va_cpy (D.2.2.1 3) (D.2.2.1 7) (0 : Int32).toNatClampNeg (0 : Int32).toNatClampNeg (11 : Int32).toNatClampNeg)) 10 (D.1 0)) 11 (D.1 1)) 12 (D.1 2)) 13 (D.1 3))) 6 uX8 tyX8 tyX8_ok nmX8 (wg_6 E _) rfl 7 (by decide) fl_X8_46 rfl rfl rfl rfl (Nat.le_of_ble_eq_true rfl) (ws_I_13 E _ _) dX8_copyFrom_89 ?_
  refine g_aload_n X 0 (i0 := 0) dX8_copyFrom_92 rfl rfl ?_
  refine g_aload_n X 1 (i0 := 1) dX8_copyFrom_93 rfl rfl ?_
  refine g_get X (D := (setI (setI (setI (setI (setA (setA (setA (setA D 4 (va_cpy (D.2.2.1 0) (D.2.2.1 4) (0 : Int32).toNatClampNeg (0 : Int32).toNatClampNeg (36 : Int32).toNatClampNeg)) 5 (va_cpy (D.2.2.1 1) (D.2.2.1 5) (0 : Int32).toNatClampNeg (0 : Int32).toNatClampNeg (6 : Int32).toNatClampNeg)) 6 (va_cpy (D.2.2.1 2) (D.2.2.1 6) (0 : Int32).toNatClampNeg (0 : Int32).toNatClampNeg (6 : Int32).toNatClampNeg)) 7 (va_cpy (D.2.2.1 3) (D.2.2.1 7) (0 : Int32).toNatClampNeg (0 : Int32).toNatClampNeg (11 : Int32).toNatClampNeg)) 10 (D.1 0)) 11 (D.1 1)) 12 (D.1 2)) 13 (D.1 3))) (v := .long (D.2.1 0)) (T := TX8) 1 uX8 (wg_1 E _) rfl 8 (by decide) fl_X8_49 rfl rfl dX8_copyFrom_94 ?_
  refine g_put X (D := (setI (setI (setI (setI (setA (setA (setA (setA D 4 (va_cpy (D.2.2.1 0) (D.2.2.1 4) (0 : Int32).toNatClampNeg (0 : Int32).toNatClampNeg (36 : Int32).toNatClampNeg)) 5 (va_cpy (D.2.2.1 1) (D.2.2.1 5) (0 : Int32).toNatClampNeg (0 : Int32).toNatClampNeg (6 : Int32).toNatClampNeg)) 6 (va_cpy (D.2.2.1 2) (D.2.2.1 6) (0 : Int32).toNatClampNeg (0 : Int32).toNatClampNeg (6 : Int32).toNatClampNeg)) 7 (va_cpy (D.2.2.1 3) (D.2.2.1 7) (0 : Int32).toNatClampNeg (0 : Int32).toNatClampNeg (11 : Int32).toNatClampNeg)) 10 (D.1 0)) 11 (D.1 1)) 12 (D.1 2)) 13 (D.1 3))) (v := .long (D.2.1 0)) (T := TX8) (D' := (setJ (setI (setI (setI (setI (setA (setA (setA (setA D 4 (va_cpy (D.2.2.1 0) (D.2.2.1 4) (0 : Int32).toNatClampNeg (0 : Int32).toNatClampNeg (36 : Int32).toNatClampNeg)) 5 (va_cpy (D.2.2.1 1) (D.2.2.1 5) (0 : Int32).toNatClampNeg (0 : Int32).toNatClampNeg (6 : Int32).toNatClampNeg)) 6 (va_cpy (D.2.2.1 2) (D.2.2.1 6) (0 : Int32).toNatClampNeg (0 : Int32).toNatClampNeg (6 : Int32).toNatClampNeg)) 7 (va_cpy (D.2.2.1 3) (D.2.2.1 7) (0 : Int32).toNatClampNeg (0 : Int32).toNatClampNeg (11 : Int32).toNatClampNeg)) 10 (D.1 0)) 11 (D.1 1)) 12 (D.1 2)) 13 (D.1 3)) 1 (D.2.1 0))) 6 uX8 tyX8 tyX8_ok nmX8 (wg_6 E _) rfl 8 (by decide) fl_X8_49 rfl rfl rfl rfl (Nat.le_of_ble_eq_true rfl) (ws_J_1 E _ _) dX8_copyFrom_97 ?_
  exact g_vret X hr dX8_copyFrom_100 (Option.some.inj h)
def S_X8_copyFrom_state_before  (D : DD) : Option RT := some (0, none, (setJ (setI (setI (setI (setI (setA (setA (setA (setA D 0 (va_cpy (D.2.2.1 4) (D.2.2.1 0) (0 : Int32).toNatClampNeg (0 : Int32).toNatClampNeg (36 : Int32).toNatClampNeg)) 1 (va_cpy (D.2.2.1 5) (D.2.2.1 1) (0 : Int32).toNatClampNeg (0 : Int32).toNatClampNeg (6 : Int32).toNatClampNeg)) 2 (va_cpy (D.2.2.1 6) (D.2.2.1 2) (0 : Int32).toNatClampNeg (0 : Int32).toNatClampNeg (6 : Int32).toNatClampNeg)) 3 (va_cpy (D.2.2.1 7) (D.2.2.1 3) (0 : Int32).toNatClampNeg (0 : Int32).toNatClampNeg (11 : Int32).toNatClampNeg)) 0 (D.1 10)) 1 (D.1 11)) 2 (D.1 12)) 3 (D.1 13)) 0 (D.2.1 1)))
set_option maxRecDepth 100000 in
set_option maxHeartbeats 4000000 in
theorem c_X8_copyFrom_state_before (l : Launch) (G : va_G) (E : EE)  (D : DD) (r : RT) (h : S_X8_copyFrom_state_before  D = some r) : MM l G E yX8_copyFrom cX8_copyFrom 2 none (rmm 1) [.ref (E.1 1), .ref (E.1 6)] D r := by
  refine m_of rfl (Nat.le_of_ble_eq_true rfl) ?_
  intro p e s m args below meth c X hr
  unfold S_X8_copyFrom_state_before at h
  refine g_aload_n X 1 (i0 := 1) dX8_copyFrom_0 rfl rfl ?_
  refine g_get X (D := D) (v := .ref (E.1 7)) (T := TX8) 6 uX8 (wg_6 E _) rfl 0 (by decide) fl_X8_9 rfl rfl dX8_copyFrom_1 ?_
  refine g_iconst X (v := (0 : Int32)) dX8_copyFrom_4 (by decide) ?_
  refine g_aload_n X 0 (i0 := 0) dX8_copyFrom_5 rfl rfl ?_
  refine g_get X (D := D) (v := .ref (E.1 2)) (T := TX8) 1 uX8 (wg_1 E _) rfl 0 (by decide) fl_X8_9 rfl rfl dX8_copyFrom_6 ?_
  refine g_iconst X (v := (0 : Int32)) dX8_copyFrom_9 (by decide) ?_
  refine g_bipush X (v := (36 : Int32)) dX8_copyFrom_10 (by decide) ?_
  refine g_copyi X (D := D) (f := (D.2.2.1 4)) (g := (D.2.2.1 0)) (sp := (0 : Int32)) (dp := (0 : Int32)) (n := (36 : Int32)) (D' := (setA D 0 (va_cpy (D.2.2.1 4) (D.2.2.1 0) (0 : Int32).toNatClampNeg (0 : Int32).toNatClampNeg (36 : Int32).toNatClampNeg))) wl_X8_30 wn_copy ws_copy wi_sys 7 2 (wg_7 E _) (wg_2 E _) (by decide) (by decide) (by decide) (by decide) (by decide) (ws_A_0 E _ _) (Nat.le_of_ble_eq_true rfl) (Nat.le_of_ble_eq_true rfl) dX8_copyFrom_12 ?_
  refine g_aload_n X 1 (i0 := 1) dX8_copyFrom_15 rfl rfl ?_
  refine g_get X (D := (setA D 0 (va_cpy (D.2.2.1 4) (D.2.2.1 0) (0 : Int32).toNatClampNeg (0 : Int32).toNatClampNeg (36 : Int32).toNatClampNeg))) (v := .ref (E.1 8)) (T := TX8) 6 uX8 (wg_6 E _) rfl 1 (by decide) fl_X8_15 rfl rfl dX8_copyFrom_16 ?_
  refine g_iconst X (v := (0 : Int32)) dX8_copyFrom_19 (by decide) ?_
  refine g_aload_n X 0 (i0 := 0) dX8_copyFrom_20 rfl rfl ?_
  refine g_get X (D := (setA D 0 (va_cpy (D.2.2.1 4) (D.2.2.1 0) (0 : Int32).toNatClampNeg (0 : Int32).toNatClampNeg (36 : Int32).toNatClampNeg))) (v := .ref (E.1 3)) (T := TX8) 1 uX8 (wg_1 E _) rfl 1 (by decide) fl_X8_15 rfl rfl dX8_copyFrom_21 ?_
  refine g_iconst X (v := (0 : Int32)) dX8_copyFrom_24 (by decide) ?_
  refine g_bipush X (v := (6 : Int32)) dX8_copyFrom_25 (by decide) ?_
  refine g_copyi X (D := (setA D 0 (va_cpy (D.2.2.1 4) (D.2.2.1 0) (0 : Int32).toNatClampNeg (0 : Int32).toNatClampNeg (36 : Int32).toNatClampNeg))) (f := (D.2.2.1 5)) (g := (D.2.2.1 1)) (sp := (0 : Int32)) (dp := (0 : Int32)) (n := (6 : Int32)) (D' := (setA (setA D 0 (va_cpy (D.2.2.1 4) (D.2.2.1 0) (0 : Int32).toNatClampNeg (0 : Int32).toNatClampNeg (36 : Int32).toNatClampNeg)) 1 (va_cpy (D.2.2.1 5) (D.2.2.1 1) (0 : Int32).toNatClampNeg (0 : Int32).toNatClampNeg (6 : Int32).toNatClampNeg))) wl_X8_30 wn_copy ws_copy wi_sys 8 3 (wg_8 E _) (wg_3 E _) (by decide) (by decide) (by decide) (by decide) (by decide) (ws_A_1 E _ _) (Nat.le_of_ble_eq_true rfl) (Nat.le_of_ble_eq_true rfl) dX8_copyFrom_27 ?_
  refine g_aload_n X 1 (i0 := 1) dX8_copyFrom_30 rfl rfl ?_
  refine g_get X (D := (setA (setA D 0 (va_cpy (D.2.2.1 4) (D.2.2.1 0) (0 : Int32).toNatClampNeg (0 : Int32).toNatClampNeg (36 : Int32).toNatClampNeg)) 1 (va_cpy (D.2.2.1 5) (D.2.2.1 1) (0 : Int32).toNatClampNeg (0 : Int32).toNatClampNeg (6 : Int32).toNatClampNeg))) (v := .ref (E.1 9)) (T := TX8) 6 uX8 (wg_6 E _) rfl 2 (by decide) fl_X8_18 rfl rfl dX8_copyFrom_31 ?_
  refine g_iconst X (v := (0 : Int32)) dX8_copyFrom_34 (by decide) ?_
  refine g_aload_n X 0 (i0 := 0) dX8_copyFrom_35 rfl rfl ?_
  refine g_get X (D := (setA (setA D 0 (va_cpy (D.2.2.1 4) (D.2.2.1 0) (0 : Int32).toNatClampNeg (0 : Int32).toNatClampNeg (36 : Int32).toNatClampNeg)) 1 (va_cpy (D.2.2.1 5) (D.2.2.1 1) (0 : Int32).toNatClampNeg (0 : Int32).toNatClampNeg (6 : Int32).toNatClampNeg))) (v := .ref (E.1 4)) (T := TX8) 1 uX8 (wg_1 E _) rfl 2 (by decide) fl_X8_18 rfl rfl dX8_copyFrom_36 ?_
  refine g_iconst X (v := (0 : Int32)) dX8_copyFrom_39 (by decide) ?_
  refine g_bipush X (v := (6 : Int32)) dX8_copyFrom_40 (by decide) ?_
  refine g_copyi X (D := (setA (setA D 0 (va_cpy (D.2.2.1 4) (D.2.2.1 0) (0 : Int32).toNatClampNeg (0 : Int32).toNatClampNeg (36 : Int32).toNatClampNeg)) 1 (va_cpy (D.2.2.1 5) (D.2.2.1 1) (0 : Int32).toNatClampNeg (0 : Int32).toNatClampNeg (6 : Int32).toNatClampNeg))) (f := (D.2.2.1 6)) (g := (D.2.2.1 2)) (sp := (0 : Int32)) (dp := (0 : Int32)) (n := (6 : Int32)) (D' := (setA (setA (setA D 0 (va_cpy (D.2.2.1 4) (D.2.2.1 0) (0 : Int32).toNatClampNeg (0 : Int32).toNatClampNeg (36 : Int32).toNatClampNeg)) 1 (va_cpy (D.2.2.1 5) (D.2.2.1 1) (0 : Int32).toNatClampNeg (0 : Int32).toNatClampNeg (6 : Int32).toNatClampNeg)) 2 (va_cpy (D.2.2.1 6) (D.2.2.1 2) (0 : Int32).toNatClampNeg (0 : Int32).toNatClampNeg (6 : Int32).toNatClampNeg))) wl_X8_30 wn_copy ws_copy wi_sys 9 4 (wg_9 E _) (wg_4 E _) (by decide) (by decide) (by decide) (by decide) (by decide) (ws_A_2 E _ _) (Nat.le_of_ble_eq_true rfl) (Nat.le_of_ble_eq_true rfl) dX8_copyFrom_42 ?_
  refine g_aload_n X 1 (i0 := 1) dX8_copyFrom_45 rfl rfl ?_
  refine g_get X (D := (setA (setA (setA D 0 (va_cpy (D.2.2.1 4) (D.2.2.1 0) (0 : Int32).toNatClampNeg (0 : Int32).toNatClampNeg (36 : Int32).toNatClampNeg)) 1 (va_cpy (D.2.2.1 5) (D.2.2.1 1) (0 : Int32).toNatClampNeg (0 : Int32).toNatClampNeg (6 : Int32).toNatClampNeg)) 2 (va_cpy (D.2.2.1 6) (D.2.2.1 2) (0 : Int32).toNatClampNeg (0 : Int32).toNatClampNeg (6 : Int32).toNatClampNeg))) (v := .ref (E.1 10)) (T := TX8) 6 uX8 (wg_6 E _) rfl 3 (by decide) fl_X8_21 rfl rfl dX8_copyFrom_46 ?_
  refine g_iconst X (v := (0 : Int32)) dX8_copyFrom_49 (by decide) ?_
  refine g_aload_n X 0 (i0 := 0) dX8_copyFrom_50 rfl rfl ?_
  refine g_get X (D := (setA (setA (setA D 0 (va_cpy (D.2.2.1 4) (D.2.2.1 0) (0 : Int32).toNatClampNeg (0 : Int32).toNatClampNeg (36 : Int32).toNatClampNeg)) 1 (va_cpy (D.2.2.1 5) (D.2.2.1 1) (0 : Int32).toNatClampNeg (0 : Int32).toNatClampNeg (6 : Int32).toNatClampNeg)) 2 (va_cpy (D.2.2.1 6) (D.2.2.1 2) (0 : Int32).toNatClampNeg (0 : Int32).toNatClampNeg (6 : Int32).toNatClampNeg))) (v := .ref (E.1 5)) (T := TX8) 1 uX8 (wg_1 E _) rfl 3 (by decide) fl_X8_21 rfl rfl dX8_copyFrom_51 ?_
  refine g_iconst X (v := (0 : Int32)) dX8_copyFrom_54 (by decide) ?_
  refine g_bipush X (v := (11 : Int32)) dX8_copyFrom_55 (by decide) ?_
  refine g_copyi X (D := (setA (setA (setA D 0 (va_cpy (D.2.2.1 4) (D.2.2.1 0) (0 : Int32).toNatClampNeg (0 : Int32).toNatClampNeg (36 : Int32).toNatClampNeg)) 1 (va_cpy (D.2.2.1 5) (D.2.2.1 1) (0 : Int32).toNatClampNeg (0 : Int32).toNatClampNeg (6 : Int32).toNatClampNeg)) 2 (va_cpy (D.2.2.1 6) (D.2.2.1 2) (0 : Int32).toNatClampNeg (0 : Int32).toNatClampNeg (6 : Int32).toNatClampNeg))) (f := (D.2.2.1 7)) (g := (D.2.2.1 3)) (sp := (0 : Int32)) (dp := (0 : Int32)) (n := (11 : Int32)) (D' := (setA (setA (setA (setA D 0 (va_cpy (D.2.2.1 4) (D.2.2.1 0) (0 : Int32).toNatClampNeg (0 : Int32).toNatClampNeg (36 : Int32).toNatClampNeg)) 1 (va_cpy (D.2.2.1 5) (D.2.2.1 1) (0 : Int32).toNatClampNeg (0 : Int32).toNatClampNeg (6 : Int32).toNatClampNeg)) 2 (va_cpy (D.2.2.1 6) (D.2.2.1 2) (0 : Int32).toNatClampNeg (0 : Int32).toNatClampNeg (6 : Int32).toNatClampNeg)) 3 (va_cpy (D.2.2.1 7) (D.2.2.1 3) (0 : Int32).toNatClampNeg (0 : Int32).toNatClampNeg (11 : Int32).toNatClampNeg))) wl_X8_30 wn_copy ws_copy wi_sys 10 5 (wg_10 E _) (wg_5 E _) (by decide) (by decide) (by decide) (by decide) (by decide) (ws_A_3 E _ _) (Nat.le_of_ble_eq_true rfl) (Nat.le_of_ble_eq_true rfl) dX8_copyFrom_57 ?_
  refine g_aload_n X 0 (i0 := 0) dX8_copyFrom_60 rfl rfl ?_
  refine g_aload_n X 1 (i0 := 1) dX8_copyFrom_61 rfl rfl ?_
  refine g_get X (D := (setA (setA (setA (setA D 0 (va_cpy (D.2.2.1 4) (D.2.2.1 0) (0 : Int32).toNatClampNeg (0 : Int32).toNatClampNeg (36 : Int32).toNatClampNeg)) 1 (va_cpy (D.2.2.1 5) (D.2.2.1 1) (0 : Int32).toNatClampNeg (0 : Int32).toNatClampNeg (6 : Int32).toNatClampNeg)) 2 (va_cpy (D.2.2.1 6) (D.2.2.1 2) (0 : Int32).toNatClampNeg (0 : Int32).toNatClampNeg (6 : Int32).toNatClampNeg)) 3 (va_cpy (D.2.2.1 7) (D.2.2.1 3) (0 : Int32).toNatClampNeg (0 : Int32).toNatClampNeg (11 : Int32).toNatClampNeg))) (v := .int (D.1 10)) (T := TX8) 6 uX8 (wg_6 E _) rfl 4 (by decide) fl_X8_36 rfl rfl dX8_copyFrom_62 ?_
  refine g_put X (D := (setA (setA (setA (setA D 0 (va_cpy (D.2.2.1 4) (D.2.2.1 0) (0 : Int32).toNatClampNeg (0 : Int32).toNatClampNeg (36 : Int32).toNatClampNeg)) 1 (va_cpy (D.2.2.1 5) (D.2.2.1 1) (0 : Int32).toNatClampNeg (0 : Int32).toNatClampNeg (6 : Int32).toNatClampNeg)) 2 (va_cpy (D.2.2.1 6) (D.2.2.1 2) (0 : Int32).toNatClampNeg (0 : Int32).toNatClampNeg (6 : Int32).toNatClampNeg)) 3 (va_cpy (D.2.2.1 7) (D.2.2.1 3) (0 : Int32).toNatClampNeg (0 : Int32).toNatClampNeg (11 : Int32).toNatClampNeg))) (v := .int (D.1 10)) (T := TX8) (D' := (setI (setA (setA (setA (setA D 0 (va_cpy (D.2.2.1 4) (D.2.2.1 0) (0 : Int32).toNatClampNeg (0 : Int32).toNatClampNeg (36 : Int32).toNatClampNeg)) 1 (va_cpy (D.2.2.1 5) (D.2.2.1 1) (0 : Int32).toNatClampNeg (0 : Int32).toNatClampNeg (6 : Int32).toNatClampNeg)) 2 (va_cpy (D.2.2.1 6) (D.2.2.1 2) (0 : Int32).toNatClampNeg (0 : Int32).toNatClampNeg (6 : Int32).toNatClampNeg)) 3 (va_cpy (D.2.2.1 7) (D.2.2.1 3) (0 : Int32).toNatClampNeg (0 : Int32).toNatClampNeg (11 : Int32).toNatClampNeg)) 0 (D.1 10))) 1 uX8 tyX8 tyX8_ok nmX8 (wg_1 E _) rfl 4 (by decide) fl_X8_36 rfl rfl rfl rfl (Nat.le_of_ble_eq_true rfl) (ws_I_0 E _ _) dX8_copyFrom_65 ?_
  refine g_aload_n X 0 (i0 := 0) dX8_copyFrom_68 rfl rfl ?_
  refine g_aload_n X 1 (i0 := 1) dX8_copyFrom_69 rfl rfl ?_
  refine g_get X (D := (setI (setA (setA (setA (setA D 0 (va_cpy (D.2.2.1 4) (D.2.2.1 0) (0 : Int32).toNatClampNeg (0 : Int32).toNatClampNeg (36 : Int32).toNatClampNeg)) 1 (va_cpy (D.2.2.1 5) (D.2.2.1 1) (0 : Int32).toNatClampNeg (0 : Int32).toNatClampNeg (6 : Int32).toNatClampNeg)) 2 (va_cpy (D.2.2.1 6) (D.2.2.1 2) (0 : Int32).toNatClampNeg (0 : Int32).toNatClampNeg (6 : Int32).toNatClampNeg)) 3 (va_cpy (D.2.2.1 7) (D.2.2.1 3) (0 : Int32).toNatClampNeg (0 : Int32).toNatClampNeg (11 : Int32).toNatClampNeg)) 0 (D.1 10))) (v := .int (D.1 11)) (T := TX8) 6 uX8 (wg_6 E _) rfl 5 (by decide) fl_X8_40 rfl rfl dX8_copyFrom_70 ?_
  refine g_put X (D := (setI (setA (setA (setA (setA D 0 (va_cpy (D.2.2.1 4) (D.2.2.1 0) (0 : Int32).toNatClampNeg (0 : Int32).toNatClampNeg (36 : Int32).toNatClampNeg)) 1 (va_cpy (D.2.2.1 5) (D.2.2.1 1) (0 : Int32).toNatClampNeg (0 : Int32).toNatClampNeg (6 : Int32).toNatClampNeg)) 2 (va_cpy (D.2.2.1 6) (D.2.2.1 2) (0 : Int32).toNatClampNeg (0 : Int32).toNatClampNeg (6 : Int32).toNatClampNeg)) 3 (va_cpy (D.2.2.1 7) (D.2.2.1 3) (0 : Int32).toNatClampNeg (0 : Int32).toNatClampNeg (11 : Int32).toNatClampNeg)) 0 (D.1 10))) (v := .int (D.1 11)) (T := TX8) (D' := (setI (setI (setA (setA (setA (setA D 0 (va_cpy (D.2.2.1 4) (D.2.2.1 0) (0 : Int32).toNatClampNeg (0 : Int32).toNatClampNeg (36 : Int32).toNatClampNeg)) 1 (va_cpy (D.2.2.1 5) (D.2.2.1 1) (0 : Int32).toNatClampNeg (0 : Int32).toNatClampNeg (6 : Int32).toNatClampNeg)) 2 (va_cpy (D.2.2.1 6) (D.2.2.1 2) (0 : Int32).toNatClampNeg (0 : Int32).toNatClampNeg (6 : Int32).toNatClampNeg)) 3 (va_cpy (D.2.2.1 7) (D.2.2.1 3) (0 : Int32).toNatClampNeg (0 : Int32).toNatClampNeg (11 : Int32).toNatClampNeg)) 0 (D.1 10)) 1 (D.1 11))) 1 uX8 tyX8 tyX8_ok nmX8 (wg_1 E _) rfl 5 (by decide) fl_X8_40 rfl rfl rfl rfl (Nat.le_of_ble_eq_true rfl) (ws_I_1 E _ _) dX8_copyFrom_73 ?_
  refine g_aload_n X 0 (i0 := 0) dX8_copyFrom_76 rfl rfl ?_
  refine g_aload_n X 1 (i0 := 1) dX8_copyFrom_77 rfl rfl ?_
  refine g_get X (D := (setI (setI (setA (setA (setA (setA D 0 (va_cpy (D.2.2.1 4) (D.2.2.1 0) (0 : Int32).toNatClampNeg (0 : Int32).toNatClampNeg (36 : Int32).toNatClampNeg)) 1 (va_cpy (D.2.2.1 5) (D.2.2.1 1) (0 : Int32).toNatClampNeg (0 : Int32).toNatClampNeg (6 : Int32).toNatClampNeg)) 2 (va_cpy (D.2.2.1 6) (D.2.2.1 2) (0 : Int32).toNatClampNeg (0 : Int32).toNatClampNeg (6 : Int32).toNatClampNeg)) 3 (va_cpy (D.2.2.1 7) (D.2.2.1 3) (0 : Int32).toNatClampNeg (0 : Int32).toNatClampNeg (11 : Int32).toNatClampNeg)) 0 (D.1 10)) 1 (D.1 11))) (v := .int (D.1 12)) (T := TX8) 6 uX8 (wg_6 E _) rfl 6 (by decide) fl_X8_43 rfl rfl dX8_copyFrom_78 ?_
  refine g_put X (D := (setI (setI (setA (setA (setA (setA D 0 (va_cpy (D.2.2.1 4) (D.2.2.1 0) (0 : Int32).toNatClampNeg (0 : Int32).toNatClampNeg (36 : Int32).toNatClampNeg)) 1 (va_cpy (D.2.2.1 5) (D.2.2.1 1) (0 : Int32).toNatClampNeg (0 : Int32).toNatClampNeg (6 : Int32).toNatClampNeg)) 2 (va_cpy (D.2.2.1 6) (D.2.2.1 2) (0 : Int32).toNatClampNeg (0 : Int32).toNatClampNeg (6 : Int32).toNatClampNeg)) 3 (va_cpy (D.2.2.1 7) (D.2.2.1 3) (0 : Int32).toNatClampNeg (0 : Int32).toNatClampNeg (11 : Int32).toNatClampNeg)) 0 (D.1 10)) 1 (D.1 11))) (v := .int (D.1 12)) (T := TX8) (D' := (setI (setI (setI (setA (setA (setA (setA D 0 (va_cpy (D.2.2.1 4) (D.2.2.1 0) (0 : Int32).toNatClampNeg (0 : Int32).toNatClampNeg (36 : Int32).toNatClampNeg)) 1 (va_cpy (D.2.2.1 5) (D.2.2.1 1) (0 : Int32).toNatClampNeg (0 : Int32).toNatClampNeg (6 : Int32).toNatClampNeg)) 2 (va_cpy (D.2.2.1 6) (D.2.2.1 2) (0 : Int32).toNatClampNeg (0 : Int32).toNatClampNeg (6 : Int32).toNatClampNeg)) 3 (va_cpy (D.2.2.1 7) (D.2.2.1 3) (0 : Int32).toNatClampNeg (0 : Int32).toNatClampNeg (11 : Int32).toNatClampNeg)) 0 (D.1 10)) 1 (D.1 11)) 2 (D.1 12))) 1 uX8 tyX8 tyX8_ok nmX8 (wg_1 E _) rfl 6 (by decide) fl_X8_43 rfl rfl rfl rfl (Nat.le_of_ble_eq_true rfl) (ws_I_2 E _ _) dX8_copyFrom_81 ?_
  refine g_aload_n X 0 (i0 := 0) dX8_copyFrom_84 rfl rfl ?_
  refine g_aload_n X 1 (i0 := 1) dX8_copyFrom_85 rfl rfl ?_
  refine g_get X (D := (setI (setI (setI (setA (setA (setA (setA D 0 (va_cpy (D.2.2.1 4) (D.2.2.1 0) (0 : Int32).toNatClampNeg (0 : Int32).toNatClampNeg (36 : Int32).toNatClampNeg)) 1 (va_cpy (D.2.2.1 5) (D.2.2.1 1) (0 : Int32).toNatClampNeg (0 : Int32).toNatClampNeg (6 : Int32).toNatClampNeg)) 2 (va_cpy (D.2.2.1 6) (D.2.2.1 2) (0 : Int32).toNatClampNeg (0 : Int32).toNatClampNeg (6 : Int32).toNatClampNeg)) 3 (va_cpy (D.2.2.1 7) (D.2.2.1 3) (0 : Int32).toNatClampNeg (0 : Int32).toNatClampNeg (11 : Int32).toNatClampNeg)) 0 (D.1 10)) 1 (D.1 11)) 2 (D.1 12))) (v := .int (D.1 13)) (T := TX8) 6 uX8 (wg_6 E _) rfl 7 (by decide) fl_X8_46 rfl rfl dX8_copyFrom_86 ?_
  refine g_put X (D := (setI (setI (setI (setA (setA (setA (setA D 0 (va_cpy (D.2.2.1 4) (D.2.2.1 0) (0 : Int32).toNatClampNeg (0 : Int32).toNatClampNeg (36 : Int32).toNatClampNeg)) 1 (va_cpy (D.2.2.1 5) (D.2.2.1 1) (0 : Int32).toNatClampNeg (0 : Int32).toNatClampNeg (6 : Int32).toNatClampNeg)) 2 (va_cpy (D.2.2.1 6) (D.2.2.1 2) (0 : Int32).toNatClampNeg (0 : Int32).toNatClampNeg (6 : Int32).toNatClampNeg)) 3 (va_cpy (D.2.2.1 7) (D.2.2.1 3) (0 : Int32).toNatClampNeg (0 : Int32).toNatClampNeg (11 : Int32).toNatClampNeg)) 0 (D.1 10)) 1 (D.1 11)) 2 (D.1 12))) (v := .int (D.1 13)) (T := TX8) (D' := (setI (setI (setI (setI (setA (setA (setA (setA D 0 (va_cpy (D.2.2.1 4) (D.2.2.1 0) (0 : Int32).toNatClampNeg (0 : Int32).toNatClampNeg (36 : Int32).toNatClampNeg)) 1 (va_cpy (D.2.2.1 5) (D.2.2.1 1) (0 : Int32).toNatClampNeg (0 : Int32).toNatClampNeg (6 : Int32).toNatClampNeg)) 2 (va_cpy (D.2.2.1 6) (D.2.2.1 2) (0 : Int32).toNatClampNeg (0 : Int32).toNatClampNeg (6 : Int32).toNatClampNeg)) 3 (va_cpy (D.2.2.1 7) (D.2.2.1 3) (0 : Int32).toNatClampNeg (0 : Int32).toNatClampNeg (11 : Int32).toNatClampNeg)) 0 (D.1 10)) 1 (D.1 11)) 2 (D.1 12)) 3 (D.1 13))) 1 uX8 tyX8 tyX8_ok nmX8 (wg_1 E _) rfl 7 (by decide) fl_X8_46 rfl rfl rfl rfl (Nat.le_of_ble_eq_true rfl) (ws_I_3 E _ _) dX8_copyFrom_89 ?_
  refine g_aload_n X 0 (i0 := 0) dX8_copyFrom_92 rfl rfl ?_
  refine g_aload_n X 1 (i0 := 1) dX8_copyFrom_93 rfl rfl ?_
  refine g_get X (D := (setI (setI (setI (setI (setA (setA (setA (setA D 0 (va_cpy (D.2.2.1 4) (D.2.2.1 0) (0 : Int32).toNatClampNeg (0 : Int32).toNatClampNeg (36 : Int32).toNatClampNeg)) 1 (va_cpy (D.2.2.1 5) (D.2.2.1 1) (0 : Int32).toNatClampNeg (0 : Int32).toNatClampNeg (6 : Int32).toNatClampNeg)) 2 (va_cpy (D.2.2.1 6) (D.2.2.1 2) (0 : Int32).toNatClampNeg (0 : Int32).toNatClampNeg (6 : Int32).toNatClampNeg)) 3 (va_cpy (D.2.2.1 7) (D.2.2.1 3) (0 : Int32).toNatClampNeg (0 : Int32).toNatClampNeg (11 : Int32).toNatClampNeg)) 0 (D.1 10)) 1 (D.1 11)) 2 (D.1 12)) 3 (D.1 13))) (v := .long (D.2.1 1)) (T := TX8) 6 uX8 (wg_6 E _) rfl 8 (by decide) fl_X8_49 rfl rfl dX8_copyFrom_94 ?_
  refine g_put X (D := (setI (setI (setI (setI (setA (setA (setA (setA D 0 (va_cpy (D.2.2.1 4) (D.2.2.1 0) (0 : Int32).toNatClampNeg (0 : Int32).toNatClampNeg (36 : Int32).toNatClampNeg)) 1 (va_cpy (D.2.2.1 5) (D.2.2.1 1) (0 : Int32).toNatClampNeg (0 : Int32).toNatClampNeg (6 : Int32).toNatClampNeg)) 2 (va_cpy (D.2.2.1 6) (D.2.2.1 2) (0 : Int32).toNatClampNeg (0 : Int32).toNatClampNeg (6 : Int32).toNatClampNeg)) 3 (va_cpy (D.2.2.1 7) (D.2.2.1 3) (0 : Int32).toNatClampNeg (0 : Int32).toNatClampNeg (11 : Int32).toNatClampNeg)) 0 (D.1 10)) 1 (D.1 11)) 2 (D.1 12)) 3 (D.1 13))) (v := .long (D.2.1 1)) (T := TX8) (D' := (setJ (setI (setI (setI (setI (setA (setA (setA (setA D 0 (va_cpy (D.2.2.1 4) (D.2.2.1 0) (0 : Int32).toNatClampNeg (0 : Int32).toNatClampNeg (36 : Int32).toNatClampNeg)) 1 (va_cpy (D.2.2.1 5) (D.2.2.1 1) (0 : Int32).toNatClampNeg (0 : Int32).toNatClampNeg (6 : Int32).toNatClampNeg)) 2 (va_cpy (D.2.2.1 6) (D.2.2.1 2) (0 : Int32).toNatClampNeg (0 : Int32).toNatClampNeg (6 : Int32).toNatClampNeg)) 3 (va_cpy (D.2.2.1 7) (D.2.2.1 3) (0 : Int32).toNatClampNeg (0 : Int32).toNatClampNeg (11 : Int32).toNatClampNeg)) 0 (D.1 10)) 1 (D.1 11)) 2 (D.1 12)) 3 (D.1 13)) 0 (D.2.1 1))) 1 uX8 tyX8 tyX8_ok nmX8 (wg_1 E _) rfl 8 (by decide) fl_X8_49 rfl rfl rfl rfl (Nat.le_of_ble_eq_true rfl) (ws_J_0 E _ _) dX8_copyFrom_97 ?_
  exact g_vret X hr dX8_copyFrom_100 (Option.some.inj h)
theorem fl_X12_16 : Cond.fieldLink RX12 16 "StoneQuarry" "before" "LStoneQuarry$QuarryState;" ∈ UT := ut 316 (by decide +kernel) (by decide +kernel)
theorem fl_X12_329 : Cond.fieldLink RX12 329 "StoneQuarry$CommandText" "commandCount" "I" ∈ UT := ut 301 (by decide +kernel) (by decide +kernel)
theorem fl_X12_85 : Cond.fieldLink RX12 85 "StoneQuarry" "lastErrorPosition" "I" ∈ UT := ut 328 (by decide +kernel) (by decide +kernel)
theorem fl_X12_89 : Cond.fieldLink RX12 89 "StoneQuarry" "lastFailedCommand" "I" ∈ UT := ut 329 (by decide +kernel) (by decide +kernel)
theorem hd_X12_carryOut : yX12_carryOut.cls ≠ "java/lang/invoke/MethodHandle" ∧ yX12_carryOut.cls ≠ "java/lang/invoke/VarHandle" ∧ (parseMethodDescriptor yX12_carryOut.desc).map (fun d => d.parameters.length) = some 2 := by decide +kernel
theorem hd_X4_commandAt : yX4_commandAt.cls ≠ "java/lang/invoke/MethodHandle" ∧ yX4_commandAt.cls ≠ "java/lang/invoke/VarHandle" ∧ (parseMethodDescriptor yX4_commandAt.desc).map (fun d => d.parameters.length) = some 1 := by decide +kernel
theorem hd_X4_empty : yX4_empty.cls ≠ "java/lang/invoke/MethodHandle" ∧ yX4_empty.cls ≠ "java/lang/invoke/VarHandle" ∧ (parseMethodDescriptor yX4_empty.desc).map (fun d => d.parameters.length) = some 0 := by decide +kernel
theorem hd_X4_parse : yX4_parse.cls ≠ "java/lang/invoke/MethodHandle" ∧ yX4_parse.cls ≠ "java/lang/invoke/VarHandle" ∧ (parseMethodDescriptor yX4_parse.desc).map (fun d => d.parameters.length) = some 0 := by decide +kernel
theorem wc_X4_parse : Cond.code yX4_parse cX4_parse 2 (some .int) ∈ UT := ut 1194 (by decide +kernel) (by decide +kernel)
theorem we_X4_parse : Cond.selects RX4 yX4_parse yX4_parse ∈ UT := ut 1193 (by decide +kernel) (by decide +kernel)
theorem wm_X4_parse : Cond.instanceMethod yX4_parse ∈ UT := ut 1192 (by decide +kernel) (by decide +kernel)
theorem kv_X12_318 : GoodIn UT (wsV RX12 318 RX4 yX4_parse (Cond.code yX4_parse cX4_parse 2 (some .int) :: UT)) := gu_V (ut 1191 (by decide +kernel) (by decide +kernel)) wm_X4_parse we_X4_parse wi_RX4 wc_X4_parse
theorem wc_X4_empty : Cond.code yX4_empty cX4_empty 1 none ∈ UT := ut 1277 (by decide +kernel) (by decide +kernel)
theorem we_X4_empty : Cond.selects RX4 yX4_empty yX4_empty ∈ UT := ut 1276 (by decide +kernel) (by decide +kernel)
theorem wm_X4_empty : Cond.instanceMethod yX4_empty ∈ UT := ut 1275 (by decide +kernel) (by decide +kernel)
theorem kv_X12_321 : GoodIn UT (wsV RX12 321 RX4 yX4_empty (Cond.code yX4_empty cX4_empty 1 none :: UT)) := gu_V (ut 1274 (by decide +kernel) (by decide +kernel)) wm_X4_empty we_X4_empty wi_RX4 wc_X4_empty
theorem wc_X4_commandAt : Cond.code yX4_commandAt cX4_commandAt 2 (some (.object "StoneQuarry$Command")) ∈ UT := ut 1282 (by decide +kernel) (by decide +kernel)
theorem we_X4_commandAt : Cond.selects RX4 yX4_commandAt yX4_commandAt ∈ UT := ut 1281 (by decide +kernel) (by decide +kernel)
theorem wm_X4_commandAt : Cond.instanceMethod yX4_commandAt ∈ UT := ut 1280 (by decide +kernel) (by decide +kernel)
theorem kv_X12_332 : GoodIn UT (wsV RX12 332 RX4 yX4_commandAt (Cond.code yX4_commandAt cX4_commandAt 2 (some (.object "StoneQuarry$Command")) :: UT)) := gu_V (ut 1279 (by decide +kernel) (by decide +kernel)) wm_X4_commandAt we_X4_commandAt wi_RX4 wc_X4_commandAt
theorem wc_X12_carryOut : Cond.code yX12_carryOut cX12_carryOut 6 (some .boolean) ∈ UT := ut 1286 (by decide +kernel) (by decide +kernel)
theorem we_X12_carryOut : Cond.selects RX12 yX12_carryOut yX12_carryOut ∈ UT := ut 35 (by decide +kernel) (by decide +kernel)
theorem wm_X12_carryOut : Cond.instanceMethod yX12_carryOut ∈ UT := ut 1285 (by decide +kernel) (by decide +kernel)
theorem kv_X12_336 : GoodIn UT (wsV RX12 336 RX12 yX12_carryOut (Cond.code yX12_carryOut cX12_carryOut 6 (some .boolean) :: UT)) := gu_V (ut 1283 (by decide +kernel) (by decide +kernel)) wm_X12_carryOut we_X12_carryOut wi_RX12 wc_X12_carryOut
theorem ws_I_121 (E : EE) (D : DD) (v : Int32) : (wd E D).set 0 (E.1 0, .inr (12, [.ref (E.1 1), .ref (E.1 6), .ref (E.1 11), .ref (E.1 16), .ref (E.1 58), .ref (E.1 61), .ref (E.1 65), .ref (E.1 68), .ref (E.1 73), .ref (E.1 75), .ref (E.1 78), .ref (E.1 80), .int (D.1 120), .int v, .int (D.1 122)])) = wd E (setI D 121 v) := rfl
theorem ws_I_122 (E : EE) (D : DD) (v : Int32) : (wd E D).set 0 (E.1 0, .inr (12, [.ref (E.1 1), .ref (E.1 6), .ref (E.1 11), .ref (E.1 16), .ref (E.1 58), .ref (E.1 61), .ref (E.1 65), .ref (E.1 68), .ref (E.1 73), .ref (E.1 75), .ref (E.1 78), .ref (E.1 80), .int (D.1 120), .int (D.1 121), .int v])) = wd E (setI D 122 v) := rfl
theorem wst_X12_324 : ((RX12, 324, "the text is malformed") : String × Nat × String) ∈ STRS := by decide +kernel
theorem wst_X12_340 : ((RX12, 340, "a command fails") : String × Nat × String) ∈ STRS := by decide +kernel
def b_X12_execute_0  (D : DD) : Option ((Nat × List Int32 × DD) ⊕ RT) := (cI (S_X4_parse D) (fun r3 D2 => (cV (S_X4_empty D2) (fun D5 => (if r3 = (-1 : Int32) then (cV (S_X8_copyFrom_before_state D5) (fun D7 => some (.inl (1, [(0 : Int32)], D7)))) else some (.inr (1, none, (setI D5 121 r3))))))))
def b_X12_execute_1 (x2 : Int32) (D : DD) : Option ((Nat × List Int32 × DD) ⊕ RT) := (if (D.1 131) ≤ x2 then (cV (S_X6_remember_history_before D) (fun D10 => some (.inr (0, some (.int (D10.1 131)), D10)))) else (cR (S_X4_commandAt x2 D) (fun q13 D12 => (if q13 = 1000 then (cI (S_X12_carryOut_x_K0 x2 D12) (fun r17 D16 => (if r17 = 0 then (cV (S_X8_copyFrom_state_before D16) (fun D19 => some (.inr (2, none, (setI D19 122 x2))))) else some (.inl (1, [(x2 + (1 : Int32))], D16))))) else (if q13 = 1001 then (cI (S_X12_carryOut_x_K1 x2 D12) (fun r24 D23 => (if r24 = 0 then (cV (S_X8_copyFrom_state_before D23) (fun D26 => some (.inr (2, none, (setI D26 122 x2))))) else some (.inl (1, [(x2 + (1 : Int32))], D23))))) else (if q13 = 1002 then (cI (S_X12_carryOut_x_K2 x2 D12) (fun r31 D30 => (if r31 = 0 then (cV (S_X8_copyFrom_state_before D30) (fun D33 => some (.inr (2, none, (setI D33 122 x2))))) else some (.inl (1, [(x2 + (1 : Int32))], D30))))) else (if q13 = 1003 then (cI (S_X12_carryOut_x_K3 x2 D12) (fun r38 D37 => (if r38 = 0 then (cV (S_X8_copyFrom_state_before D37) (fun D40 => some (.inr (2, none, (setI D40 122 x2))))) else some (.inl (1, [(x2 + (1 : Int32))], D37))))) else (if q13 = 1004 then (cI (S_X12_carryOut_x_K4 x2 D12) (fun r45 D44 => (if r45 = 0 then (cV (S_X8_copyFrom_state_before D44) (fun D47 => some (.inr (2, none, (setI D47 122 x2))))) else some (.inl (1, [(x2 + (1 : Int32))], D44))))) else (if q13 = 1005 then (cI (S_X12_carryOut_x_K5 x2 D12) (fun r52 D51 => (if r52 = 0 then (cV (S_X8_copyFrom_state_before D51) (fun D54 => some (.inr (2, none, (setI D54 122 x2))))) else some (.inl (1, [(x2 + (1 : Int32))], D51))))) else (if q13 = 1006 then (cI (S_X12_carryOut_x_K6 x2 D12) (fun r59 D58 => (if r59 = 0 then (cV (S_X8_copyFrom_state_before D58) (fun D61 => some (.inr (2, none, (setI D61 122 x2))))) else some (.inl (1, [(x2 + (1 : Int32))], D58))))) else none)))))))) (fun D12 => (cI (S_X12_carryOut_x_null x2 D12) (fun r65 D64 => (if r65 = 0 then (cV (S_X8_copyFrom_state_before D64) (fun D67 => some (.inr (2, none, (setI D67 122 x2))))) else some (.inl (1, [(x2 + (1 : Int32))], D64))))))))
def T_X12_execute (k : Nat) (ls : List Int32) (D : DD) : Option ((Nat × List Int32 × DD) ⊕ RT) := match k, ls with
  | 0, [] => b_X12_execute_0  D
  | 1, [x2] => b_X12_execute_1 x2 D
  | _, _ => none
def S_X12_execute  (D : DD) : Option RT := run T_X12_execute FUEL 0 [] D
def hg_X12_execute (p : Program) (l : Launch) (e : Env) (s : State) (m : MethodId) (args : Array Value) (below : List Frame) (meth : Method) (c : Code) (G : va_G) (E : EE) (r : RT) (k : Nat) (ls : List Int32) (D : DD) : Prop := match k, ls with
  | 0, [] => GW p l e (rmx 9) s m args below meth c G E 3 (vx_MQ below (QR G E s.heap.size r) (XR G E s.heap.size r) args s 1 6 (fr E s.heap.size)) 0 0 D 0 [(0, .ref (E.1 0))] []
  | 1, [x2] => GW p l e (rmx 9) s m args below meth c G E 3 (vx_MQ below (QR G E s.heap.size r) (XR G E s.heap.size r) args s 1 6 (fr E s.heap.size)) 0 0 D 49 [(0, .ref (E.1 0)), (2, .int x2)] []
  | _, _ => True
set_option maxRecDepth 100000 in
set_option maxHeartbeats 4000000 in
theorem bl_X12_execute_0 {p : Program} {l : Launch} {e : Env} {s : State} {m : MethodId} {args : Array Value} {below : List Frame} {meth : Method} {c : Code} {G : va_G} {E : EE} {r : RT} (hfl : l.stackTraces = false) (ht : ∀ x ∈ c.exceptionTable.toList, False) (X : CX p s m args meth c cX12_execute RX12 3 G E) (hr : meth.sig.returnType = (some .int))  (D : DD) (o : (Nat × List Int32 × DD) ⊕ RT) (h : b_X12_execute_0  D = some o) (h1 : ∀ x, o = .inl x → hg_X12_execute p l e s m args below meth c G E r x.1 x.2.1 x.2.2) (h2 : ∀ x, o = .inr x → x = r) : GW p l e (rmx 9) s m args below meth c G E 3 (vx_MQ below (QR G E s.heap.size r) (XR G E s.heap.size r) args s 1 6 (fr E s.heap.size)) 0 0 D 0 [(0, .ref (E.1 0))] [] := by
  unfold b_X12_execute_0 at h
  refine g_aload_n X 0 (i0 := 0) dX12_execute_0 rfl rfl ?_
  refine g_get X (D := D) (v := .ref (E.1 80)) (T := TX12) 0 uX12 (wg_0 E _) rfl 11 (by decide) fl_X12_81 rfl rfl dX12_execute_1 ?_
  obtain ⟨r3, D2, e1, h⟩ := cI_s h
  refine g_V X (As := []) (rest := []) (c_X4_parse l G E  _ _ e1) 80 (wg_80 E _) rfl rfl kv_X12_318 ⟨rfl, rfl⟩ ⟨rfl, hd_X4_parse⟩ (⟨Nat.le_of_ble_eq_true rfl, Nat.le_of_ble_eq_true rfl⟩) rfl rfl (Nat.le_of_ble_eq_true rfl) dX12_execute_4 ?_
  refine g_istore_n X (i0 := 1) (lv' := [(1, .int r3), (0, .ref (E.1 0))]) dX12_execute_7 rfl (by decide) rfl ?_
  refine g_aload_n X 1 (i0 := 0) dX12_execute_8 rfl rfl ?_
  refine g_get X (D := D2) (v := .ref (E.1 80)) (T := TX12) 0 uX12 (wg_0 E _) rfl 11 (by decide) fl_X12_81 rfl rfl dX12_execute_9 ?_
  obtain ⟨D5, e4, h⟩ := cV_s h
  refine g_V X (As := []) (rest := []) (c_X4_empty l G E  _ _ e4) 80 (wg_80 E _) rfl rfl kv_X12_321 ⟨rfl, rfl⟩ ⟨rfl, hd_X4_empty⟩ (⟨Nat.le_of_ble_eq_true rfl, Nat.le_of_ble_eq_true rfl⟩) rfl rfl (Nat.le_of_ble_eq_true rfl) dX12_execute_12 ?_
  refine g_iload_n X 0 (i0 := 1) dX12_execute_15 rfl rfl ?_
  refine g_iconst X (v := (-1 : Int32)) dX12_execute_16 (by decide) ?_
  refine g_icmp_eq X (tgt := 36) dX12_execute_17 (by decide) (fun c8 => ?_) (fun c8 => ?_)
  · have h := (ite_s h).1 c8
    refine g_aload_n X 1 (i0 := 0) dX12_execute_36 rfl rfl ?_
    refine g_get X (D := D5) (v := .ref (E.1 6)) (T := TX12) 0 uX12 (wg_0 E _) rfl 1 (by decide) fl_X12_16 rfl rfl dX12_execute_37 ?_
    refine g_aload_n X 1 (i0 := 0) dX12_execute_40 rfl rfl ?_
    refine g_get X (D := D5) (v := .ref (E.1 1)) (T := TX12) 0 uX12 (wg_0 E _) rfl 0 (by decide) fl_X12_10 rfl rfl dX12_execute_41 ?_
    obtain ⟨D7, e6, h⟩ := cV_s h
    refine g_V X (As := [.ref (E.1 1)]) (rest := []) (c_X8_copyFrom_before_state l G E  _ _ e6) 6 (wg_6 E _) rfl rfl kv_X12_326 ⟨rfl, rfl⟩ ⟨rfl, hd_X8_copyFrom⟩ (⟨Nat.le_of_ble_eq_true rfl, Nat.le_of_ble_eq_true rfl⟩) rfl rfl (Nat.le_of_ble_eq_true rfl) dX12_execute_44 ?_
    refine g_iconst X (v := (0 : Int32)) dX12_execute_47 (by decide) ?_
    refine g_istore_n X (i0 := 2) (lv' := [(2, .int (0 : Int32)), (1, .int r3), (0, .ref (E.1 0))]) dX12_execute_48 rfl (by decide) rfl ?_
    refine g_sub (lv' := [(0, .ref (E.1 0)), (2, .int (0 : Int32))]) [2, 0] rfl ?_
    exact h1 _ (Option.some.inj h).symm
  · have h := (ite_s h).2 c8
    refine g_aload_n X 1 (i0 := 0) dX12_execute_20 rfl rfl ?_
    refine g_iload_n X 0 (i0 := 1) dX12_execute_21 rfl rfl ?_
    refine g_put X (D := D5) (v := .int r3) (T := TX12) (D' := (setI D5 121 r3)) 0 uX12 tyX12 tyX12_ok nmX12 (wg_0 E _) rfl 13 (by decide) fl_X12_85 rfl rfl rfl rfl (Nat.le_of_ble_eq_true rfl) (ws_I_121 E _ _) dX12_execute_22 ?_
    exact gx_throwW X hfl ht (by decide +kernel) (by decide +kernel) wcl_X12_96 wini_1 wst_X12_324 wat_X12_100 wgo_X12_100 dX12_execute_25 dX12_execute_28 dX12_execute_29 dX12_execute_32 dX12_execute_35 (Nat.le_of_ble_eq_true rfl) (Nat.le_of_ble_eq_true rfl) (Nat.le_of_ble_eq_true rfl) (Nat.le_of_ble_eq_true rfl) (k := 1) (by decide) rfl (h2 _ (Option.some.inj h).symm)
set_option maxRecDepth 100000 in
set_option maxHeartbeats 4000000 in
theorem bl_X12_execute_1 {p : Program} {l : Launch} {e : Env} {s : State} {m : MethodId} {args : Array Value} {below : List Frame} {meth : Method} {c : Code} {G : va_G} {E : EE} {r : RT} (hfl : l.stackTraces = false) (ht : ∀ x ∈ c.exceptionTable.toList, False) (X : CX p s m args meth c cX12_execute RX12 3 G E) (hr : meth.sig.returnType = (some .int)) (x2 : Int32) (D : DD) (o : (Nat × List Int32 × DD) ⊕ RT) (h : b_X12_execute_1 x2 D = some o) (h1 : ∀ x, o = .inl x → hg_X12_execute p l e s m args below meth c G E r x.1 x.2.1 x.2.2) (h2 : ∀ x, o = .inr x → x = r) : GW p l e (rmx 9) s m args below meth c G E 3 (vx_MQ below (QR G E s.heap.size r) (XR G E s.heap.size r) args s 1 6 (fr E s.heap.size)) 0 0 D 49 [(0, .ref (E.1 0)), (2, .int x2)] [] := by
  unfold b_X12_execute_1 at h
  refine g_iload_n X 1 (i0 := 2) dX12_execute_49 rfl rfl ?_
  refine g_aload_n X 0 (i0 := 0) dX12_execute_50 rfl rfl ?_
  refine g_get X (D := D) (v := .ref (E.1 80)) (T := TX12) 0 uX12 (wg_0 E _) rfl 11 (by decide) fl_X12_81 rfl rfl dX12_execute_51 ?_
  refine g_get X (D := D) (v := .int (D.1 131)) (T := TX4) 80 uX4 (wg_80 E _) rfl 5 (by decide) fl_X12_329 rfl rfl dX12_execute_54 ?_
  refine g_icmp_ge X (tgt := 109) dX12_execute_57 (by decide) (fun c69 => ?_) (fun c69 => ?_)
  · have h := (ite_s h).1 c69
    refine g_aload_n X 0 (i0 := 0) dX12_execute_109 rfl rfl ?_
    refine g_get X (D := D) (v := .ref (E.1 16)) (T := TX12) 0 uX12 (wg_0 E _) rfl 3 (by decide) fl_X12_25 rfl rfl dX12_execute_110 ?_
    refine g_aload_n X 0 (i0 := 0) dX12_execute_113 rfl rfl ?_
    refine g_get X (D := D) (v := .ref (E.1 6)) (T := TX12) 0 uX12 (wg_0 E _) rfl 1 (by decide) fl_X12_16 rfl rfl dX12_execute_114 ?_
    obtain ⟨D10, e9, h⟩ := cV_s h
    refine g_V X (As := [.ref (E.1 6)]) (rest := []) (c_X6_remember_history_before l G E  _ _ e9) 16 (wg_16 E _) rfl rfl kv_X12_108 ⟨rfl, rfl⟩ ⟨rfl, hd_X6_remember⟩ (⟨Nat.le_of_ble_eq_true rfl, Nat.le_of_ble_eq_true rfl⟩) rfl rfl (Nat.le_of_ble_eq_true rfl) dX12_execute_117 ?_
    refine g_aload_n X 0 (i0 := 0) dX12_execute_120 rfl rfl ?_
    refine g_get X (D := D10) (v := .ref (E.1 80)) (T := TX12) 0 uX12 (wg_0 E _) rfl 11 (by decide) fl_X12_81 rfl rfl dX12_execute_121 ?_
    refine g_get X (D := D10) (v := .int (D10.1 131)) (T := TX4) 80 uX4 (wg_80 E _) rfl 5 (by decide) fl_X12_329 rfl rfl dX12_execute_124 ?_
    exact gx_iret X hr rfl dX12_execute_127 (h2 _ (Option.some.inj h).symm)
  · have h := (ite_s h).2 c69
    refine g_aload_n X 0 (i0 := 0) dX12_execute_60 rfl rfl ?_
    refine g_aload_n X 0 (i0 := 0) dX12_execute_61 rfl rfl ?_
    refine g_get X (D := D) (v := .ref (E.1 80)) (T := TX12) 0 uX12 (wg_0 E _) rfl 11 (by decide) fl_X12_81 rfl rfl dX12_execute_62 ?_
    refine g_iload_n X 1 (i0 := 2) dX12_execute_65 rfl rfl ?_
    rcases cR_s h with ⟨q13, D12, e11, h⟩ | ⟨D12, e11, h⟩
    · by_cases u14 : q13 = 1000
      · have hh := (ite_s h).1 u14
        clear h
        subst u14
        have h := hh
        clear hh
        refine g_V X (As := [.int x2]) (rest := [.ref (E.1 0)]) (c_X4_commandAt l G E x2 _ _ e11) 80 (wg_80 E _) rfl rfl kv_X12_332 ⟨rfl, rfl⟩ ⟨rfl, hd_X4_commandAt⟩ (⟨Nat.le_of_ble_eq_true rfl, Nat.le_of_ble_eq_true rfl⟩) rfl rfl (Nat.le_of_ble_eq_true rfl) dX12_execute_66 ?_
        refine g_iload_n X 1 (i0 := 2) dX12_execute_69 rfl rfl ?_
        obtain ⟨r17, D16, e15, h⟩ := cI_s h
        refine g_V X (As := [.ref (E.1 1000), .int x2]) (rest := []) (c_X12_carryOut_x_K0 l G E x2 _ _ e15) 0 (wg_0 E _) rfl rfl kv_X12_336 ⟨rfl, rfl⟩ ⟨rfl, hd_X12_carryOut⟩ (⟨Nat.le_of_ble_eq_true rfl, Nat.le_of_ble_eq_true rfl⟩) rfl rfl (Nat.le_of_ble_eq_true rfl) dX12_execute_70 ?_
        refine g_if_ne X (tgt := 103) dX12_execute_73 (by decide) (fun c20 => ?_) (fun c20 => ?_)
        · have h := (ite_s h).2 c20
          refine g_iinc X 1 (v := (x2 + (1 : Int32))) (lv' := [(2, .int (x2 + (1 : Int32))), (0, .ref (E.1 0))]) dX12_execute_103 rfl rfl (by decide) rfl ?_
          refine g_goto X (tgt := 49) dX12_execute_106 (by decide) ?_
          refine g_sub (lv' := [(0, .ref (E.1 0)), (2, .int (x2 + (1 : Int32)))]) [1, 0] rfl ?_
          exact h1 _ (Option.some.inj h).symm
        · have h := (ite_s h).1 c20
          refine g_aload_n X 0 (i0 := 0) dX12_execute_76 rfl rfl ?_
          refine g_get X (D := D16) (v := .ref (E.1 1)) (T := TX12) 0 uX12 (wg_0 E _) rfl 0 (by decide) fl_X12_10 rfl rfl dX12_execute_77 ?_
          refine g_aload_n X 0 (i0 := 0) dX12_execute_80 rfl rfl ?_
          refine g_get X (D := D16) (v := .ref (E.1 6)) (T := TX12) 0 uX12 (wg_0 E _) rfl 1 (by decide) fl_X12_16 rfl rfl dX12_execute_81 ?_
          obtain ⟨D19, e18, h⟩ := cV_s h
          refine g_V X (As := [.ref (E.1 6)]) (rest := []) (c_X8_copyFrom_state_before l G E  _ _ e18) 1 (wg_1 E _) rfl rfl kv_X12_326 ⟨rfl, rfl⟩ ⟨rfl, hd_X8_copyFrom⟩ (⟨Nat.le_of_ble_eq_true rfl, Nat.le_of_ble_eq_true rfl⟩) rfl rfl (Nat.le_of_ble_eq_true rfl) dX12_execute_84 ?_
          refine g_aload_n X 0 (i0 := 0) dX12_execute_87 rfl rfl ?_
          refine g_iload_n X 1 (i0 := 2) dX12_execute_88 rfl rfl ?_
          refine g_put X (D := D19) (v := .int x2) (T := TX12) (D' := (setI D19 122 x2)) 0 uX12 tyX12 tyX12_ok nmX12 (wg_0 E _) rfl 14 (by decide) fl_X12_89 rfl rfl rfl rfl (Nat.le_of_ble_eq_true rfl) (ws_I_122 E _ _) dX12_execute_89 ?_
          exact gx_throwW X hfl ht (by decide +kernel) (by decide +kernel) wcl_X12_103 wini_2 wst_X12_340 wat_X12_107 wgo_X12_107 dX12_execute_92 dX12_execute_95 dX12_execute_96 dX12_execute_99 dX12_execute_102 (Nat.le_of_ble_eq_true rfl) (Nat.le_of_ble_eq_true rfl) (Nat.le_of_ble_eq_true rfl) (Nat.le_of_ble_eq_true rfl) (k := 2) (by decide) rfl (h2 _ (Option.some.inj h).symm)
      have h := (ite_s h).2 u14
      by_cases u21 : q13 = 1001
      · have hh := (ite_s h).1 u21
        clear h
        subst u21
        have h := hh
        clear hh
        refine g_V X (As := [.int x2]) (rest := [.ref (E.1 0)]) (c_X4_commandAt l G E x2 _ _ e11) 80 (wg_80 E _) rfl rfl kv_X12_332 ⟨rfl, rfl⟩ ⟨rfl, hd_X4_commandAt⟩ (⟨Nat.le_of_ble_eq_true rfl, Nat.le_of_ble_eq_true rfl⟩) rfl rfl (Nat.le_of_ble_eq_true rfl) dX12_execute_66 ?_
        refine g_iload_n X 1 (i0 := 2) dX12_execute_69 rfl rfl ?_
        obtain ⟨r24, D23, e22, h⟩ := cI_s h
        refine g_V X (As := [.ref (E.1 1001), .int x2]) (rest := []) (c_X12_carryOut_x_K1 l G E x2 _ _ e22) 0 (wg_0 E _) rfl rfl kv_X12_336 ⟨rfl, rfl⟩ ⟨rfl, hd_X12_carryOut⟩ (⟨Nat.le_of_ble_eq_true rfl, Nat.le_of_ble_eq_true rfl⟩) rfl rfl (Nat.le_of_ble_eq_true rfl) dX12_execute_70 ?_
        refine g_if_ne X (tgt := 103) dX12_execute_73 (by decide) (fun c27 => ?_) (fun c27 => ?_)
        · have h := (ite_s h).2 c27
          refine g_iinc X 1 (v := (x2 + (1 : Int32))) (lv' := [(2, .int (x2 + (1 : Int32))), (0, .ref (E.1 0))]) dX12_execute_103 rfl rfl (by decide) rfl ?_
          refine g_goto X (tgt := 49) dX12_execute_106 (by decide) ?_
          refine g_sub (lv' := [(0, .ref (E.1 0)), (2, .int (x2 + (1 : Int32)))]) [1, 0] rfl ?_
          exact h1 _ (Option.some.inj h).symm
        · have h := (ite_s h).1 c27
          refine g_aload_n X 0 (i0 := 0) dX12_execute_76 rfl rfl ?_
          refine g_get X (D := D23) (v := .ref (E.1 1)) (T := TX12) 0 uX12 (wg_0 E _) rfl 0 (by decide) fl_X12_10 rfl rfl dX12_execute_77 ?_
          refine g_aload_n X 0 (i0 := 0) dX12_execute_80 rfl rfl ?_
          refine g_get X (D := D23) (v := .ref (E.1 6)) (T := TX12) 0 uX12 (wg_0 E _) rfl 1 (by decide) fl_X12_16 rfl rfl dX12_execute_81 ?_
          obtain ⟨D26, e25, h⟩ := cV_s h
          refine g_V X (As := [.ref (E.1 6)]) (rest := []) (c_X8_copyFrom_state_before l G E  _ _ e25) 1 (wg_1 E _) rfl rfl kv_X12_326 ⟨rfl, rfl⟩ ⟨rfl, hd_X8_copyFrom⟩ (⟨Nat.le_of_ble_eq_true rfl, Nat.le_of_ble_eq_true rfl⟩) rfl rfl (Nat.le_of_ble_eq_true rfl) dX12_execute_84 ?_
          refine g_aload_n X 0 (i0 := 0) dX12_execute_87 rfl rfl ?_
          refine g_iload_n X 1 (i0 := 2) dX12_execute_88 rfl rfl ?_
          refine g_put X (D := D26) (v := .int x2) (T := TX12) (D' := (setI D26 122 x2)) 0 uX12 tyX12 tyX12_ok nmX12 (wg_0 E _) rfl 14 (by decide) fl_X12_89 rfl rfl rfl rfl (Nat.le_of_ble_eq_true rfl) (ws_I_122 E _ _) dX12_execute_89 ?_
          exact gx_throwW X hfl ht (by decide +kernel) (by decide +kernel) wcl_X12_103 wini_2 wst_X12_340 wat_X12_107 wgo_X12_107 dX12_execute_92 dX12_execute_95 dX12_execute_96 dX12_execute_99 dX12_execute_102 (Nat.le_of_ble_eq_true rfl) (Nat.le_of_ble_eq_true rfl) (Nat.le_of_ble_eq_true rfl) (Nat.le_of_ble_eq_true rfl) (k := 2) (by decide) rfl (h2 _ (Option.some.inj h).symm)
      have h := (ite_s h).2 u21
      by_cases u28 : q13 = 1002
      · have hh := (ite_s h).1 u28
        clear h
        subst u28
        have h := hh
        clear hh
        refine g_V X (As := [.int x2]) (rest := [.ref (E.1 0)]) (c_X4_commandAt l G E x2 _ _ e11) 80 (wg_80 E _) rfl rfl kv_X12_332 ⟨rfl, rfl⟩ ⟨rfl, hd_X4_commandAt⟩ (⟨Nat.le_of_ble_eq_true rfl, Nat.le_of_ble_eq_true rfl⟩) rfl rfl (Nat.le_of_ble_eq_true rfl) dX12_execute_66 ?_
        refine g_iload_n X 1 (i0 := 2) dX12_execute_69 rfl rfl ?_
        obtain ⟨r31, D30, e29, h⟩ := cI_s h
        refine g_V X (As := [.ref (E.1 1002), .int x2]) (rest := []) (c_X12_carryOut_x_K2 l G E x2 _ _ e29) 0 (wg_0 E _) rfl rfl kv_X12_336 ⟨rfl, rfl⟩ ⟨rfl, hd_X12_carryOut⟩ (⟨Nat.le_of_ble_eq_true rfl, Nat.le_of_ble_eq_true rfl⟩) rfl rfl (Nat.le_of_ble_eq_true rfl) dX12_execute_70 ?_
        refine g_if_ne X (tgt := 103) dX12_execute_73 (by decide) (fun c34 => ?_) (fun c34 => ?_)
        · have h := (ite_s h).2 c34
          refine g_iinc X 1 (v := (x2 + (1 : Int32))) (lv' := [(2, .int (x2 + (1 : Int32))), (0, .ref (E.1 0))]) dX12_execute_103 rfl rfl (by decide) rfl ?_
          refine g_goto X (tgt := 49) dX12_execute_106 (by decide) ?_
          refine g_sub (lv' := [(0, .ref (E.1 0)), (2, .int (x2 + (1 : Int32)))]) [1, 0] rfl ?_
          exact h1 _ (Option.some.inj h).symm
        · have h := (ite_s h).1 c34
          refine g_aload_n X 0 (i0 := 0) dX12_execute_76 rfl rfl ?_
          refine g_get X (D := D30) (v := .ref (E.1 1)) (T := TX12) 0 uX12 (wg_0 E _) rfl 0 (by decide) fl_X12_10 rfl rfl dX12_execute_77 ?_
          refine g_aload_n X 0 (i0 := 0) dX12_execute_80 rfl rfl ?_
          refine g_get X (D := D30) (v := .ref (E.1 6)) (T := TX12) 0 uX12 (wg_0 E _) rfl 1 (by decide) fl_X12_16 rfl rfl dX12_execute_81 ?_
          obtain ⟨D33, e32, h⟩ := cV_s h
          refine g_V X (As := [.ref (E.1 6)]) (rest := []) (c_X8_copyFrom_state_before l G E  _ _ e32) 1 (wg_1 E _) rfl rfl kv_X12_326 ⟨rfl, rfl⟩ ⟨rfl, hd_X8_copyFrom⟩ (⟨Nat.le_of_ble_eq_true rfl, Nat.le_of_ble_eq_true rfl⟩) rfl rfl (Nat.le_of_ble_eq_true rfl) dX12_execute_84 ?_
          refine g_aload_n X 0 (i0 := 0) dX12_execute_87 rfl rfl ?_
          refine g_iload_n X 1 (i0 := 2) dX12_execute_88 rfl rfl ?_
          refine g_put X (D := D33) (v := .int x2) (T := TX12) (D' := (setI D33 122 x2)) 0 uX12 tyX12 tyX12_ok nmX12 (wg_0 E _) rfl 14 (by decide) fl_X12_89 rfl rfl rfl rfl (Nat.le_of_ble_eq_true rfl) (ws_I_122 E _ _) dX12_execute_89 ?_
          exact gx_throwW X hfl ht (by decide +kernel) (by decide +kernel) wcl_X12_103 wini_2 wst_X12_340 wat_X12_107 wgo_X12_107 dX12_execute_92 dX12_execute_95 dX12_execute_96 dX12_execute_99 dX12_execute_102 (Nat.le_of_ble_eq_true rfl) (Nat.le_of_ble_eq_true rfl) (Nat.le_of_ble_eq_true rfl) (Nat.le_of_ble_eq_true rfl) (k := 2) (by decide) rfl (h2 _ (Option.some.inj h).symm)
      have h := (ite_s h).2 u28
      by_cases u35 : q13 = 1003
      · have hh := (ite_s h).1 u35
        clear h
        subst u35
        have h := hh
        clear hh
        refine g_V X (As := [.int x2]) (rest := [.ref (E.1 0)]) (c_X4_commandAt l G E x2 _ _ e11) 80 (wg_80 E _) rfl rfl kv_X12_332 ⟨rfl, rfl⟩ ⟨rfl, hd_X4_commandAt⟩ (⟨Nat.le_of_ble_eq_true rfl, Nat.le_of_ble_eq_true rfl⟩) rfl rfl (Nat.le_of_ble_eq_true rfl) dX12_execute_66 ?_
        refine g_iload_n X 1 (i0 := 2) dX12_execute_69 rfl rfl ?_
        obtain ⟨r38, D37, e36, h⟩ := cI_s h
        refine g_V X (As := [.ref (E.1 1003), .int x2]) (rest := []) (c_X12_carryOut_x_K3 l G E x2 _ _ e36) 0 (wg_0 E _) rfl rfl kv_X12_336 ⟨rfl, rfl⟩ ⟨rfl, hd_X12_carryOut⟩ (⟨Nat.le_of_ble_eq_true rfl, Nat.le_of_ble_eq_true rfl⟩) rfl rfl (Nat.le_of_ble_eq_true rfl) dX12_execute_70 ?_
        refine g_if_ne X (tgt := 103) dX12_execute_73 (by decide) (fun c41 => ?_) (fun c41 => ?_)
        · have h := (ite_s h).2 c41
          refine g_iinc X 1 (v := (x2 + (1 : Int32))) (lv' := [(2, .int (x2 + (1 : Int32))), (0, .ref (E.1 0))]) dX12_execute_103 rfl rfl (by decide) rfl ?_
          refine g_goto X (tgt := 49) dX12_execute_106 (by decide) ?_
          refine g_sub (lv' := [(0, .ref (E.1 0)), (2, .int (x2 + (1 : Int32)))]) [1, 0] rfl ?_
          exact h1 _ (Option.some.inj h).symm
        · have h := (ite_s h).1 c41
          refine g_aload_n X 0 (i0 := 0) dX12_execute_76 rfl rfl ?_
          refine g_get X (D := D37) (v := .ref (E.1 1)) (T := TX12) 0 uX12 (wg_0 E _) rfl 0 (by decide) fl_X12_10 rfl rfl dX12_execute_77 ?_
          refine g_aload_n X 0 (i0 := 0) dX12_execute_80 rfl rfl ?_
          refine g_get X (D := D37) (v := .ref (E.1 6)) (T := TX12) 0 uX12 (wg_0 E _) rfl 1 (by decide) fl_X12_16 rfl rfl dX12_execute_81 ?_
          obtain ⟨D40, e39, h⟩ := cV_s h
          refine g_V X (As := [.ref (E.1 6)]) (rest := []) (c_X8_copyFrom_state_before l G E  _ _ e39) 1 (wg_1 E _) rfl rfl kv_X12_326 ⟨rfl, rfl⟩ ⟨rfl, hd_X8_copyFrom⟩ (⟨Nat.le_of_ble_eq_true rfl, Nat.le_of_ble_eq_true rfl⟩) rfl rfl (Nat.le_of_ble_eq_true rfl) dX12_execute_84 ?_
          refine g_aload_n X 0 (i0 := 0) dX12_execute_87 rfl rfl ?_
          refine g_iload_n X 1 (i0 := 2) dX12_execute_88 rfl rfl ?_
          refine g_put X (D := D40) (v := .int x2) (T := TX12) (D' := (setI D40 122 x2)) 0 uX12 tyX12 tyX12_ok nmX12 (wg_0 E _) rfl 14 (by decide) fl_X12_89 rfl rfl rfl rfl (Nat.le_of_ble_eq_true rfl) (ws_I_122 E _ _) dX12_execute_89 ?_
          exact gx_throwW X hfl ht (by decide +kernel) (by decide +kernel) wcl_X12_103 wini_2 wst_X12_340 wat_X12_107 wgo_X12_107 dX12_execute_92 dX12_execute_95 dX12_execute_96 dX12_execute_99 dX12_execute_102 (Nat.le_of_ble_eq_true rfl) (Nat.le_of_ble_eq_true rfl) (Nat.le_of_ble_eq_true rfl) (Nat.le_of_ble_eq_true rfl) (k := 2) (by decide) rfl (h2 _ (Option.some.inj h).symm)
      have h := (ite_s h).2 u35
      by_cases u42 : q13 = 1004
      · have hh := (ite_s h).1 u42
        clear h
        subst u42
        have h := hh
        clear hh
        refine g_V X (As := [.int x2]) (rest := [.ref (E.1 0)]) (c_X4_commandAt l G E x2 _ _ e11) 80 (wg_80 E _) rfl rfl kv_X12_332 ⟨rfl, rfl⟩ ⟨rfl, hd_X4_commandAt⟩ (⟨Nat.le_of_ble_eq_true rfl, Nat.le_of_ble_eq_true rfl⟩) rfl rfl (Nat.le_of_ble_eq_true rfl) dX12_execute_66 ?_
        refine g_iload_n X 1 (i0 := 2) dX12_execute_69 rfl rfl ?_
        obtain ⟨r45, D44, e43, h⟩ := cI_s h
        refine g_V X (As := [.ref (E.1 1004), .int x2]) (rest := []) (c_X12_carryOut_x_K4 l G E x2 _ _ e43) 0 (wg_0 E _) rfl rfl kv_X12_336 ⟨rfl, rfl⟩ ⟨rfl, hd_X12_carryOut⟩ (⟨Nat.le_of_ble_eq_true rfl, Nat.le_of_ble_eq_true rfl⟩) rfl rfl (Nat.le_of_ble_eq_true rfl) dX12_execute_70 ?_
        refine g_if_ne X (tgt := 103) dX12_execute_73 (by decide) (fun c48 => ?_) (fun c48 => ?_)
        · have h := (ite_s h).2 c48
          refine g_iinc X 1 (v := (x2 + (1 : Int32))) (lv' := [(2, .int (x2 + (1 : Int32))), (0, .ref (E.1 0))]) dX12_execute_103 rfl rfl (by decide) rfl ?_
          refine g_goto X (tgt := 49) dX12_execute_106 (by decide) ?_
          refine g_sub (lv' := [(0, .ref (E.1 0)), (2, .int (x2 + (1 : Int32)))]) [1, 0] rfl ?_
          exact h1 _ (Option.some.inj h).symm
        · have h := (ite_s h).1 c48
          refine g_aload_n X 0 (i0 := 0) dX12_execute_76 rfl rfl ?_
          refine g_get X (D := D44) (v := .ref (E.1 1)) (T := TX12) 0 uX12 (wg_0 E _) rfl 0 (by decide) fl_X12_10 rfl rfl dX12_execute_77 ?_
          refine g_aload_n X 0 (i0 := 0) dX12_execute_80 rfl rfl ?_
          refine g_get X (D := D44) (v := .ref (E.1 6)) (T := TX12) 0 uX12 (wg_0 E _) rfl 1 (by decide) fl_X12_16 rfl rfl dX12_execute_81 ?_
          obtain ⟨D47, e46, h⟩ := cV_s h
          refine g_V X (As := [.ref (E.1 6)]) (rest := []) (c_X8_copyFrom_state_before l G E  _ _ e46) 1 (wg_1 E _) rfl rfl kv_X12_326 ⟨rfl, rfl⟩ ⟨rfl, hd_X8_copyFrom⟩ (⟨Nat.le_of_ble_eq_true rfl, Nat.le_of_ble_eq_true rfl⟩) rfl rfl (Nat.le_of_ble_eq_true rfl) dX12_execute_84 ?_
          refine g_aload_n X 0 (i0 := 0) dX12_execute_87 rfl rfl ?_
          refine g_iload_n X 1 (i0 := 2) dX12_execute_88 rfl rfl ?_
          refine g_put X (D := D47) (v := .int x2) (T := TX12) (D' := (setI D47 122 x2)) 0 uX12 tyX12 tyX12_ok nmX12 (wg_0 E _) rfl 14 (by decide) fl_X12_89 rfl rfl rfl rfl (Nat.le_of_ble_eq_true rfl) (ws_I_122 E _ _) dX12_execute_89 ?_
          exact gx_throwW X hfl ht (by decide +kernel) (by decide +kernel) wcl_X12_103 wini_2 wst_X12_340 wat_X12_107 wgo_X12_107 dX12_execute_92 dX12_execute_95 dX12_execute_96 dX12_execute_99 dX12_execute_102 (Nat.le_of_ble_eq_true rfl) (Nat.le_of_ble_eq_true rfl) (Nat.le_of_ble_eq_true rfl) (Nat.le_of_ble_eq_true rfl) (k := 2) (by decide) rfl (h2 _ (Option.some.inj h).symm)
      have h := (ite_s h).2 u42
      by_cases u49 : q13 = 1005
      · have hh := (ite_s h).1 u49
        clear h
        subst u49
        have h := hh
        clear hh
        refine g_V X (As := [.int x2]) (rest := [.ref (E.1 0)]) (c_X4_commandAt l G E x2 _ _ e11) 80 (wg_80 E _) rfl rfl kv_X12_332 ⟨rfl, rfl⟩ ⟨rfl, hd_X4_commandAt⟩ (⟨Nat.le_of_ble_eq_true rfl, Nat.le_of_ble_eq_true rfl⟩) rfl rfl (Nat.le_of_ble_eq_true rfl) dX12_execute_66 ?_
        refine g_iload_n X 1 (i0 := 2) dX12_execute_69 rfl rfl ?_
        obtain ⟨r52, D51, e50, h⟩ := cI_s h
        refine g_V X (As := [.ref (E.1 1005), .int x2]) (rest := []) (c_X12_carryOut_x_K5 l G E x2 _ _ e50) 0 (wg_0 E _) rfl rfl kv_X12_336 ⟨rfl, rfl⟩ ⟨rfl, hd_X12_carryOut⟩ (⟨Nat.le_of_ble_eq_true rfl, Nat.le_of_ble_eq_true rfl⟩) rfl rfl (Nat.le_of_ble_eq_true rfl) dX12_execute_70 ?_
        refine g_if_ne X (tgt := 103) dX12_execute_73 (by decide) (fun c55 => ?_) (fun c55 => ?_)
        · have h := (ite_s h).2 c55
          refine g_iinc X 1 (v := (x2 + (1 : Int32))) (lv' := [(2, .int (x2 + (1 : Int32))), (0, .ref (E.1 0))]) dX12_execute_103 rfl rfl (by decide) rfl ?_
          refine g_goto X (tgt := 49) dX12_execute_106 (by decide) ?_
          refine g_sub (lv' := [(0, .ref (E.1 0)), (2, .int (x2 + (1 : Int32)))]) [1, 0] rfl ?_
          exact h1 _ (Option.some.inj h).symm
        · have h := (ite_s h).1 c55
          refine g_aload_n X 0 (i0 := 0) dX12_execute_76 rfl rfl ?_
          refine g_get X (D := D51) (v := .ref (E.1 1)) (T := TX12) 0 uX12 (wg_0 E _) rfl 0 (by decide) fl_X12_10 rfl rfl dX12_execute_77 ?_
          refine g_aload_n X 0 (i0 := 0) dX12_execute_80 rfl rfl ?_
          refine g_get X (D := D51) (v := .ref (E.1 6)) (T := TX12) 0 uX12 (wg_0 E _) rfl 1 (by decide) fl_X12_16 rfl rfl dX12_execute_81 ?_
          obtain ⟨D54, e53, h⟩ := cV_s h
          refine g_V X (As := [.ref (E.1 6)]) (rest := []) (c_X8_copyFrom_state_before l G E  _ _ e53) 1 (wg_1 E _) rfl rfl kv_X12_326 ⟨rfl, rfl⟩ ⟨rfl, hd_X8_copyFrom⟩ (⟨Nat.le_of_ble_eq_true rfl, Nat.le_of_ble_eq_true rfl⟩) rfl rfl (Nat.le_of_ble_eq_true rfl) dX12_execute_84 ?_
          refine g_aload_n X 0 (i0 := 0) dX12_execute_87 rfl rfl ?_
          refine g_iload_n X 1 (i0 := 2) dX12_execute_88 rfl rfl ?_
          refine g_put X (D := D54) (v := .int x2) (T := TX12) (D' := (setI D54 122 x2)) 0 uX12 tyX12 tyX12_ok nmX12 (wg_0 E _) rfl 14 (by decide) fl_X12_89 rfl rfl rfl rfl (Nat.le_of_ble_eq_true rfl) (ws_I_122 E _ _) dX12_execute_89 ?_
          exact gx_throwW X hfl ht (by decide +kernel) (by decide +kernel) wcl_X12_103 wini_2 wst_X12_340 wat_X12_107 wgo_X12_107 dX12_execute_92 dX12_execute_95 dX12_execute_96 dX12_execute_99 dX12_execute_102 (Nat.le_of_ble_eq_true rfl) (Nat.le_of_ble_eq_true rfl) (Nat.le_of_ble_eq_true rfl) (Nat.le_of_ble_eq_true rfl) (k := 2) (by decide) rfl (h2 _ (Option.some.inj h).symm)
      have h := (ite_s h).2 u49
      by_cases u56 : q13 = 1006
      · have hh := (ite_s h).1 u56
        clear h
        subst u56
        have h := hh
        clear hh
        refine g_V X (As := [.int x2]) (rest := [.ref (E.1 0)]) (c_X4_commandAt l G E x2 _ _ e11) 80 (wg_80 E _) rfl rfl kv_X12_332 ⟨rfl, rfl⟩ ⟨rfl, hd_X4_commandAt⟩ (⟨Nat.le_of_ble_eq_true rfl, Nat.le_of_ble_eq_true rfl⟩) rfl rfl (Nat.le_of_ble_eq_true rfl) dX12_execute_66 ?_
        refine g_iload_n X 1 (i0 := 2) dX12_execute_69 rfl rfl ?_
        obtain ⟨r59, D58, e57, h⟩ := cI_s h
        refine g_V X (As := [.ref (E.1 1006), .int x2]) (rest := []) (c_X12_carryOut_x_K6 l G E x2 _ _ e57) 0 (wg_0 E _) rfl rfl kv_X12_336 ⟨rfl, rfl⟩ ⟨rfl, hd_X12_carryOut⟩ (⟨Nat.le_of_ble_eq_true rfl, Nat.le_of_ble_eq_true rfl⟩) rfl rfl (Nat.le_of_ble_eq_true rfl) dX12_execute_70 ?_
        refine g_if_ne X (tgt := 103) dX12_execute_73 (by decide) (fun c62 => ?_) (fun c62 => ?_)
        · have h := (ite_s h).2 c62
          refine g_iinc X 1 (v := (x2 + (1 : Int32))) (lv' := [(2, .int (x2 + (1 : Int32))), (0, .ref (E.1 0))]) dX12_execute_103 rfl rfl (by decide) rfl ?_
          refine g_goto X (tgt := 49) dX12_execute_106 (by decide) ?_
          refine g_sub (lv' := [(0, .ref (E.1 0)), (2, .int (x2 + (1 : Int32)))]) [1, 0] rfl ?_
          exact h1 _ (Option.some.inj h).symm
        · have h := (ite_s h).1 c62
          refine g_aload_n X 0 (i0 := 0) dX12_execute_76 rfl rfl ?_
          refine g_get X (D := D58) (v := .ref (E.1 1)) (T := TX12) 0 uX12 (wg_0 E _) rfl 0 (by decide) fl_X12_10 rfl rfl dX12_execute_77 ?_
          refine g_aload_n X 0 (i0 := 0) dX12_execute_80 rfl rfl ?_
          refine g_get X (D := D58) (v := .ref (E.1 6)) (T := TX12) 0 uX12 (wg_0 E _) rfl 1 (by decide) fl_X12_16 rfl rfl dX12_execute_81 ?_
          obtain ⟨D61, e60, h⟩ := cV_s h
          refine g_V X (As := [.ref (E.1 6)]) (rest := []) (c_X8_copyFrom_state_before l G E  _ _ e60) 1 (wg_1 E _) rfl rfl kv_X12_326 ⟨rfl, rfl⟩ ⟨rfl, hd_X8_copyFrom⟩ (⟨Nat.le_of_ble_eq_true rfl, Nat.le_of_ble_eq_true rfl⟩) rfl rfl (Nat.le_of_ble_eq_true rfl) dX12_execute_84 ?_
          refine g_aload_n X 0 (i0 := 0) dX12_execute_87 rfl rfl ?_
          refine g_iload_n X 1 (i0 := 2) dX12_execute_88 rfl rfl ?_
          refine g_put X (D := D61) (v := .int x2) (T := TX12) (D' := (setI D61 122 x2)) 0 uX12 tyX12 tyX12_ok nmX12 (wg_0 E _) rfl 14 (by decide) fl_X12_89 rfl rfl rfl rfl (Nat.le_of_ble_eq_true rfl) (ws_I_122 E _ _) dX12_execute_89 ?_
          exact gx_throwW X hfl ht (by decide +kernel) (by decide +kernel) wcl_X12_103 wini_2 wst_X12_340 wat_X12_107 wgo_X12_107 dX12_execute_92 dX12_execute_95 dX12_execute_96 dX12_execute_99 dX12_execute_102 (Nat.le_of_ble_eq_true rfl) (Nat.le_of_ble_eq_true rfl) (Nat.le_of_ble_eq_true rfl) (Nat.le_of_ble_eq_true rfl) (k := 2) (by decide) rfl (h2 _ (Option.some.inj h).symm)
      have h := (ite_s h).2 u56
      cases h
    · refine g_V X (As := [.int x2]) (rest := [.ref (E.1 0)]) (c_X4_commandAt l G E x2 _ _ e11) 80 (wg_80 E _) rfl rfl kv_X12_332 ⟨rfl, rfl⟩ ⟨rfl, hd_X4_commandAt⟩ (⟨Nat.le_of_ble_eq_true rfl, Nat.le_of_ble_eq_true rfl⟩) rfl rfl (Nat.le_of_ble_eq_true rfl) dX12_execute_66 ?_
      refine g_iload_n X 1 (i0 := 2) dX12_execute_69 rfl rfl ?_
      obtain ⟨r65, D64, e63, h⟩ := cI_s h
      refine g_V X (As := [.null, .int x2]) (rest := []) (c_X12_carryOut_x_null l G E x2 _ _ e63) 0 (wg_0 E _) rfl rfl kv_X12_336 ⟨rfl, rfl⟩ ⟨rfl, hd_X12_carryOut⟩ (⟨Nat.le_of_ble_eq_true rfl, Nat.le_of_ble_eq_true rfl⟩) rfl rfl (Nat.le_of_ble_eq_true rfl) dX12_execute_70 ?_
      refine g_if_ne X (tgt := 103) dX12_execute_73 (by decide) (fun c68 => ?_) (fun c68 => ?_)
      · have h := (ite_s h).2 c68
        refine g_iinc X 1 (v := (x2 + (1 : Int32))) (lv' := [(2, .int (x2 + (1 : Int32))), (0, .ref (E.1 0))]) dX12_execute_103 rfl rfl (by decide) rfl ?_
        refine g_goto X (tgt := 49) dX12_execute_106 (by decide) ?_
        refine g_sub (lv' := [(0, .ref (E.1 0)), (2, .int (x2 + (1 : Int32)))]) [1, 0] rfl ?_
        exact h1 _ (Option.some.inj h).symm
      · have h := (ite_s h).1 c68
        refine g_aload_n X 0 (i0 := 0) dX12_execute_76 rfl rfl ?_
        refine g_get X (D := D64) (v := .ref (E.1 1)) (T := TX12) 0 uX12 (wg_0 E _) rfl 0 (by decide) fl_X12_10 rfl rfl dX12_execute_77 ?_
        refine g_aload_n X 0 (i0 := 0) dX12_execute_80 rfl rfl ?_
        refine g_get X (D := D64) (v := .ref (E.1 6)) (T := TX12) 0 uX12 (wg_0 E _) rfl 1 (by decide) fl_X12_16 rfl rfl dX12_execute_81 ?_
        obtain ⟨D67, e66, h⟩ := cV_s h
        refine g_V X (As := [.ref (E.1 6)]) (rest := []) (c_X8_copyFrom_state_before l G E  _ _ e66) 1 (wg_1 E _) rfl rfl kv_X12_326 ⟨rfl, rfl⟩ ⟨rfl, hd_X8_copyFrom⟩ (⟨Nat.le_of_ble_eq_true rfl, Nat.le_of_ble_eq_true rfl⟩) rfl rfl (Nat.le_of_ble_eq_true rfl) dX12_execute_84 ?_
        refine g_aload_n X 0 (i0 := 0) dX12_execute_87 rfl rfl ?_
        refine g_iload_n X 1 (i0 := 2) dX12_execute_88 rfl rfl ?_
        refine g_put X (D := D67) (v := .int x2) (T := TX12) (D' := (setI D67 122 x2)) 0 uX12 tyX12 tyX12_ok nmX12 (wg_0 E _) rfl 14 (by decide) fl_X12_89 rfl rfl rfl rfl (Nat.le_of_ble_eq_true rfl) (ws_I_122 E _ _) dX12_execute_89 ?_
        exact gx_throwW X hfl ht (by decide +kernel) (by decide +kernel) wcl_X12_103 wini_2 wst_X12_340 wat_X12_107 wgo_X12_107 dX12_execute_92 dX12_execute_95 dX12_execute_96 dX12_execute_99 dX12_execute_102 (Nat.le_of_ble_eq_true rfl) (Nat.le_of_ble_eq_true rfl) (Nat.le_of_ble_eq_true rfl) (Nat.le_of_ble_eq_true rfl) (k := 2) (by decide) rfl (h2 _ (Option.some.inj h).symm)
set_option maxRecDepth 100000 in
set_option maxHeartbeats 4000000 in
theorem c_X12_execute (l : Launch) (hfl : l.stackTraces = false) (G : va_G) (E : EE)  (D : DD) (r : RT) (h : S_X12_execute  D = some r) : MX l G E yX12_execute cX12_execute 3 (some .int) (rmx 9) [.ref (E.1 0)] D r := by
  unfold S_X12_execute at h
  refine mx_of rfl (Nat.le_of_ble_eq_true rfl) ?_
  intro p e s m args below meth c X hr ht
  exact run_G (T := T_X12_execute) (HG := hg_X12_execute p l e s m args below meth c G E r) (by
    intro k ls D o hT h1 h2
    unfold T_X12_execute at hT
    split at hT
    · exact bl_X12_execute_0 hfl ht X hr  D o hT h1 h2
    · exact bl_X12_execute_1 hfl ht X hr _ D o hT h1 h2
    · cases hT) FUEL 0 [] D h
theorem wst_X12_342 : ((RX12, 342, "no text was malformed") : String × Nat × String) ∈ STRS := by decide +kernel
def S_X12_errorPosition  (D : DD) : Option RT := (if (D.1 121) = (-1 : Int32) then some (5, none, D) else some (0, some (.int (D.1 121)), D))
set_option maxRecDepth 100000 in
set_option maxHeartbeats 4000000 in
theorem c_X12_errorPosition (l : Launch) (hfl : l.stackTraces = false) (G : va_G) (E : EE)  (D : DD) (r : RT) (h : S_X12_errorPosition  D = some r) : MX l G E yX12_errorPosition cX12_errorPosition 1 (some .int) (rmx 6) [.ref (E.1 0)] D r := by
  refine mx_of rfl (Nat.le_of_ble_eq_true rfl) ?_
  intro p e s m args below meth c X hr ht
  unfold S_X12_errorPosition at h
  refine g_aload_n X 0 (i0 := 0) dX12_errorPosition_0 rfl rfl ?_
  refine g_get X (D := D) (v := .int (D.1 121)) (T := TX12) 0 uX12 (wg_0 E _) rfl 13 (by decide) fl_X12_85 rfl rfl dX12_errorPosition_1 ?_
  refine g_iconst X (v := (-1 : Int32)) dX12_errorPosition_4 (by decide) ?_
  refine g_icmp_ne X (tgt := 19) dX12_errorPosition_5 (by decide) (fun c1 => ?_) (fun c1 => ?_)
  · have h := (ite_s h).2 c1
    refine g_aload_n X 0 (i0 := 0) dX12_errorPosition_19 rfl rfl ?_
    refine g_get X (D := D) (v := .int (D.1 121)) (T := TX12) 0 uX12 (wg_0 E _) rfl 13 (by decide) fl_X12_85 rfl rfl dX12_errorPosition_20 ?_
    exact gx_iret X hr rfl dX12_errorPosition_23 (Option.some.inj h)
  · have h := (ite_s h).1 c1
    exact gx_throwNW X hfl ht wcl_X12_206 wini_5 wst_X12_342 wat_X12_210 wgo_X12_210 dX12_errorPosition_8 dX12_errorPosition_11 dX12_errorPosition_12 dX12_errorPosition_15 dX12_errorPosition_18 (Nat.le_of_ble_eq_true rfl) (Nat.le_of_ble_eq_true rfl) (Nat.le_of_ble_eq_true rfl) (Nat.le_of_ble_eq_true rfl) (k := 5) (by decide) rfl (Option.some.inj h)
theorem wst_X12_344 : ((RX12, 344, "no command failed") : String × Nat × String) ∈ STRS := by decide +kernel
def S_X12_failedCommand  (D : DD) : Option RT := (if (D.1 122) = (-1 : Int32) then some (5, none, D) else some (0, some (.int (D.1 122)), D))
set_option maxRecDepth 100000 in
set_option maxHeartbeats 4000000 in
theorem c_X12_failedCommand (l : Launch) (hfl : l.stackTraces = false) (G : va_G) (E : EE)  (D : DD) (r : RT) (h : S_X12_failedCommand  D = some r) : MX l G E yX12_failedCommand cX12_failedCommand 1 (some .int) (rmx 6) [.ref (E.1 0)] D r := by
  refine mx_of rfl (Nat.le_of_ble_eq_true rfl) ?_
  intro p e s m args below meth c X hr ht
  unfold S_X12_failedCommand at h
  refine g_aload_n X 0 (i0 := 0) dX12_failedCommand_0 rfl rfl ?_
  refine g_get X (D := D) (v := .int (D.1 122)) (T := TX12) 0 uX12 (wg_0 E _) rfl 14 (by decide) fl_X12_89 rfl rfl dX12_failedCommand_1 ?_
  refine g_iconst X (v := (-1 : Int32)) dX12_failedCommand_4 (by decide) ?_
  refine g_icmp_ne X (tgt := 19) dX12_failedCommand_5 (by decide) (fun c1 => ?_) (fun c1 => ?_)
  · have h := (ite_s h).2 c1
    refine g_aload_n X 0 (i0 := 0) dX12_failedCommand_19 rfl rfl ?_
    refine g_get X (D := D) (v := .int (D.1 122)) (T := TX12) 0 uX12 (wg_0 E _) rfl 14 (by decide) fl_X12_89 rfl rfl dX12_failedCommand_20 ?_
    exact gx_iret X hr rfl dX12_failedCommand_23 (Option.some.inj h)
  · have h := (ite_s h).1 c1
    exact gx_throwNW X hfl ht wcl_X12_206 wini_5 wst_X12_344 wat_X12_210 wgo_X12_210 dX12_failedCommand_8 dX12_failedCommand_11 dX12_failedCommand_12 dX12_failedCommand_15 dX12_failedCommand_18 (Nat.le_of_ble_eq_true rfl) (Nat.le_of_ble_eq_true rfl) (Nat.le_of_ble_eq_true rfl) (Nat.le_of_ble_eq_true rfl) (k := 5) (by decide) rfl (Option.some.inj h)
theorem hd_X12_bestCharge : yX12_bestCharge.cls ≠ "java/lang/invoke/MethodHandle" ∧ yX12_bestCharge.cls ≠ "java/lang/invoke/VarHandle" ∧ (parseMethodDescriptor yX12_bestCharge.desc).map (fun d => d.parameters.length) = some 0 := by decide +kernel
theorem wc_X12_bestCharge : Cond.code yX12_bestCharge cX12_bestCharge 4 (some .int) ∈ UT := ut 994 (by decide +kernel) (by decide +kernel)
theorem we_X12_bestCharge : Cond.selects RX12 yX12_bestCharge yX12_bestCharge ∈ UT := ut 993 (by decide +kernel) (by decide +kernel)
theorem wm_X12_bestCharge : Cond.instanceMethod yX12_bestCharge ∈ UT := ut 992 (by decide +kernel) (by decide +kernel)
theorem kv_L_67 : GoodIn UT (wsV RL 67 RX12 yX12_bestCharge (Cond.code yX12_bestCharge cX12_bestCharge 4 (some .int) :: UT)) := gu_V (ut 991 (by decide +kernel) (by decide +kernel)) wm_X12_bestCharge we_X12_bestCharge wi_RX12 wc_X12_bestCharge
theorem wca_5 : Cond.castable (exN 5) "java/util/NoSuchElementException" ∈ NEST := nst 997 (by decide +kernel) (by decide +kernel)
theorem wcl_L_71 : Cond.classLink RL 71 "java/util/NoSuchElementException" ∈ UT := ut 990 (by decide +kernel) (by decide +kernel)
def S_L_bestCharge  (D : DD) : Option RT := (cX (S_X12_bestCharge D) (fun v3 D2 => (vI v3 (fun r5 => some (0, some (.int (0 : Int32)), (setB D2 0 (vp_updL (D2.2.2.2.1 0) (0 : Int32).toNatClampNeg r5.toInt64)))))) (fun n4 D2 => (if n4 = 5 then some (0, some (.int (1 : Int32)), D2) else none)))
set_option maxRecDepth 100000 in
set_option maxHeartbeats 4000000 in
theorem c_L_bestCharge (l : Launch) (hfl : l.stackTraces = false) (G : va_G) (E : EE)  (D : DD) (r : RT) (h : S_L_bestCharge  D = some r) : MW l G E yL_bestCharge cL_bestCharge 3 (some .int) [(0, 8, 11, 71)] (rmx 7) [.ref (E.1 0), .ref (E.1 99)] D r := by
  refine mw_of rfl (Nat.le_of_ble_eq_true rfl) ?_
  intro p e s m args below meth c X hr htab
  unfold S_L_bestCharge at h
  refine g_aload_n X 1 (i0 := 1) dL_bestCharge_0 rfl rfl ?_
  refine g_iconst X (v := (0 : Int32)) dL_bestCharge_1 (by decide) ?_
  refine g_aload_n X 0 (i0 := 0) dL_bestCharge_2 rfl rfl ?_
  rcases cX_s h with ⟨v3, D2, e1, h⟩ | ⟨n4, v3, D2, e1, e1n, h⟩
  · obtain ⟨r5, e6, h⟩ := vI_s h
    subst e6
    refine gx_V X (As := []) (rest := [.int (0 : Int32), .ref (E.1 99)]) (c_X12_bestCharge l hfl G E  _ _ e1) 0 (wg_0 E _) rfl rfl kv_L_67 ⟨rfl, rfl⟩ ⟨rfl, hd_X12_bestCharge⟩ (⟨Nat.le_of_ble_eq_true rfl, Nat.le_of_ble_eq_true rfl⟩) (⟨Nat.le_of_ble_eq_true rfl, Nat.le_of_ble_eq_true rfl⟩) rfl rfl (Nat.le_of_ble_eq_true rfl) dL_bestCharge_3 (fun _ => ?_) (fun q => absurd rfl q)
    refine g_i2l X dL_bestCharge_6 ?_
    refine g_last X (D := D2) (f := (D2.2.2.2.1 0)) (i := (0 : Int32)) (x := r5.toInt64) (D' := (setB D2 0 (vp_updL (D2.2.2.2.1 0) (0 : Int32).toNatClampNeg r5.toInt64))) 99 (wg_99 E _) (inB_vp (by decide)) (ws_B_0 E _ _) dL_bestCharge_7 ?_
    refine g_goto X (tgt := 14) dL_bestCharge_8 (by decide) ?_
    refine g_iconst X (v := (0 : Int32)) dL_bestCharge_14 (by decide) ?_
    exact g_iret X hr rfl dL_bestCharge_15 (Option.some.inj h)
  · by_cases u7 : n4 = 5
    · have hh := (ite_s h).1 u7
      clear h
      subst u7
      have h := hh
      clear hh
      refine gx_V X (As := []) (rest := [.int (0 : Int32), .ref (E.1 99)]) (c_X12_bestCharge l hfl G E  _ _ e1) 0 (wg_0 E _) rfl rfl kv_L_67 ⟨rfl, rfl⟩ ⟨rfl, hd_X12_bestCharge⟩ (⟨Nat.le_of_ble_eq_true rfl, Nat.le_of_ble_eq_true rfl⟩) (⟨Nat.le_of_ble_eq_true rfl, Nat.le_of_ble_eq_true rfl⟩) rfl rfl (Nat.le_of_ble_eq_true rfl) dL_bestCharge_3 (fun q => absurd q (show ¬ (5 : Nat) = 0 by decide)) (fun _ => ⟨[], ⟨0, 8, 11, 71⟩, [], "java/util/NoSuchElementException", htab, (fun z hz => absurd hz List.not_mem_nil), by decide, by decide, wcl_L_71, wca_5, fun z8 => ?_⟩)
      refine g_astore_n X (i0 := 2) (lv' := [(2, .ref z8), (0, .ref (E.1 0)), (1, .ref (E.1 99))]) dL_bestCharge_11 rfl (by decide) rfl ?_
      refine g_iconst X (v := (1 : Int32)) dL_bestCharge_12 (by decide) ?_
      exact g_iret X hr rfl dL_bestCharge_13 (Option.some.inj h)
    have h := (ite_s h).2 u7
    cases h
theorem hd_X12_execute : yX12_execute.cls ≠ "java/lang/invoke/MethodHandle" ∧ yX12_execute.cls ≠ "java/lang/invoke/VarHandle" ∧ (parseMethodDescriptor yX12_execute.desc).map (fun d => d.parameters.length) = some 0 := by decide +kernel
theorem wc_X12_execute : Cond.code yX12_execute cX12_execute 3 (some .int) ∈ UT := ut 1190 (by decide +kernel) (by decide +kernel)
theorem we_X12_execute : Cond.selects RX12 yX12_execute yX12_execute ∈ UT := ut 1189 (by decide +kernel) (by decide +kernel)
theorem wm_X12_execute : Cond.instanceMethod yX12_execute ∈ UT := ut 1188 (by decide +kernel) (by decide +kernel)
theorem kv_L_111 : GoodIn UT (wsV RL 111 RX12 yX12_execute (Cond.code yX12_execute cX12_execute 3 (some .int) :: UT)) := gu_V (ut 1187 (by decide +kernel) (by decide +kernel)) wm_X12_execute we_X12_execute wi_RX12 wc_X12_execute
def S_L_execute  (D : DD) : Option RT := (cX (S_X12_execute D) (fun v3 D2 => (vI v3 (fun r5 => some (0, some (.int (0 : Int32)), (setB D2 0 (vp_updL (D2.2.2.2.1 0) (0 : Int32).toNatClampNeg r5.toInt64)))))) (fun n4 D2 => (if n4 = 1 then some (0, some (.int (1 : Int32)), D2) else (if n4 = 2 then some (0, some (.int (2 : Int32)), D2) else none))))
set_option maxRecDepth 100000 in
set_option maxHeartbeats 4000000 in
theorem c_L_execute (l : Launch) (hfl : l.stackTraces = false) (G : va_G) (E : EE)  (D : DD) (r : RT) (h : S_L_execute  D = some r) : MW l G E yL_execute cL_execute 3 (some .int) [(0, 8, 11, 13), (0, 8, 14, 15)] (rmx 10) [.ref (E.1 0), .ref (E.1 99)] D r := by
  refine mw_of rfl (Nat.le_of_ble_eq_true rfl) ?_
  intro p e s m args below meth c X hr htab
  unfold S_L_execute at h
  refine g_aload_n X 1 (i0 := 1) dL_execute_0 rfl rfl ?_
  refine g_iconst X (v := (0 : Int32)) dL_execute_1 (by decide) ?_
  refine g_aload_n X 0 (i0 := 0) dL_execute_2 rfl rfl ?_
  rcases cX_s h with ⟨v3, D2, e1, h⟩ | ⟨n4, v3, D2, e1, e1n, h⟩
  · obtain ⟨r5, e6, h⟩ := vI_s h
    subst e6
    refine gx_V X (As := []) (rest := [.int (0 : Int32), .ref (E.1 99)]) (c_X12_execute l hfl G E  _ _ e1) 0 (wg_0 E _) rfl rfl kv_L_111 ⟨rfl, rfl⟩ ⟨rfl, hd_X12_execute⟩ (⟨Nat.le_of_ble_eq_true rfl, Nat.le_of_ble_eq_true rfl⟩) (⟨Nat.le_of_ble_eq_true rfl, Nat.le_of_ble_eq_true rfl⟩) rfl rfl (Nat.le_of_ble_eq_true rfl) dL_execute_3 (fun _ => ?_) (fun q => absurd rfl q)
    refine g_i2l X dL_execute_6 ?_
    refine g_last X (D := D2) (f := (D2.2.2.2.1 0)) (i := (0 : Int32)) (x := r5.toInt64) (D' := (setB D2 0 (vp_updL (D2.2.2.2.1 0) (0 : Int32).toNatClampNeg r5.toInt64))) 99 (wg_99 E _) (inB_vp (by decide)) (ws_B_0 E _ _) dL_execute_7 ?_
    refine g_goto X (tgt := 17) dL_execute_8 (by decide) ?_
    refine g_iconst X (v := (0 : Int32)) dL_execute_17 (by decide) ?_
    exact g_iret X hr rfl dL_execute_18 (Option.some.inj h)
  · by_cases u7 : n4 = 1
    · have hh := (ite_s h).1 u7
      clear h
      subst u7
      have h := hh
      clear hh
      refine gx_V X (As := []) (rest := [.int (0 : Int32), .ref (E.1 99)]) (c_X12_execute l hfl G E  _ _ e1) 0 (wg_0 E _) rfl rfl kv_L_111 ⟨rfl, rfl⟩ ⟨rfl, hd_X12_execute⟩ (⟨Nat.le_of_ble_eq_true rfl, Nat.le_of_ble_eq_true rfl⟩) (⟨Nat.le_of_ble_eq_true rfl, Nat.le_of_ble_eq_true rfl⟩) rfl rfl (Nat.le_of_ble_eq_true rfl) dL_execute_3 (fun q => absurd q (show ¬ (1 : Nat) = 0 by decide)) (fun _ => ⟨[], ⟨0, 8, 11, 13⟩, [⟨0, 8, 14, 15⟩], "java/lang/IllegalArgumentException", htab, (fun z hz => absurd hz List.not_mem_nil), by decide, by decide, wcl_L_13, wca_1, fun z8 => ?_⟩)
      refine g_astore_n X (i0 := 2) (lv' := [(2, .ref z8), (0, .ref (E.1 0)), (1, .ref (E.1 99))]) dL_execute_11 rfl (by decide) rfl ?_
      refine g_iconst X (v := (1 : Int32)) dL_execute_12 (by decide) ?_
      exact g_iret X hr rfl dL_execute_13 (Option.some.inj h)
    have h := (ite_s h).2 u7
    by_cases u9 : n4 = 2
    · have hh := (ite_s h).1 u9
      clear h
      subst u9
      have h := hh
      clear hh
      refine gx_V X (As := []) (rest := [.int (0 : Int32), .ref (E.1 99)]) (c_X12_execute l hfl G E  _ _ e1) 0 (wg_0 E _) rfl rfl kv_L_111 ⟨rfl, rfl⟩ ⟨rfl, hd_X12_execute⟩ (⟨Nat.le_of_ble_eq_true rfl, Nat.le_of_ble_eq_true rfl⟩) (⟨Nat.le_of_ble_eq_true rfl, Nat.le_of_ble_eq_true rfl⟩) rfl rfl (Nat.le_of_ble_eq_true rfl) dL_execute_3 (fun q => absurd q (show ¬ (2 : Nat) = 0 by decide)) (fun _ => ⟨[⟨0, 8, 11, 13⟩], ⟨0, 8, 14, 15⟩, [], "java/lang/IllegalStateException", htab, (fun z hz => by rw [List.mem_singleton.mp hz]; exact Or.inr ⟨by decide, "java/lang/IllegalArgumentException", wcl_L_13, (show (exN 2, "java/lang/IllegalArgumentException") ∈ NCS by decide +kernel)⟩), by decide, by decide, wcl_L_15, wca_2, fun z10 => ?_⟩)
      refine g_astore_n X (i0 := 2) (lv' := [(2, .ref z10), (0, .ref (E.1 0)), (1, .ref (E.1 99))]) dL_execute_14 rfl (by decide) rfl ?_
      refine g_iconst X (v := (2 : Int32)) dL_execute_15 (by decide) ?_
      exact g_iret X hr rfl dL_execute_16 (Option.some.inj h)
    have h := (ite_s h).2 u9
    cases h
theorem hd_X12_errorPosition : yX12_errorPosition.cls ≠ "java/lang/invoke/MethodHandle" ∧ yX12_errorPosition.cls ≠ "java/lang/invoke/VarHandle" ∧ (parseMethodDescriptor yX12_errorPosition.desc).map (fun d => d.parameters.length) = some 0 := by decide +kernel
theorem wc_X12_errorPosition : Cond.code yX12_errorPosition cX12_errorPosition 1 (some .int) ∈ UT := ut 1310 (by decide +kernel) (by decide +kernel)
theorem we_X12_errorPosition : Cond.selects RX12 yX12_errorPosition yX12_errorPosition ∈ UT := ut 1309 (by decide +kernel) (by decide +kernel)
theorem wm_X12_errorPosition : Cond.instanceMethod yX12_errorPosition ∈ UT := ut 1308 (by decide +kernel) (by decide +kernel)
theorem kv_L_114 : GoodIn UT (wsV RL 114 RX12 yX12_errorPosition (Cond.code yX12_errorPosition cX12_errorPosition 1 (some .int) :: UT)) := gu_V (ut 1307 (by decide +kernel) (by decide +kernel)) wm_X12_errorPosition we_X12_errorPosition wi_RX12 wc_X12_errorPosition
def S_L_errorPosition  (D : DD) : Option RT := (cX (S_X12_errorPosition D) (fun v3 D2 => (vI v3 (fun r5 => some (0, some (.int (0 : Int32)), (setB D2 0 (vp_updL (D2.2.2.2.1 0) (0 : Int32).toNatClampNeg r5.toInt64)))))) (fun n4 D2 => (if n4 = 5 then some (0, some (.int (1 : Int32)), D2) else none)))
set_option maxRecDepth 100000 in
set_option maxHeartbeats 4000000 in
theorem c_L_errorPosition (l : Launch) (hfl : l.stackTraces = false) (G : va_G) (E : EE)  (D : DD) (r : RT) (h : S_L_errorPosition  D = some r) : MW l G E yL_errorPosition cL_errorPosition 3 (some .int) [(0, 8, 11, 71)] (rmx 7) [.ref (E.1 0), .ref (E.1 99)] D r := by
  refine mw_of rfl (Nat.le_of_ble_eq_true rfl) ?_
  intro p e s m args below meth c X hr htab
  unfold S_L_errorPosition at h
  refine g_aload_n X 1 (i0 := 1) dL_errorPosition_0 rfl rfl ?_
  refine g_iconst X (v := (0 : Int32)) dL_errorPosition_1 (by decide) ?_
  refine g_aload_n X 0 (i0 := 0) dL_errorPosition_2 rfl rfl ?_
  rcases cX_s h with ⟨v3, D2, e1, h⟩ | ⟨n4, v3, D2, e1, e1n, h⟩
  · obtain ⟨r5, e6, h⟩ := vI_s h
    subst e6
    refine gx_V X (As := []) (rest := [.int (0 : Int32), .ref (E.1 99)]) (c_X12_errorPosition l hfl G E  _ _ e1) 0 (wg_0 E _) rfl rfl kv_L_114 ⟨rfl, rfl⟩ ⟨rfl, hd_X12_errorPosition⟩ (⟨Nat.le_of_ble_eq_true rfl, Nat.le_of_ble_eq_true rfl⟩) (⟨Nat.le_of_ble_eq_true rfl, Nat.le_of_ble_eq_true rfl⟩) rfl rfl (Nat.le_of_ble_eq_true rfl) dL_errorPosition_3 (fun _ => ?_) (fun q => absurd rfl q)
    refine g_i2l X dL_errorPosition_6 ?_
    refine g_last X (D := D2) (f := (D2.2.2.2.1 0)) (i := (0 : Int32)) (x := r5.toInt64) (D' := (setB D2 0 (vp_updL (D2.2.2.2.1 0) (0 : Int32).toNatClampNeg r5.toInt64))) 99 (wg_99 E _) (inB_vp (by decide)) (ws_B_0 E _ _) dL_errorPosition_7 ?_
    refine g_goto X (tgt := 14) dL_errorPosition_8 (by decide) ?_
    refine g_iconst X (v := (0 : Int32)) dL_errorPosition_14 (by decide) ?_
    exact g_iret X hr rfl dL_errorPosition_15 (Option.some.inj h)
  · by_cases u7 : n4 = 5
    · have hh := (ite_s h).1 u7
      clear h
      subst u7
      have h := hh
      clear hh
      refine gx_V X (As := []) (rest := [.int (0 : Int32), .ref (E.1 99)]) (c_X12_errorPosition l hfl G E  _ _ e1) 0 (wg_0 E _) rfl rfl kv_L_114 ⟨rfl, rfl⟩ ⟨rfl, hd_X12_errorPosition⟩ (⟨Nat.le_of_ble_eq_true rfl, Nat.le_of_ble_eq_true rfl⟩) (⟨Nat.le_of_ble_eq_true rfl, Nat.le_of_ble_eq_true rfl⟩) rfl rfl (Nat.le_of_ble_eq_true rfl) dL_errorPosition_3 (fun q => absurd q (show ¬ (5 : Nat) = 0 by decide)) (fun _ => ⟨[], ⟨0, 8, 11, 71⟩, [], "java/util/NoSuchElementException", htab, (fun z hz => absurd hz List.not_mem_nil), by decide, by decide, wcl_L_71, wca_5, fun z8 => ?_⟩)
      refine g_astore_n X (i0 := 2) (lv' := [(2, .ref z8), (0, .ref (E.1 0)), (1, .ref (E.1 99))]) dL_errorPosition_11 rfl (by decide) rfl ?_
      refine g_iconst X (v := (1 : Int32)) dL_errorPosition_12 (by decide) ?_
      exact g_iret X hr rfl dL_errorPosition_13 (Option.some.inj h)
    have h := (ite_s h).2 u7
    cases h
theorem hd_X12_failedCommand : yX12_failedCommand.cls ≠ "java/lang/invoke/MethodHandle" ∧ yX12_failedCommand.cls ≠ "java/lang/invoke/VarHandle" ∧ (parseMethodDescriptor yX12_failedCommand.desc).map (fun d => d.parameters.length) = some 0 := by decide +kernel
theorem wc_X12_failedCommand : Cond.code yX12_failedCommand cX12_failedCommand 1 (some .int) ∈ UT := ut 1318 (by decide +kernel) (by decide +kernel)
theorem we_X12_failedCommand : Cond.selects RX12 yX12_failedCommand yX12_failedCommand ∈ UT := ut 1317 (by decide +kernel) (by decide +kernel)
theorem wm_X12_failedCommand : Cond.instanceMethod yX12_failedCommand ∈ UT := ut 1316 (by decide +kernel) (by decide +kernel)
theorem kv_L_117 : GoodIn UT (wsV RL 117 RX12 yX12_failedCommand (Cond.code yX12_failedCommand cX12_failedCommand 1 (some .int) :: UT)) := gu_V (ut 1315 (by decide +kernel) (by decide +kernel)) wm_X12_failedCommand we_X12_failedCommand wi_RX12 wc_X12_failedCommand
def S_L_failedCommand  (D : DD) : Option RT := (cX (S_X12_failedCommand D) (fun v3 D2 => (vI v3 (fun r5 => some (0, some (.int (0 : Int32)), (setB D2 0 (vp_updL (D2.2.2.2.1 0) (0 : Int32).toNatClampNeg r5.toInt64)))))) (fun n4 D2 => (if n4 = 5 then some (0, some (.int (1 : Int32)), D2) else none)))
set_option maxRecDepth 100000 in
set_option maxHeartbeats 4000000 in
theorem c_L_failedCommand (l : Launch) (hfl : l.stackTraces = false) (G : va_G) (E : EE)  (D : DD) (r : RT) (h : S_L_failedCommand  D = some r) : MW l G E yL_failedCommand cL_failedCommand 3 (some .int) [(0, 8, 11, 71)] (rmx 7) [.ref (E.1 0), .ref (E.1 99)] D r := by
  refine mw_of rfl (Nat.le_of_ble_eq_true rfl) ?_
  intro p e s m args below meth c X hr htab
  unfold S_L_failedCommand at h
  refine g_aload_n X 1 (i0 := 1) dL_failedCommand_0 rfl rfl ?_
  refine g_iconst X (v := (0 : Int32)) dL_failedCommand_1 (by decide) ?_
  refine g_aload_n X 0 (i0 := 0) dL_failedCommand_2 rfl rfl ?_
  rcases cX_s h with ⟨v3, D2, e1, h⟩ | ⟨n4, v3, D2, e1, e1n, h⟩
  · obtain ⟨r5, e6, h⟩ := vI_s h
    subst e6
    refine gx_V X (As := []) (rest := [.int (0 : Int32), .ref (E.1 99)]) (c_X12_failedCommand l hfl G E  _ _ e1) 0 (wg_0 E _) rfl rfl kv_L_117 ⟨rfl, rfl⟩ ⟨rfl, hd_X12_failedCommand⟩ (⟨Nat.le_of_ble_eq_true rfl, Nat.le_of_ble_eq_true rfl⟩) (⟨Nat.le_of_ble_eq_true rfl, Nat.le_of_ble_eq_true rfl⟩) rfl rfl (Nat.le_of_ble_eq_true rfl) dL_failedCommand_3 (fun _ => ?_) (fun q => absurd rfl q)
    refine g_i2l X dL_failedCommand_6 ?_
    refine g_last X (D := D2) (f := (D2.2.2.2.1 0)) (i := (0 : Int32)) (x := r5.toInt64) (D' := (setB D2 0 (vp_updL (D2.2.2.2.1 0) (0 : Int32).toNatClampNeg r5.toInt64))) 99 (wg_99 E _) (inB_vp (by decide)) (ws_B_0 E _ _) dL_failedCommand_7 ?_
    refine g_goto X (tgt := 14) dL_failedCommand_8 (by decide) ?_
    refine g_iconst X (v := (0 : Int32)) dL_failedCommand_14 (by decide) ?_
    exact g_iret X hr rfl dL_failedCommand_15 (Option.some.inj h)
  · by_cases u7 : n4 = 5
    · have hh := (ite_s h).1 u7
      clear h
      subst u7
      have h := hh
      clear hh
      refine gx_V X (As := []) (rest := [.int (0 : Int32), .ref (E.1 99)]) (c_X12_failedCommand l hfl G E  _ _ e1) 0 (wg_0 E _) rfl rfl kv_L_117 ⟨rfl, rfl⟩ ⟨rfl, hd_X12_failedCommand⟩ (⟨Nat.le_of_ble_eq_true rfl, Nat.le_of_ble_eq_true rfl⟩) (⟨Nat.le_of_ble_eq_true rfl, Nat.le_of_ble_eq_true rfl⟩) rfl rfl (Nat.le_of_ble_eq_true rfl) dL_failedCommand_3 (fun q => absurd q (show ¬ (5 : Nat) = 0 by decide)) (fun _ => ⟨[], ⟨0, 8, 11, 71⟩, [], "java/util/NoSuchElementException", htab, (fun z hz => absurd hz List.not_mem_nil), by decide, by decide, wcl_L_71, wca_5, fun z8 => ?_⟩)
      refine g_astore_n X (i0 := 2) (lv' := [(2, .ref z8), (0, .ref (E.1 0)), (1, .ref (E.1 99))]) dL_failedCommand_11 rfl (by decide) rfl ?_
      refine g_iconst X (v := (1 : Int32)) dL_failedCommand_12 (by decide) ?_
      exact g_iret X hr rfl dL_failedCommand_13 (Option.some.inj h)
    have h := (ite_s h).2 u7
    cases h
