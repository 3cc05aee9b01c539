/-! pure: small loops -/
section LL
variable {D : DD} {v : Nat → Nat}
theorem s_countOpen (hC : CS D v) (hW : WF v) : S_X8_countOpen D = some (0, some (.int (z (openN v))), D) := by
  unfold S_X8_countOpen
  refine RunP.eqn (c := 100) ?_ (by decide)
  refine RunP.go ?_
  show Wp (b_X8_countOpen_0 _) _
  unfold b_X8_countOpen_0
  simp only [Int.reduceToNat, Wp_some, Nx_l, Nx_r, cI_i, cV_v, cL_l, ite_t, ite_f, z_nn, toNat_c, bz_e0, z_add, z_sub, z_mul, z_neg, ite_T, ite_F, zl_0, zl_1, zl_2, zl_3, zl_4, zl_5, zl_6, zl_7, zl_8, zl_9, zl_10, zl_11, zl_12, zl_13, zl_14, zl_15, zl_16, zl_17, zl_18, zl_19, zl_20, zl_21, zl_22, zl_23, zl_24, zl_25, zl_26, zl_27, zl_28, zl_29, zl_30, zl_31, zl_32, zl_33, zl_34, zl_35, zl_36, zl_37, zl_38, zl_39, zl_40, zl_41, zl_42, zl_43, zl_44, zl_45, zl_46, zl_47, zl_48, zl_49, zl_50, zl_51, zl_52, zl_53, zl_54, zl_55, zl_56, zl_57, zl_58, zl_59, zl_60, zl_61, zl_62, zl_63, zl_64, zl_97, zl_99, zl_100, zl_126, zl_255, zl_434, zl_496, zl_1000000, zl_100000]
  refine RunP.loop (fun i ls D' => ls = [z (cnt (fun c => decide (v (4 + c) = 0)) i), z i] ∧ D' = D) 36 1 1 ?_ ?_ 0 _ _ (by omega) ⟨rfl, rfl⟩ (by omega)
  · rintro i ls D' c hi ⟨rfl, rfl⟩ hk
    have h9 := hW.1 i hi
    have hh := hC.1 i hi
    refine RunP.go ?_
    show Wp (b_X8_countOpen_1 _ _ _) _
    unfold b_X8_countOpen_1
    simp (disch := omega) only [z_add, z_sub, z_mul, z_neg, ite_T, ite_F, zl_0, zl_1, zl_2, zl_3, zl_4, zl_5, zl_6, zl_7, zl_8, zl_9, zl_10, zl_11, zl_12, zl_13, zl_14, zl_15, zl_16, zl_17, zl_18, zl_19, zl_20, zl_21, zl_22, zl_23, zl_24, zl_25, zl_26, zl_27, zl_28, zl_29, zl_30, zl_31, zl_32, zl_33, zl_34, zl_35, zl_36, zl_37, zl_38, zl_39, zl_40, zl_41, zl_42, zl_43, zl_44, zl_45, zl_46, zl_47, zl_48, zl_49, zl_50, zl_51, zl_52, zl_53, zl_54, zl_55, zl_56, zl_57, zl_58, zl_59, zl_60, zl_61, zl_62, zl_63, zl_64, zl_97, zl_99, zl_100, zl_126, zl_255, zl_434, zl_496, zl_1000000, zl_100000, z_lt, z_le, z_eq, inB_z, z_div, Int.reduceToNat, Wp_some, Nx_l, Nx_r, cI_i, cV_v, cL_l, ite_t, ite_f, z_nn, toNat_c, bz_e0, hh]
    split
    · rename_i h
      rw [Wp_some, Nx_l]
      refine hk _ _ ⟨?_, rfl⟩
      rw [cnt, if_pos (by simp; omega)]
      rfl
    · rename_i h
      rw [Wp_some, Nx_l]
      refine hk _ _ ⟨?_, rfl⟩
      rw [cnt, if_neg (by simp; omega)]
      rfl
  · rintro ls D' ⟨rfl, rfl⟩
    refine RunP.go ?_
    show Wp (b_X8_countOpen_1 _ _ _) _
    unfold b_X8_countOpen_1
    simp (disch := omega) only [z_add, z_sub, z_mul, z_neg, ite_T, ite_F, zl_0, zl_1, zl_2, zl_3, zl_4, zl_5, zl_6, zl_7, zl_8, zl_9, zl_10, zl_11, zl_12, zl_13, zl_14, zl_15, zl_16, zl_17, zl_18, zl_19, zl_20, zl_21, zl_22, zl_23, zl_24, zl_25, zl_26, zl_27, zl_28, zl_29, zl_30, zl_31, zl_32, zl_33, zl_34, zl_35, zl_36, zl_37, zl_38, zl_39, zl_40, zl_41, zl_42, zl_43, zl_44, zl_45, zl_46, zl_47, zl_48, zl_49, zl_50, zl_51, zl_52, zl_53, zl_54, zl_55, zl_56, zl_57, zl_58, zl_59, zl_60, zl_61, zl_62, zl_63, zl_64, zl_97, zl_99, zl_100, zl_126, zl_255, zl_434, zl_496, zl_1000000, zl_100000, z_lt, z_le, z_eq, inB_z, z_div, Int.reduceToNat, Wp_some, Nx_l, Nx_r, cI_i, cV_v, cL_l, ite_t, ite_f, z_nn, toNat_c, bz_e0]
    rfl
theorem s_sumOfHardness (hC : CS D v) (hW : WF v) : S_X8_sumOfHardness D = some (0, some (.int (z (sm (fun c => v (4 + c)) 36))), D) := by
  unfold S_X8_sumOfHardness
  refine RunP.eqn (c := 100) ?_ (by decide)
  refine RunP.go ?_
  show Wp (b_X8_sumOfHardness_0 _) _
  unfold b_X8_sumOfHardness_0
  simp only [Int.reduceToNat, Wp_some, Nx_l, Nx_r, cI_i, cV_v, cL_l, ite_t, ite_f, z_nn, toNat_c, bz_e0, z_add, z_sub, z_mul, z_neg, ite_T, ite_F, zl_0, zl_1, zl_2, zl_3, zl_4, zl_5, zl_6, zl_7, zl_8, zl_9, zl_10, zl_11, zl_12, zl_13, zl_14, zl_15, zl_16, zl_17, zl_18, zl_19, zl_20, zl_21, zl_22, zl_23, zl_24, zl_25, zl_26, zl_27, zl_28, zl_29, zl_30, zl_31, zl_32, zl_33, zl_34, zl_35, zl_36, zl_37, zl_38, zl_39, zl_40, zl_41, zl_42, zl_43, zl_44, zl_45, zl_46, zl_47, zl_48, zl_49, zl_50, zl_51, zl_52, zl_53, zl_54, zl_55, zl_56, zl_57, zl_58, zl_59, zl_60, zl_61, zl_62, zl_63, zl_64, zl_97, zl_99, zl_100, zl_126, zl_255, zl_434, zl_496, zl_1000000, zl_100000]
  refine RunP.loop (fun i ls D' => ls = [z (sm (fun c => v (4 + c)) i), z i] ∧ D' = D) 36 1 1 ?_ ?_ 0 _ _ (by omega) ⟨rfl, rfl⟩ (by omega)
  · rintro i ls D' c hi ⟨rfl, rfl⟩ hk
    have hh := hC.1 i hi
    refine RunP.go ?_
    show Wp (b_X8_sumOfHardness_1 _ _ _) _
    unfold b_X8_sumOfHardness_1
    simp (disch := omega) only [z_add, z_sub, z_mul, z_neg, ite_T, ite_F, zl_0, zl_1, zl_2, zl_3, zl_4, zl_5, zl_6, zl_7, zl_8, zl_9, zl_10, zl_11, zl_12, zl_13, zl_14, zl_15, zl_16, zl_17, zl_18, zl_19, zl_20, zl_21, zl_22, zl_23, zl_24, zl_25, zl_26, zl_27, zl_28, zl_29, zl_30, zl_31, zl_32, zl_33, zl_34, zl_35, zl_36, zl_37, zl_38, zl_39, zl_40, zl_41, zl_42, zl_43, zl_44, zl_45, zl_46, zl_47, zl_48, zl_49, zl_50, zl_51, zl_52, zl_53, zl_54, zl_55, zl_56, zl_57, zl_58, zl_59, zl_60, zl_61, zl_62, zl_63, zl_64, zl_97, zl_99, zl_100, zl_126, zl_255, zl_434, zl_496, zl_1000000, zl_100000, z_lt, z_le, z_eq, inB_z, z_div, Int.reduceToNat, Wp_some, Nx_l, Nx_r, cI_i, cV_v, cL_l, ite_t, ite_f, z_nn, toNat_c, bz_e0, hh]
    exact hk _ _ ⟨rfl, rfl⟩
  · rintro ls D' ⟨rfl, rfl⟩
    refine RunP.go ?_
    show Wp (b_X8_sumOfHardness_1 _ _ _) _
    unfold b_X8_sumOfHardness_1
    simp (disch := omega) only [z_add, z_sub, z_mul, z_neg, ite_T, ite_F, zl_0, zl_1, zl_2, zl_3, zl_4, zl_5, zl_6, zl_7, zl_8, zl_9, zl_10, zl_11, zl_12, zl_13, zl_14, zl_15, zl_16, zl_17, zl_18, zl_19, zl_20, zl_21, zl_22, zl_23, zl_24, zl_25, zl_26, zl_27, zl_28, zl_29, zl_30, zl_31, zl_32, zl_33, zl_34, zl_35, zl_36, zl_37, zl_38, zl_39, zl_40, zl_41, zl_42, zl_43, zl_44, zl_45, zl_46, zl_47, zl_48, zl_49, zl_50, zl_51, zl_52, zl_53, zl_54, zl_55, zl_56, zl_57, zl_58, zl_59, zl_60, zl_61, zl_62, zl_63, zl_64, zl_97, zl_99, zl_100, zl_126, zl_255, zl_434, zl_496, zl_1000000, zl_100000, z_lt, z_le, z_eq, inB_z, z_div, Int.reduceToNat, Wp_some, Nx_l, Nx_r, cI_i, cV_v, cL_l, ite_t, ite_f, z_nn, toNat_c, bz_e0]
/-- a charge lies in a cell -/
def chd (v : Nat → Nat) (c : Nat) : Prop := ∃ n, n < v 3 ∧ v (40 + 2 * n) = c
def chdB (v : Nat → Nat) (c : Nat) : Bool := (List.range (v 3)).any (fun n => decide (v (40 + 2 * n) = c))
theorem chdB_iff (v : Nat → Nat) (c : Nat) : chdB v c = true ↔ ∃ n, n < v 3 ∧ v (40 + 2 * n) = c := by
  unfold chdB
  rw [List.any_eq_true]
  constructor
  · rintro ⟨n, h1, h2⟩
    exact ⟨n, List.mem_range.mp h1, by simpa using h2⟩
  · rintro ⟨n, h1, h2⟩
    exact ⟨n, List.mem_range.mpr h1, by simpa using h2⟩
theorem s_chargedAt (hC : CS D v) (hW : WF v) {c : Nat} (hc : c < 36) : S_X8_chargedAt (z c) D = some (0, some (.int (z (bz (chdB v c = true)))), D) := by
  have h6 := hW.2.1
  unfold S_X8_chargedAt
  refine RunP.eqn (c := 100) ?_ (by decide)
  refine RunP.go ?_
  show Wp (b_X8_chargedAt_0 _ _) _
  unfold b_X8_chargedAt_0
  simp only [Int.reduceToNat, Wp_some, Nx_l, Nx_r, cI_i, cV_v, cL_l, ite_t, ite_f, z_nn, toNat_c, bz_e0, z_add, z_sub, z_mul, z_neg, ite_T, ite_F, zl_0, zl_1, zl_2, zl_3, zl_4, zl_5, zl_6, zl_7, zl_8, zl_9, zl_10, zl_11, zl_12, zl_13, zl_14, zl_15, zl_16, zl_17, zl_18, zl_19, zl_20, zl_21, zl_22, zl_23, zl_24, zl_25, zl_26, zl_27, zl_28, zl_29, zl_30, zl_31, zl_32, zl_33, zl_34, zl_35, zl_36, zl_37, zl_38, zl_39, zl_40, zl_41, zl_42, zl_43, zl_44, zl_45, zl_46, zl_47, zl_48, zl_49, zl_50, zl_51, zl_52, zl_53, zl_54, zl_55, zl_56, zl_57, zl_58, zl_59, zl_60, zl_61, zl_62, zl_63, zl_64, zl_97, zl_99, zl_100, zl_126, zl_255, zl_434, zl_496, zl_1000000, zl_100000]
  refine RunP.loop (fun i ls D' => ls = [z c, z i] ∧ D' = D ∧ ∀ n, n < i → v (40 + 2 * n) ≠ c) (v 3) 1 1 ?_ ?_ 0 _ _ (by omega) ⟨rfl, rfl, fun n h => by omega⟩ (by omega)
  · rintro i ls D' c' hi ⟨rfl, rfl, hn⟩ hk
    have hh := hW.2.2.1 i hi
    refine RunP.go ?_
    show Wp (b_X8_chargedAt_1 _ _ _) _
    unfold b_X8_chargedAt_1
    simp (disch := omega) only [z_add, z_sub, z_mul, z_neg, ite_T, ite_F, zl_0, zl_1, zl_2, zl_3, zl_4, zl_5, zl_6, zl_7, zl_8, zl_9, zl_10, zl_11, zl_12, zl_13, zl_14, zl_15, zl_16, zl_17, zl_18, zl_19, zl_20, zl_21, zl_22, zl_23, zl_24, zl_25, zl_26, zl_27, zl_28, zl_29, zl_30, zl_31, zl_32, zl_33, zl_34, zl_35, zl_36, zl_37, zl_38, zl_39, zl_40, zl_41, zl_42, zl_43, zl_44, zl_45, zl_46, zl_47, zl_48, zl_49, zl_50, zl_51, zl_52, zl_53, zl_54, zl_55, zl_56, zl_57, zl_58, zl_59, zl_60, zl_61, zl_62, zl_63, zl_64, zl_97, zl_99, zl_100, zl_126, zl_255, zl_434, zl_496, zl_1000000, zl_100000, z_lt, z_le, z_eq, inB_z, z_div, Int.reduceToNat, Wp_some, Nx_l, Nx_r, cI_i, cV_v, cL_l, ite_t, ite_f, z_nn, toNat_c, bz_e0, hC.2.2.2.2.1, s_cellOf hC hW hi]
    split
    · rename_i h
      rw [Wp_some, Nx_r, bz_t ((chdB_iff v c).mpr ⟨i, hi, by omega⟩)]
    · rename_i h
      rw [Wp_some, Nx_l]
      refine hk _ _ ⟨rfl, rfl, fun n h' => ?_⟩
      by_cases e : n = i
      · subst e
        omega
      · exact hn n (by omega)
  · rintro ls D' ⟨rfl, rfl, hn⟩
    refine RunP.go ?_
    show Wp (b_X8_chargedAt_1 _ _ _) _
    unfold b_X8_chargedAt_1
    simp (disch := omega) only [z_add, z_sub, z_mul, z_neg, ite_T, ite_F, zl_0, zl_1, zl_2, zl_3, zl_4, zl_5, zl_6, zl_7, zl_8, zl_9, zl_10, zl_11, zl_12, zl_13, zl_14, zl_15, zl_16, zl_17, zl_18, zl_19, zl_20, zl_21, zl_22, zl_23, zl_24, zl_25, zl_26, zl_27, zl_28, zl_29, zl_30, zl_31, zl_32, zl_33, zl_34, zl_35, zl_36, zl_37, zl_38, zl_39, zl_40, zl_41, zl_42, zl_43, zl_44, zl_45, zl_46, zl_47, zl_48, zl_49, zl_50, zl_51, zl_52, zl_53, zl_54, zl_55, zl_56, zl_57, zl_58, zl_59, zl_60, zl_61, zl_62, zl_63, zl_64, zl_97, zl_99, zl_100, zl_126, zl_255, zl_434, zl_496, zl_1000000, zl_100000, z_lt, z_le, z_eq, inB_z, z_div, Int.reduceToNat, Wp_some, Nx_l, Nx_r, cI_i, cV_v, cL_l, ite_t, ite_f, z_nn, toNat_c, bz_e0, hC.2.2.2.2.1]
    rw [bz_f (fun h => by
      obtain ⟨n, h1, h2⟩ := (chdB_iff v c).mp h
      exact hn n h1 h2)]
/-- whether a cell can be reached: from the west, or beside an opened one -/
def rchB (v : Nat → Nat) (c : Nat) : Bool := decide (c % 6 = 0) || (List.range 4).any (fun d => decide (0 ≤ nbC c d) && decide (v (4 + (nbC c d).toNat) = 0))
theorem s_openAtZ (hC : CS D v) (hW : WF v) {c : Int} (h1 : -1 ≤ c) (h2 : c < 36) : S_X8_openAt (z c) D = some (0, some (.int (z (bz (0 ≤ c ∧ v (4 + c.toNat) = 0)))), D) := by
  by_cases h : 0 ≤ c
  · obtain ⟨n, rfl⟩ := Int.eq_ofNat_of_zero_le h
    rw [s_openAt hC hW (by omega)]
    by_cases h0 : v (4 + n) = 0
    · rw [bz_t h0, bz_t ⟨h, h0⟩]
    · rw [bz_f h0, bz_f (fun q => h0 q.2)]
  · rw [s_openAt_f (by omega) (by omega) (by omega), bz_f (fun q => h q.1)]
theorem s_canBeReached (hC : CS D v) (hW : WF v) {c : Nat} (hc : c < 36) : S_X8_canBeReached (z c) D = some (0, some (.int (z (bz (rchB v c = true)))), D) := by
  unfold S_X8_canBeReached
  refine RunP.eqn (c := 100) ?_ (by decide)
  refine RunP.go ?_
  show Wp (b_X8_canBeReached_0 _ _) _
  unfold b_X8_canBeReached_0
  simp (disch := omega) only [Int.reduceToNat, Wp_some, Nx_l, Nx_r, cI_i, cV_v, cL_l, ite_t, ite_f, z_nn, toNat_c, bz_e0, z_add, z_sub, z_mul, z_neg, ite_T, ite_F, zl_0, zl_1, zl_2, zl_3, zl_4, zl_5, zl_6, zl_7, zl_8, zl_9, zl_10, zl_11, zl_12, zl_13, zl_14, zl_15, zl_16, zl_17, zl_18, zl_19, zl_20, zl_21, zl_22, zl_23, zl_24, zl_25, zl_26, zl_27, zl_28, zl_29, zl_30, zl_31, zl_32, zl_33, zl_34, zl_35, zl_36, zl_37, zl_38, zl_39, zl_40, zl_41, zl_42, zl_43, zl_44, zl_45, zl_46, zl_47, zl_48, zl_49, zl_50, zl_51, zl_52, zl_53, zl_54, zl_55, zl_56, zl_57, zl_58, zl_59, zl_60, zl_61, zl_62, zl_63, zl_64, zl_97, zl_99, zl_100, zl_126, zl_255, zl_434, zl_496, zl_1000000, zl_100000, z_lt, z_le, z_eq, inB_z, z_div]
  split
  · rename_i h
    rw [Wp_some, Nx_r, bz_t]
    unfold rchB
    rw [Bool.or_eq_true]
    left
    rw [decide_eq_true_eq]
    omega
  rename_i h0
  rw [Wp_some, Nx_l]
  refine RunP.loop (fun i ls D' => ls = [z c, z i] ∧ D' = D ∧ ∀ d, d < i → ¬ (0 ≤ nbC c d ∧ v (4 + (nbC c d).toNat) = 0)) 4 1 1 ?_ ?_ 0 _ _ (by omega) ⟨rfl, rfl, fun n h => by omega⟩ (by omega)
  · rintro i ls D' c' hi ⟨rfl, rfl, hn⟩ hk
    have h1 := nbC_lo c i
    have h2 := nbC_hi c i
    refine RunP.go ?_
    show Wp (b_X8_canBeReached_1 _ _ _) _
    unfold b_X8_canBeReached_1
    simp (disch := omega) only [z_add, z_sub, z_mul, z_neg, ite_T, ite_F, zl_0, zl_1, zl_2, zl_3, zl_4, zl_5, zl_6, zl_7, zl_8, zl_9, zl_10, zl_11, zl_12, zl_13, zl_14, zl_15, zl_16, zl_17, zl_18, zl_19, zl_20, zl_21, zl_22, zl_23, zl_24, zl_25, zl_26, zl_27, zl_28, zl_29, zl_30, zl_31, zl_32, zl_33, zl_34, zl_35, zl_36, zl_37, zl_38, zl_39, zl_40, zl_41, zl_42, zl_43, zl_44, zl_45, zl_46, zl_47, zl_48, zl_49, zl_50, zl_51, zl_52, zl_53, zl_54, zl_55, zl_56, zl_57, zl_58, zl_59, zl_60, zl_61, zl_62, zl_63, zl_64, zl_97, zl_99, zl_100, zl_126, zl_255, zl_434, zl_496, zl_1000000, zl_100000, z_lt, z_le, z_eq, inB_z, z_div, Int.reduceToNat, Wp_some, Nx_l, Nx_r, cI_i, cV_v, cL_l, ite_t, ite_f, z_nn, toNat_c, bz_e0, s_neighbourOf hc hi, s_openAtZ hC hW h1 h2]
    split
    · rename_i h
      rw [Wp_some, Nx_l]
      refine hk _ _ ⟨rfl, rfl, fun n h' => ?_⟩
      by_cases e : n = i
      · subst e
        exact h
      · exact hn n (by omega)
    · rename_i h
      rw [Wp_some, Nx_r, bz_t]
      unfold rchB
      rw [Bool.or_eq_true]
      right
      rw [List.any_eq_true]
      refine ⟨i, List.mem_range.mpr hi, ?_⟩
      have h := Decidable.not_not.mp h
      rw [Bool.and_eq_true, decide_eq_true_eq, decide_eq_true_eq]
      exact h
  · rintro ls D' ⟨rfl, rfl, hn⟩
    refine RunP.go ?_
    show Wp (b_X8_canBeReached_1 _ _ _) _
    unfold b_X8_canBeReached_1
    simp (disch := omega) only [z_add, z_sub, z_mul, z_neg, ite_T, ite_F, zl_0, zl_1, zl_2, zl_3, zl_4, zl_5, zl_6, zl_7, zl_8, zl_9, zl_10, zl_11, zl_12, zl_13, zl_14, zl_15, zl_16, zl_17, zl_18, zl_19, zl_20, zl_21, zl_22, zl_23, zl_24, zl_25, zl_26, zl_27, zl_28, zl_29, zl_30, zl_31, zl_32, zl_33, zl_34, zl_35, zl_36, zl_37, zl_38, zl_39, zl_40, zl_41, zl_42, zl_43, zl_44, zl_45, zl_46, zl_47, zl_48, zl_49, zl_50, zl_51, zl_52, zl_53, zl_54, zl_55, zl_56, zl_57, zl_58, zl_59, zl_60, zl_61, zl_62, zl_63, zl_64, zl_97, zl_99, zl_100, zl_126, zl_255, zl_434, zl_496, zl_1000000, zl_100000, z_lt, z_le, z_eq, inB_z, z_div, Int.reduceToNat, Wp_some, Nx_l, Nx_r, cI_i, cV_v, cL_l, ite_t, ite_f, z_nn, toNat_c, bz_e0]
    rw [bz_f]
    intro h
    unfold rchB at h
    rw [Bool.or_eq_true, decide_eq_true_eq, List.any_eq_true] at h
    rcases h with h | ⟨d, h1, h2⟩
    · omega
    · rw [Bool.and_eq_true, decide_eq_true_eq, decide_eq_true_eq] at h2
      exact hn d (List.mem_range.mp h1) h2
end LL
