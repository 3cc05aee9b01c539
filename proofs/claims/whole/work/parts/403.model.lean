/-! pure: the reference's leaves -/
def MR (D : DD) (v : Nat → Nat) : Prop := ∀ i, i < 62 → D.2.2.1 70 i = z (v i)
theorem zcong {a b : Int} {D : DD} (h : a = b) : (some (0, some (.int (z a)), D) : Option RT) = some (0, some (.int (z b)), D) := by rw [h]
section LL
variable {D : DD} {v : Nat → Nat}
theorem m_isIn {a b c : Int} (h1 : -2147483648 ≤ a) (h2 : a < 2147483648) (h3 : -2147483648 ≤ b) (h4 : b < 2147483648) (h5 : -2147483648 ≤ c) (h6 : c < 2147483648) : S_X13_isIn (z a) (z b) (z c) D = some (0, some (.int (z (bz (b ≤ a ∧ a ≤ c)))), D) := by
  unfold S_X13_isIn
  simp (disch := omega) only [z_add, z_sub, z_mul, z_neg, ite_T, ite_F, zl_0, zl_1, zl_2, zl_3, zl_4, zl_5, zl_6, zl_7, zl_8, zl_9, zl_10, zl_11, zl_12, zl_13, zl_14, zl_15, zl_16, zl_17, zl_18, zl_19, zl_20, zl_21, zl_22, zl_23, zl_24, zl_25, zl_26, zl_27, zl_28, zl_29, zl_30, zl_31, zl_32, zl_33, zl_34, zl_35, zl_36, zl_37, zl_38, zl_39, zl_40, zl_41, zl_42, zl_43, zl_44, zl_45, zl_46, zl_47, zl_48, zl_49, zl_50, zl_51, zl_52, zl_53, zl_54, zl_55, zl_56, zl_57, zl_58, zl_59, zl_60, zl_61, zl_62, zl_63, zl_64, zl_97, zl_99, zl_100, zl_126, zl_255, zl_434, zl_496, zl_1000000, zl_100000, z_lt, z_le, z_eq, inB_z, z_div]
  split
  · rw [bz_f (by omega)]
  · split
    · rw [bz_f (by omega)]
    · rw [bz_t (by omega)]
theorem m_isCell {a b : Int} (h1 : -2147483648 ≤ a) (h2 : a < 2147483648) (h3 : -2147483648 ≤ b) (h4 : b < 2147483648) : S_X13_isCell (z a) (z b) D = some (0, some (.int (z (bz (0 ≤ cellZ a b)))), D) := by
  unfold S_X13_isCell cellZ
  simp (disch := omega) only [z_add, z_sub, z_mul, z_neg, ite_T, ite_F, zl_0, zl_1, zl_2, zl_3, zl_4, zl_5, zl_6, zl_7, zl_8, zl_9, zl_10, zl_11, zl_12, zl_13, zl_14, zl_15, zl_16, zl_17, zl_18, zl_19, zl_20, zl_21, zl_22, zl_23, zl_24, zl_25, zl_26, zl_27, zl_28, zl_29, zl_30, zl_31, zl_32, zl_33, zl_34, zl_35, zl_36, zl_37, zl_38, zl_39, zl_40, zl_41, zl_42, zl_43, zl_44, zl_45, zl_46, zl_47, zl_48, zl_49, zl_50, zl_51, zl_52, zl_53, zl_54, zl_55, zl_56, zl_57, zl_58, zl_59, zl_60, zl_61, zl_62, zl_63, zl_64, zl_97, zl_99, zl_100, zl_126, zl_255, zl_434, zl_496, zl_1000000, zl_100000, z_lt, z_le, z_eq, inB_z, z_div, m_isIn, Int.reduceToNat, Wp_some, Nx_l, Nx_r, cI_i, cV_v, cL_l, ite_t, ite_f, z_nn, toNat_c, bz_e0]
  by_cases ha : 0 ≤ a ∧ a ≤ 5
  · rw [if_neg (by simpa using ha)]
    by_cases hb : 0 ≤ b ∧ b ≤ 5
    · rw [if_neg (by simpa using hb), if_pos (by omega), bz_t (by omega)]
    · rw [if_pos (by simpa using hb), if_neg (by omega), bz_f (by omega)]
  · rw [if_pos (by simpa using ha), if_neg (by omega), bz_f (by omega)]
theorem m_cell {a b : Int} (h : 0 ≤ cellZ a b) : S_X13_cell (z a) (z b) D = some (0, some (.int (z (cellZ a b))), D) := by
  unfold cellZ at h ⊢
  unfold S_X13_cell
  split at h
  · rename_i hc
    rw [if_pos hc]
    simp only [z_add, z_sub, z_mul, z_neg, ite_T, ite_F, zl_0, zl_1, zl_2, zl_3, zl_4, zl_5, zl_6, zl_7, zl_8, zl_9, zl_10, zl_11, zl_12, zl_13, zl_14, zl_15, zl_16, zl_17, zl_18, zl_19, zl_20, zl_21, zl_22, zl_23, zl_24, zl_25, zl_26, zl_27, zl_28, zl_29, zl_30, zl_31, zl_32, zl_33, zl_34, zl_35, zl_36, zl_37, zl_38, zl_39, zl_40, zl_41, zl_42, zl_43, zl_44, zl_45, zl_46, zl_47, zl_48, zl_49, zl_50, zl_51, zl_52, zl_53, zl_54, zl_55, zl_56, zl_57, zl_58, zl_59, zl_60, zl_61, zl_62, zl_63, zl_64, zl_97, zl_99, zl_100, zl_126, zl_255, zl_434, zl_496, zl_1000000, zl_100000]
  · omega
theorem m_hard (hM : MR D v) {c : Nat} (hc : c < 36) : S_X13_hard (z c) D = some (0, some (.int (z (v (4 + c)))), D) := by
  have hh := hM (4 + c) (by omega)
  unfold S_X13_hard
  simp (disch := omega) only [z_add, z_sub, z_mul, z_neg, ite_T, ite_F, zl_0, zl_1, zl_2, zl_3, zl_4, zl_5, zl_6, zl_7, zl_8, zl_9, zl_10, zl_11, zl_12, zl_13, zl_14, zl_15, zl_16, zl_17, zl_18, zl_19, zl_20, zl_21, zl_22, zl_23, zl_24, zl_25, zl_26, zl_27, zl_28, zl_29, zl_30, zl_31, zl_32, zl_33, zl_34, zl_35, zl_36, zl_37, zl_38, zl_39, zl_40, zl_41, zl_42, zl_43, zl_44, zl_45, zl_46, zl_47, zl_48, zl_49, zl_50, zl_51, zl_52, zl_53, zl_54, zl_55, zl_56, zl_57, zl_58, zl_59, zl_60, zl_61, zl_62, zl_63, zl_64, zl_97, zl_99, zl_100, zl_126, zl_255, zl_434, zl_496, zl_1000000, zl_100000, z_lt, z_le, z_eq, inB_z, z_div, Int.reduceToNat, Wp_some, Nx_l, Nx_r, cI_i, cV_v, cL_l, ite_t, ite_f, z_nn, toNat_c, bz_e0]
  rw [show ((4 : Int) + c).toNat = 4 + c by omega, hh]
theorem m_placeOf (hM : MR D v) {n : Nat} (hn : n < 6) : S_X13_placeOf (z n) D = some (0, some (.int (z (v (40 + 2 * n)))), D) := by
  have hh := hM (40 + 2 * n) (by omega)
  unfold S_X13_placeOf
  simp (disch := omega) only [z_add, z_sub, z_mul, z_neg, ite_T, ite_F, zl_0, zl_1, zl_2, zl_3, zl_4, zl_5, zl_6, zl_7, zl_8, zl_9, zl_10, zl_11, zl_12, zl_13, zl_14, zl_15, zl_16, zl_17, zl_18, zl_19, zl_20, zl_21, zl_22, zl_23, zl_24, zl_25, zl_26, zl_27, zl_28, zl_29, zl_30, zl_31, zl_32, zl_33, zl_34, zl_35, zl_36, zl_37, zl_38, zl_39, zl_40, zl_41, zl_42, zl_43, zl_44, zl_45, zl_46, zl_47, zl_48, zl_49, zl_50, zl_51, zl_52, zl_53, zl_54, zl_55, zl_56, zl_57, zl_58, zl_59, zl_60, zl_61, zl_62, zl_63, zl_64, zl_97, zl_99, zl_100, zl_126, zl_255, zl_434, zl_496, zl_1000000, zl_100000, z_lt, z_le, z_eq, inB_z, z_div, Int.reduceToNat, Wp_some, Nx_l, Nx_r, cI_i, cV_v, cL_l, ite_t, ite_f, z_nn, toNat_c, bz_e0]
  rw [show ((40 : Int) + 2 * n).toNat = 40 + 2 * n by omega, hh]
theorem m_strength (hM : MR D v) {n : Nat} (hn : n < 6) : S_X13_strength (z n) D = some (0, some (.int (z (v (41 + 2 * n)))), D) := by
  have hh := hM (41 + 2 * n) (by omega)
  unfold S_X13_strength
  simp (disch := omega) only [z_add, z_sub, z_mul, z_neg, ite_T, ite_F, zl_0, zl_1, zl_2, zl_3, zl_4, zl_5, zl_6, zl_7, zl_8, zl_9, zl_10, zl_11, zl_12, zl_13, zl_14, zl_15, zl_16, zl_17, zl_18, zl_19, zl_20, zl_21, zl_22, zl_23, zl_24, zl_25, zl_26, zl_27, zl_28, zl_29, zl_30, zl_31, zl_32, zl_33, zl_34, zl_35, zl_36, zl_37, zl_38, zl_39, zl_40, zl_41, zl_42, zl_43, zl_44, zl_45, zl_46, zl_47, zl_48, zl_49, zl_50, zl_51, zl_52, zl_53, zl_54, zl_55, zl_56, zl_57, zl_58, zl_59, zl_60, zl_61, zl_62, zl_63, zl_64, zl_97, zl_99, zl_100, zl_126, zl_255, zl_434, zl_496, zl_1000000, zl_100000, z_lt, z_le, z_eq, inB_z, z_div, Int.reduceToNat, Wp_some, Nx_l, Nx_r, cI_i, cV_v, cL_l, ite_t, ite_f, z_nn, toNat_c, bz_e0]
  rw [show ((40 : Int) + 2 * n + 1).toNat = 41 + 2 * n by omega, hh]
theorem m_apart {a b : Nat} (ha : a < 36) (hb : b < 36) : S_X13_apart (z a) (z b) D = some (0, some (.int (z (dist a b))), D) := by
  unfold S_X13_apart
  simp (disch := omega) only [z_add, z_sub, z_mul, z_neg, ite_T, ite_F, zl_0, zl_1, zl_2, zl_3, zl_4, zl_5, zl_6, zl_7, zl_8, zl_9, zl_10, zl_11, zl_12, zl_13, zl_14, zl_15, zl_16, zl_17, zl_18, zl_19, zl_20, zl_21, zl_22, zl_23, zl_24, zl_25, zl_26, zl_27, zl_28, zl_29, zl_30, zl_31, zl_32, zl_33, zl_34, zl_35, zl_36, zl_37, zl_38, zl_39, zl_40, zl_41, zl_42, zl_43, zl_44, zl_45, zl_46, zl_47, zl_48, zl_49, zl_50, zl_51, zl_52, zl_53, zl_54, zl_55, zl_56, zl_57, zl_58, zl_59, zl_60, zl_61, zl_62, zl_63, zl_64, zl_97, zl_99, zl_100, zl_126, zl_255, zl_434, zl_496, zl_1000000, zl_100000, z_lt, z_le, z_eq, inB_z, z_div]
  split <;> split <;> (refine zcong ?_; unfold dist; omega)
/-- the reference's neighbour: above, below, west, east; below 0 if there is none -/
def nbM (c d : Nat) : Int := if d = 0 then (c : Int) - 6 else if d = 1 then (if c + 6 < 36 then (c : Int) + 6 else -1) else if d = 2 then (if 0 < c % 6 then (c : Int) - 1 else -1) else (if c % 6 < 5 then (c : Int) + 1 else -1)
theorem nbM_0 (c : Nat) : nbM c 0 = (c : Int) - 6 := rfl
theorem nbM_1 (c : Nat) : nbM c 1 = if c + 6 < 36 then (c : Int) + 6 else -1 := rfl
theorem nbM_2 (c : Nat) : nbM c 2 = if 0 < c % 6 then (c : Int) - 1 else -1 := rfl
theorem nbM_3 (c : Nat) : nbM c 3 = if c % 6 < 5 then (c : Int) + 1 else -1 := rfl
theorem m_beside {c d : Nat} (hc : c < 36) (hd : d < 4) : S_X13_beside (z c) (z d) D = some (0, some (.int (z (nbM c d))), D) := by
  have e6 : (c : Int) - (c : Int) / 6 * 6 = c % 6 := by omega
  have hd' : d = 0 ∨ d = 1 ∨ d = 2 ∨ d = 3 := by omega
  rcases hd' with rfl | rfl | rfl | rfl
  · rw [nbM_0]
    unfold S_X13_beside
    simp (disch := omega) only [z_add, z_sub, z_mul, z_neg, ite_T, ite_F, zl_0, zl_1, zl_2, zl_3, zl_4, zl_5, zl_6, zl_7, zl_8, zl_9, zl_10, zl_11, zl_12, zl_13, zl_14, zl_15, zl_16, zl_17, zl_18, zl_19, zl_20, zl_21, zl_22, zl_23, zl_24, zl_25, zl_26, zl_27, zl_28, zl_29, zl_30, zl_31, zl_32, zl_33, zl_34, zl_35, zl_36, zl_37, zl_38, zl_39, zl_40, zl_41, zl_42, zl_43, zl_44, zl_45, zl_46, zl_47, zl_48, zl_49, zl_50, zl_51, zl_52, zl_53, zl_54, zl_55, zl_56, zl_57, zl_58, zl_59, zl_60, zl_61, zl_62, zl_63, zl_64, zl_97, zl_99, zl_100, zl_126, zl_255, zl_434, zl_496, zl_1000000, zl_100000, z_lt, z_le, z_eq, inB_z, z_div, e6, ite_t, ite_f]
  · rw [nbM_1]
    unfold S_X13_beside
    simp (disch := omega) only [z_add, z_sub, z_mul, z_neg, ite_T, ite_F, zl_0, zl_1, zl_2, zl_3, zl_4, zl_5, zl_6, zl_7, zl_8, zl_9, zl_10, zl_11, zl_12, zl_13, zl_14, zl_15, zl_16, zl_17, zl_18, zl_19, zl_20, zl_21, zl_22, zl_23, zl_24, zl_25, zl_26, zl_27, zl_28, zl_29, zl_30, zl_31, zl_32, zl_33, zl_34, zl_35, zl_36, zl_37, zl_38, zl_39, zl_40, zl_41, zl_42, zl_43, zl_44, zl_45, zl_46, zl_47, zl_48, zl_49, zl_50, zl_51, zl_52, zl_53, zl_54, zl_55, zl_56, zl_57, zl_58, zl_59, zl_60, zl_61, zl_62, zl_63, zl_64, zl_97, zl_99, zl_100, zl_126, zl_255, zl_434, zl_496, zl_1000000, zl_100000, z_lt, z_le, z_eq, inB_z, z_div, e6, ite_t, ite_f]
    by_cases h : c + 6 < 36
    · rw [if_pos h, if_neg (by omega)]
    · rw [if_neg h, if_pos (by omega)]
  · rw [nbM_2]
    unfold S_X13_beside
    simp (disch := omega) only [z_add, z_sub, z_mul, z_neg, ite_T, ite_F, zl_0, zl_1, zl_2, zl_3, zl_4, zl_5, zl_6, zl_7, zl_8, zl_9, zl_10, zl_11, zl_12, zl_13, zl_14, zl_15, zl_16, zl_17, zl_18, zl_19, zl_20, zl_21, zl_22, zl_23, zl_24, zl_25, zl_26, zl_27, zl_28, zl_29, zl_30, zl_31, zl_32, zl_33, zl_34, zl_35, zl_36, zl_37, zl_38, zl_39, zl_40, zl_41, zl_42, zl_43, zl_44, zl_45, zl_46, zl_47, zl_48, zl_49, zl_50, zl_51, zl_52, zl_53, zl_54, zl_55, zl_56, zl_57, zl_58, zl_59, zl_60, zl_61, zl_62, zl_63, zl_64, zl_97, zl_99, zl_100, zl_126, zl_255, zl_434, zl_496, zl_1000000, zl_100000, z_lt, z_le, z_eq, inB_z, z_div, e6, ite_t, ite_f]
    by_cases h : 0 < c % 6
    · rw [if_pos h, if_neg (by omega)]
    · rw [if_neg h, if_pos (by omega)]
  · rw [nbM_3]
    unfold S_X13_beside
    simp (disch := omega) only [z_add, z_sub, z_mul, z_neg, ite_T, ite_F, zl_0, zl_1, zl_2, zl_3, zl_4, zl_5, zl_6, zl_7, zl_8, zl_9, zl_10, zl_11, zl_12, zl_13, zl_14, zl_15, zl_16, zl_17, zl_18, zl_19, zl_20, zl_21, zl_22, zl_23, zl_24, zl_25, zl_26, zl_27, zl_28, zl_29, zl_30, zl_31, zl_32, zl_33, zl_34, zl_35, zl_36, zl_37, zl_38, zl_39, zl_40, zl_41, zl_42, zl_43, zl_44, zl_45, zl_46, zl_47, zl_48, zl_49, zl_50, zl_51, zl_52, zl_53, zl_54, zl_55, zl_56, zl_57, zl_58, zl_59, zl_60, zl_61, zl_62, zl_63, zl_64, zl_97, zl_99, zl_100, zl_126, zl_255, zl_434, zl_496, zl_1000000, zl_100000, z_lt, z_le, z_eq, inB_z, z_div, e6, ite_t, ite_f]
    by_cases h : c % 6 < 5
    · rw [if_pos h, if_neg (by omega)]
    · rw [if_neg h, if_pos (by omega)]
theorem nbM_lo {c d : Nat} (hc : c < 36) (hd : d < 4) : -6 ≤ nbM c d ∧ nbM c d < 36 := by
  have hd' : d = 0 ∨ d = 1 ∨ d = 2 ∨ d = 3 := by omega
  rcases hd' with rfl | rfl | rfl | rfl
  · rw [nbM_0]
    omega
  · rw [nbM_1]
    split <;> omega
  · rw [nbM_2]
    split <;> omega
  · rw [nbM_3]
    split <;> omega
/-- cells beside each other -/
def adj (a b : Nat) : Prop := a + 6 = b ∨ b + 6 = a ∨ (a + 1 = b ∧ a % 6 < 5) ∨ (b + 1 = a ∧ b % 6 < 5)
theorem nbM_adj {c b : Nat} (hc : c < 36) (hb : b < 36) : (∃ d, d < 4 ∧ nbM c d = b) ↔ adj c b := by
  unfold adj
  constructor
  · rintro ⟨d, hd, h⟩
    have hd' : d = 0 ∨ d = 1 ∨ d = 2 ∨ d = 3 := by omega
    rcases hd' with rfl | rfl | rfl | rfl <;> simp [nbM] at h <;> (try split at h) <;> omega
  · rintro (h | h | ⟨h, h2⟩ | ⟨h, h2⟩)
    · exact ⟨1, by omega, by simp [nbM]; omega⟩
    · exact ⟨0, by omega, by simp [nbM]; omega⟩
    · exact ⟨3, by omega, by simp [nbM]; omega⟩
    · exact ⟨2, by omega, by simp [nbM]; omega⟩
theorem nbC_adj {c b : Nat} (hc : c < 36) (hb : b < 36) : (∃ d, d < 4 ∧ nbC c d = b) ↔ adj c b := by
  unfold adj
  constructor
  · rintro ⟨d, hd, h⟩
    have hd' : d = 0 ∨ d = 1 ∨ d = 2 ∨ d = 3 := by omega
    rcases hd' with rfl | rfl | rfl | rfl <;> simp [nbC, cellZ] at h <;> (try split at h) <;> omega
  · rintro (h | h | ⟨h, h2⟩ | ⟨h, h2⟩)
    · exact ⟨2, by omega, by simp [nbC, cellZ]; omega⟩
    · exact ⟨0, by omega, by simp [nbC, cellZ]; omega⟩
    · exact ⟨1, by omega, by simp [nbC, cellZ]; omega⟩
    · exact ⟨3, by omega, by simp [nbC, cellZ]; omega⟩
theorem m_opened (hM : MR D v) (hW : WF v) : S_X13_opened D = some (0, some (.int (z (openN v))), D) := by
  unfold S_X13_opened
  refine RunP.eqn (c := 100) ?_ (by decide)
  refine RunP.go ?_
  show Wp (b_X13_opened_0 _) _
  unfold b_X13_opened_0
  simp only [Int.reduceToNat, Wp_some, Nx_l, Nx_r, cI_i, cV_v, cL_l, ite_t, ite_f, z_nn, toNat_c, bz_e0, z_add, z_sub, z_mul, z_neg, ite_T, ite_F, zl_0, zl_1, zl_2, zl_3, zl_4, zl_5, zl_6, zl_7, zl_8, zl_9, zl_10, zl_11, zl_12, zl_13, zl_14, zl_15, zl_16, zl_17, zl_18, zl_19, zl_20, zl_21, zl_22, zl_23, zl_24, zl_25, zl_26, zl_27, zl_28, zl_29, zl_30, zl_31, zl_32, zl_33, zl_34, zl_35, zl_36, zl_37, zl_38, zl_39, zl_40, zl_41, zl_42, zl_43, zl_44, zl_45, zl_46, zl_47, zl_48, zl_49, zl_50, zl_51, zl_52, zl_53, zl_54, zl_55, zl_56, zl_57, zl_58, zl_59, zl_60, zl_61, zl_62, zl_63, zl_64, zl_97, zl_99, zl_100, zl_126, zl_255, zl_434, zl_496, zl_1000000, zl_100000]
  refine RunP.loop (fun i ls D' => ls = [z (cnt (fun c => decide (v (4 + c) = 0)) i), z i] ∧ D' = D) 36 1 1 ?_ ?_ 0 _ _ (by omega) ⟨rfl, rfl⟩ (by omega)
  · rintro i ls D' c hi ⟨rfl, rfl⟩ hk
    have h9 := hW.1 i hi
    refine RunP.go ?_
    show Wp (b_X13_opened_1 _ _ _) _
    unfold b_X13_opened_1
    simp (disch := omega) only [z_add, z_sub, z_mul, z_neg, ite_T, ite_F, zl_0, zl_1, zl_2, zl_3, zl_4, zl_5, zl_6, zl_7, zl_8, zl_9, zl_10, zl_11, zl_12, zl_13, zl_14, zl_15, zl_16, zl_17, zl_18, zl_19, zl_20, zl_21, zl_22, zl_23, zl_24, zl_25, zl_26, zl_27, zl_28, zl_29, zl_30, zl_31, zl_32, zl_33, zl_34, zl_35, zl_36, zl_37, zl_38, zl_39, zl_40, zl_41, zl_42, zl_43, zl_44, zl_45, zl_46, zl_47, zl_48, zl_49, zl_50, zl_51, zl_52, zl_53, zl_54, zl_55, zl_56, zl_57, zl_58, zl_59, zl_60, zl_61, zl_62, zl_63, zl_64, zl_97, zl_99, zl_100, zl_126, zl_255, zl_434, zl_496, zl_1000000, zl_100000, z_lt, z_le, z_eq, inB_z, z_div, Int.reduceToNat, Wp_some, Nx_l, Nx_r, cI_i, cV_v, cL_l, ite_t, ite_f, z_nn, toNat_c, bz_e0, m_hard hM hi]
    split
    · rename_i h
      rw [Wp_some, Nx_l]
      refine hk _ _ ⟨?_, rfl⟩
      rw [cnt, if_pos (by simp; omega)]
      rfl
    · rename_i h
      rw [Wp_some, Nx_l]
      refine hk _ _ ⟨?_, rfl⟩
      rw [cnt, if_neg (by simp; omega)]
      simp
  · rintro ls D' ⟨rfl, rfl⟩
    refine RunP.go ?_
    show Wp (b_X13_opened_1 _ _ _) _
    unfold b_X13_opened_1
    simp (disch := omega) only [z_add, z_sub, z_mul, z_neg, ite_T, ite_F, zl_0, zl_1, zl_2, zl_3, zl_4, zl_5, zl_6, zl_7, zl_8, zl_9, zl_10, zl_11, zl_12, zl_13, zl_14, zl_15, zl_16, zl_17, zl_18, zl_19, zl_20, zl_21, zl_22, zl_23, zl_24, zl_25, zl_26, zl_27, zl_28, zl_29, zl_30, zl_31, zl_32, zl_33, zl_34, zl_35, zl_36, zl_37, zl_38, zl_39, zl_40, zl_41, zl_42, zl_43, zl_44, zl_45, zl_46, zl_47, zl_48, zl_49, zl_50, zl_51, zl_52, zl_53, zl_54, zl_55, zl_56, zl_57, zl_58, zl_59, zl_60, zl_61, zl_62, zl_63, zl_64, zl_97, zl_99, zl_100, zl_126, zl_255, zl_434, zl_496, zl_1000000, zl_100000, z_lt, z_le, z_eq, inB_z, z_div, Int.reduceToNat, Wp_some, Nx_l, Nx_r, cI_i, cV_v, cL_l, ite_t, ite_f, z_nn, toNat_c, bz_e0]
    rfl
theorem m_isCharge (hM : MR D v) (hW : WF v) {a : Int} (h1 : -2147483648 ≤ a) (h2 : a < 2147483648) : S_X13_isCharge (z a) D = some (0, some (.int (z (bz (0 ≤ a ∧ a < v 3)))), D) := by
  have h6 := hW.2.1
  have h3 := hM 3 (by omega)
  unfold S_X13_isCharge
  have e3 : (3 : Int32).toNatClampNeg = 3 := by decide
  simp (disch := omega) only [e3, h3, z_add, z_sub, z_mul, z_neg, ite_T, ite_F, zl_0, zl_1, zl_2, zl_3, zl_4, zl_5, zl_6, zl_7, zl_8, zl_9, zl_10, zl_11, zl_12, zl_13, zl_14, zl_15, zl_16, zl_17, zl_18, zl_19, zl_20, zl_21, zl_22, zl_23, zl_24, zl_25, zl_26, zl_27, zl_28, zl_29, zl_30, zl_31, zl_32, zl_33, zl_34, zl_35, zl_36, zl_37, zl_38, zl_39, zl_40, zl_41, zl_42, zl_43, zl_44, zl_45, zl_46, zl_47, zl_48, zl_49, zl_50, zl_51, zl_52, zl_53, zl_54, zl_55, zl_56, zl_57, zl_58, zl_59, zl_60, zl_61, zl_62, zl_63, zl_64, zl_97, zl_99, zl_100, zl_126, zl_255, zl_434, zl_496, zl_1000000, zl_100000, z_lt, z_le, z_eq, inB_z, z_div, m_isIn, Int.reduceToNat, Wp_some, Nx_l, Nx_r, cI_i, cV_v, cL_l, ite_t, ite_f, z_nn, toNat_c, bz_e0]
  have e : bz (0 ≤ a ∧ a ≤ (v 3 : Int) - 1) = bz (0 ≤ a ∧ a < v 3) := by
    by_cases h : 0 ≤ a ∧ a < v 3
    · rw [bz_t h, bz_t (by omega)]
    · rw [bz_f h, bz_f (by omega)]
  rw [e]
  by_cases h : 0 ≤ a ∧ a < v 3
  · rw [bz_t h, na_1, if_pos rfl]
  · rw [bz_f h, na_0, if_pos rfl]
theorem m_chargeIn (hM : MR D v) (hW : WF v) {c : Nat} (hc : c < 36) : ∃ a : Int, S_X13_chargeIn (z c) D = some (0, some (.int (z a)), D) ∧ -1 ≤ a ∧ a < 6 ∧ (0 ≤ a ↔ chdB v c = true) := by
  have h6 := hW.2.1
  have h3 := hM 3 (by omega)
  have e3 : (3 : Int32).toNatClampNeg = 3 := by decide
  have key : ∃ r, run T_X13_chargeIn FUEL 0 [z c] D = some r ∧ ∃ a : Int, r = (0, some (.int (z a)), D) ∧ -1 ≤ a ∧ a < 6 ∧ (0 ≤ a ↔ chdB v c = true) := by
    refine RunP.fin (c := 100) ?_ (by decide)
    refine RunP.go ?_
    show Wp (b_X13_chargeIn_0 _ _) _
    unfold b_X13_chargeIn_0
    simp only [Int.reduceToNat, Wp_some, Nx_l, Nx_r, cI_i, cV_v, cL_l, ite_t, ite_f, z_nn, toNat_c, bz_e0, z_add, z_sub, z_mul, z_neg, ite_T, ite_F, zl_0, zl_1, zl_2, zl_3, zl_4, zl_5, zl_6, zl_7, zl_8, zl_9, zl_10, zl_11, zl_12, zl_13, zl_14, zl_15, zl_16, zl_17, zl_18, zl_19, zl_20, zl_21, zl_22, zl_23, zl_24, zl_25, zl_26, zl_27, zl_28, zl_29, zl_30, zl_31, zl_32, zl_33, zl_34, zl_35, zl_36, zl_37, zl_38, zl_39, zl_40, zl_41, zl_42, zl_43, zl_44, zl_45, zl_46, zl_47, zl_48, zl_49, zl_50, zl_51, zl_52, zl_53, zl_54, zl_55, zl_56, zl_57, zl_58, zl_59, zl_60, zl_61, zl_62, zl_63, zl_64, zl_97, zl_99, zl_100, zl_126, zl_255, zl_434, zl_496, zl_1000000, zl_100000]
    refine RunP.loop (fun i ls D' => ls = [z c, z i] ∧ D' = D ∧ ∀ n, n < i → v (40 + 2 * n) ≠ c) (v 3) 1 1 ?_ ?_ 0 _ _ (by omega) ⟨rfl, rfl, fun n h => by omega⟩ (by omega)
    · rintro i ls D' c' hi ⟨rfl, rfl, hn⟩ hk
      have hh := hW.2.2.1 i hi
      refine RunP.go ?_
      show Wp (b_X13_chargeIn_1 _ _ _) _
      unfold b_X13_chargeIn_1
      simp (disch := omega) only [e3, h3, z_add, z_sub, z_mul, z_neg, ite_T, ite_F, zl_0, zl_1, zl_2, zl_3, zl_4, zl_5, zl_6, zl_7, zl_8, zl_9, zl_10, zl_11, zl_12, zl_13, zl_14, zl_15, zl_16, zl_17, zl_18, zl_19, zl_20, zl_21, zl_22, zl_23, zl_24, zl_25, zl_26, zl_27, zl_28, zl_29, zl_30, zl_31, zl_32, zl_33, zl_34, zl_35, zl_36, zl_37, zl_38, zl_39, zl_40, zl_41, zl_42, zl_43, zl_44, zl_45, zl_46, zl_47, zl_48, zl_49, zl_50, zl_51, zl_52, zl_53, zl_54, zl_55, zl_56, zl_57, zl_58, zl_59, zl_60, zl_61, zl_62, zl_63, zl_64, zl_97, zl_99, zl_100, zl_126, zl_255, zl_434, zl_496, zl_1000000, zl_100000, z_lt, z_le, z_eq, inB_z, z_div, Int.reduceToNat, Wp_some, Nx_l, Nx_r, cI_i, cV_v, cL_l, ite_t, ite_f, z_nn, toNat_c, bz_e0, m_placeOf hM (show i < 6 by omega)]
      split
      · rename_i h
        rw [Wp_some, Nx_r]
        exact ⟨i, rfl, by omega, by omega, ⟨fun _ => (chdB_iff v c).mpr ⟨i, hi, by omega⟩, fun _ => by omega⟩⟩
      · rename_i h
        rw [Wp_some, Nx_l]
        refine hk _ _ ⟨rfl, rfl, fun n h' => ?_⟩
        by_cases e : n = i
        · subst e
          omega
        · exact hn n (by omega)
    · rintro ls D' ⟨rfl, rfl, hn⟩
      refine RunP.go ?_
      show Wp (b_X13_chargeIn_1 _ _ _) _
      unfold b_X13_chargeIn_1
      simp (disch := omega) only [e3, h3, z_add, z_sub, z_mul, z_neg, ite_T, ite_F, zl_0, zl_1, zl_2, zl_3, zl_4, zl_5, zl_6, zl_7, zl_8, zl_9, zl_10, zl_11, zl_12, zl_13, zl_14, zl_15, zl_16, zl_17, zl_18, zl_19, zl_20, zl_21, zl_22, zl_23, zl_24, zl_25, zl_26, zl_27, zl_28, zl_29, zl_30, zl_31, zl_32, zl_33, zl_34, zl_35, zl_36, zl_37, zl_38, zl_39, zl_40, zl_41, zl_42, zl_43, zl_44, zl_45, zl_46, zl_47, zl_48, zl_49, zl_50, zl_51, zl_52, zl_53, zl_54, zl_55, zl_56, zl_57, zl_58, zl_59, zl_60, zl_61, zl_62, zl_63, zl_64, zl_97, zl_99, zl_100, zl_126, zl_255, zl_434, zl_496, zl_1000000, zl_100000, z_lt, z_le, z_eq, inB_z, z_div, Int.reduceToNat, Wp_some, Nx_l, Nx_r, cI_i, cV_v, cL_l, ite_t, ite_f, z_nn, toNat_c, bz_e0]
      refine ⟨-1, rfl, by omega, by omega, ⟨fun h => by omega, fun h => ?_⟩⟩
      obtain ⟨n, h1, h2⟩ := (chdB_iff v c).mp h
      exact absurd h2 (hn n h1)
  obtain ⟨r, h1, a, rfl, h2⟩ := key
  exact ⟨a, h1, h2⟩
theorem rchB_iff (v : Nat → Nat) {c : Nat} (hc : c < 36) : rchB v c = true ↔ c % 6 = 0 ∨ ∃ b, b < 36 ∧ adj c b ∧ v (4 + b) = 0 := by
  unfold rchB
  rw [Bool.or_eq_true, decide_eq_true_eq, List.any_eq_true]
  constructor
  · rintro (h | ⟨d, h1, h2⟩)
    · exact Or.inl h
    · rw [Bool.and_eq_true, decide_eq_true_eq, decide_eq_true_eq] at h2
      have h3 := nbC_hi c d
      have hb : (nbC c d).toNat < 36 := by omega
      exact Or.inr ⟨(nbC c d).toNat, hb, (nbC_adj hc hb).mp ⟨d, List.mem_range.mp h1, by omega⟩, h2.2⟩
  · rintro (h | ⟨b, h1, h2, h3⟩)
    · exact Or.inl h
    · obtain ⟨d, h4, h5⟩ := (nbC_adj hc h1).mpr h2
      refine Or.inr ⟨d, List.mem_range.mpr h4, ?_⟩
      rw [Bool.and_eq_true, decide_eq_true_eq, decide_eq_true_eq, h5]
      exact ⟨by omega, h3⟩
theorem m_canReach (hM : MR D v) (hW : WF v) {c : Nat} (hc : c < 36) : S_X13_canReach (z c) D = some (0, some (.int (z (bz (rchB v c = true)))), D) := by
  unfold S_X13_canReach
  refine RunP.eqn (c := 100) ?_ (by decide)
  refine RunP.go ?_
  show Wp (b_X13_canReach_0 _ _) _
  unfold b_X13_canReach_0
  simp (disch := omega) only [Int.reduceToNat, Wp_some, Nx_l, Nx_r, cI_i, cV_v, cL_l, ite_t, ite_f, z_nn, toNat_c, bz_e0, z_add, z_sub, z_mul, z_neg, ite_T, ite_F, zl_0, zl_1, zl_2, zl_3, zl_4, zl_5, zl_6, zl_7, zl_8, zl_9, zl_10, zl_11, zl_12, zl_13, zl_14, zl_15, zl_16, zl_17, zl_18, zl_19, zl_20, zl_21, zl_22, zl_23, zl_24, zl_25, zl_26, zl_27, zl_28, zl_29, zl_30, zl_31, zl_32, zl_33, zl_34, zl_35, zl_36, zl_37, zl_38, zl_39, zl_40, zl_41, zl_42, zl_43, zl_44, zl_45, zl_46, zl_47, zl_48, zl_49, zl_50, zl_51, zl_52, zl_53, zl_54, zl_55, zl_56, zl_57, zl_58, zl_59, zl_60, zl_61, zl_62, zl_63, zl_64, zl_97, zl_99, zl_100, zl_126, zl_255, zl_434, zl_496, zl_1000000, zl_100000, z_lt, z_le, z_eq, inB_z, z_div]
  split
  · rename_i h
    rw [Wp_some, Nx_r, bz_t ((rchB_iff v hc).mpr (Or.inl (by omega)))]
  rename_i h0
  rw [Wp_some, Nx_l]
  refine RunP.loop (fun i ls D' => ls = [z c, z i] ∧ D' = D ∧ ∀ d, d < i → ¬ (0 ≤ nbM c d ∧ v (4 + (nbM c d).toNat) = 0)) 4 1 1 ?_ ?_ 0 _ _ (by omega) ⟨rfl, rfl, fun n h => by omega⟩ (by omega)
  · rintro i ls D' c' hi ⟨rfl, rfl, hn⟩ hk
    obtain ⟨h1, h2⟩ := nbM_lo hc hi
    refine RunP.go ?_
    show Wp (b_X13_canReach_1 _ _ _) _
    unfold b_X13_canReach_1
    simp (disch := omega) only [z_add, z_sub, z_mul, z_neg, ite_T, ite_F, zl_0, zl_1, zl_2, zl_3, zl_4, zl_5, zl_6, zl_7, zl_8, zl_9, zl_10, zl_11, zl_12, zl_13, zl_14, zl_15, zl_16, zl_17, zl_18, zl_19, zl_20, zl_21, zl_22, zl_23, zl_24, zl_25, zl_26, zl_27, zl_28, zl_29, zl_30, zl_31, zl_32, zl_33, zl_34, zl_35, zl_36, zl_37, zl_38, zl_39, zl_40, zl_41, zl_42, zl_43, zl_44, zl_45, zl_46, zl_47, zl_48, zl_49, zl_50, zl_51, zl_52, zl_53, zl_54, zl_55, zl_56, zl_57, zl_58, zl_59, zl_60, zl_61, zl_62, zl_63, zl_64, zl_97, zl_99, zl_100, zl_126, zl_255, zl_434, zl_496, zl_1000000, zl_100000, z_lt, z_le, z_eq, inB_z, z_div, Int.reduceToNat, Wp_some, Nx_l, Nx_r, cI_i, cV_v, cL_l, ite_t, ite_f, z_nn, toNat_c, bz_e0, m_beside hc hi]
    split
    · rename_i h
      rw [Wp_some, Nx_l]
      refine hk _ _ ⟨rfl, rfl, fun n h' => ?_⟩
      by_cases e : n = i
      · subst e
        omega
      · exact hn n (by omega)
    · rename_i h
      obtain ⟨b, hb⟩ := Int.eq_ofNat_of_zero_le (show 0 ≤ nbM c i by omega)
      rw [hb] at h1 h2
      have h9 := hW.1 b (by omega)
      rw [hb]
      simp (disch := omega) only [z_add, z_sub, z_mul, z_neg, ite_T, ite_F, zl_0, zl_1, zl_2, zl_3, zl_4, zl_5, zl_6, zl_7, zl_8, zl_9, zl_10, zl_11, zl_12, zl_13, zl_14, zl_15, zl_16, zl_17, zl_18, zl_19, zl_20, zl_21, zl_22, zl_23, zl_24, zl_25, zl_26, zl_27, zl_28, zl_29, zl_30, zl_31, zl_32, zl_33, zl_34, zl_35, zl_36, zl_37, zl_38, zl_39, zl_40, zl_41, zl_42, zl_43, zl_44, zl_45, zl_46, zl_47, zl_48, zl_49, zl_50, zl_51, zl_52, zl_53, zl_54, zl_55, zl_56, zl_57, zl_58, zl_59, zl_60, zl_61, zl_62, zl_63, zl_64, zl_97, zl_99, zl_100, zl_126, zl_255, zl_434, zl_496, zl_1000000, zl_100000, z_lt, z_le, z_eq, inB_z, z_div, Int.reduceToNat, Wp_some, Nx_l, Nx_r, cI_i, cV_v, cL_l, ite_t, ite_f, z_nn, toNat_c, bz_e0, m_hard hM (show b < 36 by omega)]
      split
      · rename_i h'
        rw [Wp_some, Nx_r, bz_t ((rchB_iff v hc).mpr (Or.inr ⟨b, by omega, (nbM_adj hc (by omega)).mp ⟨i, hi, hb⟩, by omega⟩))]
      · rename_i h'
        rw [Wp_some, Nx_l]
        refine hk _ _ ⟨rfl, rfl, fun n h'' => ?_⟩
        by_cases e : n = i
        · subst e
          rw [hb]
          rintro ⟨-, q⟩
          exact h' (by rw [toNat_c] at q; omega)
        · exact hn n (by omega)
  · rintro ls D' ⟨rfl, rfl, hn⟩
    refine RunP.go ?_
    show Wp (b_X13_canReach_1 _ _ _) _
    unfold b_X13_canReach_1
    simp (disch := omega) only [z_add, z_sub, z_mul, z_neg, ite_T, ite_F, zl_0, zl_1, zl_2, zl_3, zl_4, zl_5, zl_6, zl_7, zl_8, zl_9, zl_10, zl_11, zl_12, zl_13, zl_14, zl_15, zl_16, zl_17, zl_18, zl_19, zl_20, zl_21, zl_22, zl_23, zl_24, zl_25, zl_26, zl_27, zl_28, zl_29, zl_30, zl_31, zl_32, zl_33, zl_34, zl_35, zl_36, zl_37, zl_38, zl_39, zl_40, zl_41, zl_42, zl_43, zl_44, zl_45, zl_46, zl_47, zl_48, zl_49, zl_50, zl_51, zl_52, zl_53, zl_54, zl_55, zl_56, zl_57, zl_58, zl_59, zl_60, zl_61, zl_62, zl_63, zl_64, zl_97, zl_99, zl_100, zl_126, zl_255, zl_434, zl_496, zl_1000000, zl_100000, z_lt, z_le, z_eq, inB_z, z_div, Int.reduceToNat, Wp_some, Nx_l, Nx_r, cI_i, cV_v, cL_l, ite_t, ite_f, z_nn, toNat_c, bz_e0]
    rw [bz_f]
    intro h
    rcases (rchB_iff v hc).mp h with h | ⟨b, h1, h2, h3⟩
    · omega
    · obtain ⟨d, h4, h5⟩ := (nbM_adj hc h1).mpr h2
      exact hn d h4 (by rw [h5]; exact ⟨by omega, h3⟩)
theorem m_opens (hM : MR D v) (hW : WF v) {n c : Nat} (hn : n < v 3) (hc : c < 36) : S_X13_opens (z n) (z c) D = some (0, some (.int (z (bz (0 < v (4 + c) ∧ (v (4 + c) : Int) ≤ (v (41 + 2 * n) : Int) - dist (v (40 + 2 * n)) c)))), D) := by
  have h9 := hW.1 c hc
  have h6 := hW.2.1
  have hh := hW.2.2.1 n hn
  have hd : dist (v (40 + 2 * n)) c ≤ 100 := by unfold dist; omega
  unfold S_X13_opens
  simp (disch := omega) only [z_add, z_sub, z_mul, z_neg, ite_T, ite_F, zl_0, zl_1, zl_2, zl_3, zl_4, zl_5, zl_6, zl_7, zl_8, zl_9, zl_10, zl_11, zl_12, zl_13, zl_14, zl_15, zl_16, zl_17, zl_18, zl_19, zl_20, zl_21, zl_22, zl_23, zl_24, zl_25, zl_26, zl_27, zl_28, zl_29, zl_30, zl_31, zl_32, zl_33, zl_34, zl_35, zl_36, zl_37, zl_38, zl_39, zl_40, zl_41, zl_42, zl_43, zl_44, zl_45, zl_46, zl_47, zl_48, zl_49, zl_50, zl_51, zl_52, zl_53, zl_54, zl_55, zl_56, zl_57, zl_58, zl_59, zl_60, zl_61, zl_62, zl_63, zl_64, zl_97, zl_99, zl_100, zl_126, zl_255, zl_434, zl_496, zl_1000000, zl_100000, z_lt, z_le, z_eq, inB_z, z_div, Int.reduceToNat, Wp_some, Nx_l, Nx_r, cI_i, cV_v, cL_l, ite_t, ite_f, z_nn, toNat_c, bz_e0, m_hard hM hc, m_strength hM (show n < 6 by omega), m_placeOf hM (show n < 6 by omega), m_apart hh.1 hc]
  split
  · rw [bz_f (by omega)]
  · split
    · rw [bz_f (by omega)]
    · rw [bz_t (by omega)]
theorem bit_get : ∀ m, m < 64 → ∀ n, n < 6 → ((((z (m : Nat)) >>> ((z (n : Nat)) &&& z 31)) &&& z 1 = z 1) ↔ m.testBit n = true) := by decide +kernel
theorem bit_set : ∀ m, m < 64 → ∀ n, n < 6 → (z (m : Nat)) ||| (z 1 <<< ((z (n : Nat)) &&& z 31)) = z ((m ||| 2 ^ n : Nat)) := by decide +kernel
theorem bit_one : ∀ n, n < 6 → (z 1 <<< ((z (n : Nat)) &&& z 31)) = z ((2 ^ n : Nat)) := by decide +kernel
theorem bit_lt : ∀ m, m < 64 → ∀ n, n < 6 → m ||| 2 ^ n < 64 := by decide +kernel
end LL
