/-! pure: what a modification does, the quarry's side -/
def upv (v : Nat → Nat) (k x : Nat) : Nat → Nat := fun j => if j = k then x else v j
theorem upv_ne {v : Nat → Nat} {k x j : Nat} (h : j ≠ k) : upv v k x j = v j := if_neg h
theorem upv_same {v : Nat → Nat} {k x : Nat} : upv v k x k = x := if_pos rfl
/-- a cell gives way -/
def ogv (v : Nat → Nat) (c : Nat) : Nat → Nat := fun k => if k = 4 + c then 0 else if k = 1 then v 1 + v (4 + c) else v k
theorem ogv_ne {v : Nat → Nat} {c k : Nat} (h : k ≠ 4 + c) (h1 : k ≠ 1) : ogv v c k = v k := by unfold ogv; rw [if_neg h, if_neg h1]
theorem ogv_1 {v : Nat → Nat} {c : Nat} : ogv v c 1 = v 1 + v (4 + c) := by unfold ogv; rw [if_neg (by omega), if_pos rfl]
theorem ogv_c {v : Nat → Nat} {c : Nat} : ogv v c (4 + c) = 0 := if_pos rfl
def fHard (v : Nat → Nat) (a b h : Int) : Nat := if cellZ a b < 0 ∨ ¬ (1 ≤ h ∧ h ≤ 9) then 1 else if v (4 + (cellZ a b).toNat) = 0 then 2 else 0
def fDig (v : Nat → Nat) (a b : Int) : Nat := if cellZ a b < 0 then 1 else if v (4 + (cellZ a b).toNat) = 0 ∨ chdB v (cellZ a b).toNat = true ∨ ¬ rchB v (cellZ a b).toNat = true then 2 else if v 0 < v (4 + (cellZ a b).toNat) then 3 else 0
def fLay (v : Nat → Nat) (a b s : Int) : Nat := if cellZ a b < 0 ∨ ¬ (1 ≤ s ∧ s ≤ 9) then 1 else if 6 ≤ v 3 ∨ v (4 + (cellZ a b).toNat) = 0 ∨ chdB v (cellZ a b).toNat = true then 2 else 0
def fPrice (l p : Int) : Nat := if (1 ≤ l ∧ l ≤ 10) ∧ 0 ≤ p ∧ p ≤ 99 then 0 else 1
def fSell (v : Nat → Nat) (l : Int) : Nat := if ¬ (1 ≤ l ∧ l ≤ 30) then 1 else if (v 1 : Int) - v 2 < l then 3 else 0
theorem bz_i {p : Prop} [Decidable p] : (bz p = 0) = ¬ p := propext (by unfold bz; split <;> simp_all)
theorem zl_toInt {a : Int} (h : -2147483648 ≤ a) (h2 : a < 2147483648) : (zl a).toInt = a := Int64.toInt_ofInt_of_le (by omega) (by omega)
theorem z_l {a : Int} (h : -2147483648 ≤ a) (h2 : a < 2147483648) : (z a).toInt64 = zl a := Int64.toInt_inj.mp (by rw [Int32.toInt_toInt64, z_toInt h h2, zl_toInt h h2])
theorem zlt_l {a b : Nat} (ha : a < 2147483648) (hb : b < 2147483648) : (z 0 ≤ lg_cmp (zl (a : Nat)) (z (b : Nat)).toInt64) = ¬ (a < b) := propext (by
  rw [show z 0 = (0 : Int32) from rfl, lg_cmp_ge, z_l (by omega) (by omega), Int64.le_iff_toInt_le, zl_toInt (by omega) (by omega), zl_toInt (by omega) (by omega)]
  omega)
section LL
variable {D : DD} {v : Nat → Nat}
theorem s_faultOfHardness (hC : CS D v) (hW : WF v) {a b h : Int} (h1 : -2147483648 ≤ a) (h2 : a < 2147483648) (h3 : -2147483648 ≤ b) (h4 : b < 2147483648) (h5 : -2147483648 ≤ h) (h6 : h < 2147483648) : S_X8_faultOfHardness (z a) (z b) (z h) D = some (0, some (.int (z (fHard v a b h))), D) := by
  have hlo := cellZ_lo a b
  have hhi := cellZ_hi a b
  unfold S_X8_faultOfHardness fHard
  simp (disch := omega) only [z_add, z_sub, z_mul, z_neg, ite_T, ite_F, zl_0, zl_1, zl_2, zl_3, zl_4, zl_5, zl_6, zl_7, zl_8, zl_9, zl_10, zl_11, zl_12, zl_13, zl_14, zl_15, zl_16, zl_17, zl_18, zl_19, zl_20, zl_21, zl_22, zl_23, zl_24, zl_25, zl_26, zl_27, zl_28, zl_29, zl_30, zl_31, zl_32, zl_33, zl_34, zl_35, zl_36, zl_37, zl_38, zl_39, zl_40, zl_41, zl_42, zl_43, zl_44, zl_45, zl_46, zl_47, zl_48, zl_49, zl_50, zl_51, zl_52, zl_53, zl_54, zl_55, zl_56, zl_57, zl_58, zl_59, zl_60, zl_61, zl_62, zl_63, zl_64, zl_97, zl_99, zl_100, zl_126, zl_255, zl_434, zl_496, zl_1000000, zl_100000, z_lt, z_le, z_eq, inB_z, z_div, Int.reduceToNat, Wp_some, Nx_l, Nx_r, cI_i, cV_v, cL_l, ite_t, ite_f, z_nn, toNat_c, bz_e0, s_cellAt, s_inRange]
  by_cases hc : cellZ a b < 0
  · rw [if_pos (by omega), if_pos (Or.inl hc)]
    rfl
  · obtain ⟨c, hc2⟩ := Int.eq_ofNat_of_zero_le (show 0 ≤ cellZ a b by omega)
    rw [hc2] at hhi ⊢
    rw [if_neg (by omega)]
    by_cases hh : 1 ≤ h ∧ h ≤ 9
    · rw [if_neg (by simpa using hh), if_neg (by omega), s_openAt hC hW (by omega)]
      simp (disch := omega) only [z_add, z_sub, z_mul, z_neg, ite_T, ite_F, zl_0, zl_1, zl_2, zl_3, zl_4, zl_5, zl_6, zl_7, zl_8, zl_9, zl_10, zl_11, zl_12, zl_13, zl_14, zl_15, zl_16, zl_17, zl_18, zl_19, zl_20, zl_21, zl_22, zl_23, zl_24, zl_25, zl_26, zl_27, zl_28, zl_29, zl_30, zl_31, zl_32, zl_33, zl_34, zl_35, zl_36, zl_37, zl_38, zl_39, zl_40, zl_41, zl_42, zl_43, zl_44, zl_45, zl_46, zl_47, zl_48, zl_49, zl_50, zl_51, zl_52, zl_53, zl_54, zl_55, zl_56, zl_57, zl_58, zl_59, zl_60, zl_61, zl_62, zl_63, zl_64, zl_97, zl_99, zl_100, zl_126, zl_255, zl_434, zl_496, zl_1000000, zl_100000, z_lt, z_le, z_eq, inB_z, z_div, Int.reduceToNat, Wp_some, Nx_l, Nx_r, cI_i, cV_v, cL_l, ite_t, ite_f, z_nn, toNat_c, bz_e0]
      by_cases h0 : v (4 + c) = 0
      · rw [if_neg (by simpa using h0), if_pos h0]
        rfl
      · rw [if_pos h0, if_neg h0]
        rfl
    · rw [if_pos hh, if_pos (Or.inr hh)]
      rfl
theorem s_faultOfDigging (hC : CS D v) (hW : WF v) {a b : Int} (h1 : -2147483648 ≤ a) (h2 : a < 2147483648) (h3 : -2147483648 ≤ b) (h4 : b < 2147483648) : S_X8_faultOfDigging (z a) (z b) D = some (0, some (.int (z (fDig v a b))), D) := by
  have hlo := cellZ_lo a b
  have hhi := cellZ_hi a b
  have hop := hW.opn
  obtain ⟨w1, w2, w3, w4, w5, w6, w7⟩ := id hW
  unfold S_X8_faultOfDigging fDig
  simp (disch := omega) only [z_add, z_sub, z_mul, z_neg, ite_T, ite_F, zl_0, zl_1, zl_2, zl_3, zl_4, zl_5, zl_6, zl_7, zl_8, zl_9, zl_10, zl_11, zl_12, zl_13, zl_14, zl_15, zl_16, zl_17, zl_18, zl_19, zl_20, zl_21, zl_22, zl_23, zl_24, zl_25, zl_26, zl_27, zl_28, zl_29, zl_30, zl_31, zl_32, zl_33, zl_34, zl_35, zl_36, zl_37, zl_38, zl_39, zl_40, zl_41, zl_42, zl_43, zl_44, zl_45, zl_46, zl_47, zl_48, zl_49, zl_50, zl_51, zl_52, zl_53, zl_54, zl_55, zl_56, zl_57, zl_58, zl_59, zl_60, zl_61, zl_62, zl_63, zl_64, zl_97, zl_99, zl_100, zl_126, zl_255, zl_434, zl_496, zl_1000000, zl_100000, z_lt, z_le, z_eq, inB_z, z_div, Int.reduceToNat, Wp_some, Nx_l, Nx_r, cI_i, cV_v, cL_l, ite_t, ite_f, z_nn, toNat_c, bz_e0, s_cellAt]
  by_cases hc : cellZ a b < 0
  · rw [if_pos (by omega), if_pos hc]
    rfl
  · obtain ⟨c, hc2⟩ := Int.eq_ofNat_of_zero_le (show 0 ≤ cellZ a b by omega)
    rw [hc2] at hhi hc ⊢
    have h9 := w1 c (by omega)
    rw [if_neg (by omega), if_neg hc, s_openAt hC hW (by omega)]
    simp only [z_add, z_sub, z_mul, z_neg, ite_T, ite_F, zl_0, zl_1, zl_2, zl_3, zl_4, zl_5, zl_6, zl_7, zl_8, zl_9, zl_10, zl_11, zl_12, zl_13, zl_14, zl_15, zl_16, zl_17, zl_18, zl_19, zl_20, zl_21, zl_22, zl_23, zl_24, zl_25, zl_26, zl_27, zl_28, zl_29, zl_30, zl_31, zl_32, zl_33, zl_34, zl_35, zl_36, zl_37, zl_38, zl_39, zl_40, zl_41, zl_42, zl_43, zl_44, zl_45, zl_46, zl_47, zl_48, zl_49, zl_50, zl_51, zl_52, zl_53, zl_54, zl_55, zl_56, zl_57, zl_58, zl_59, zl_60, zl_61, zl_62, zl_63, zl_64, zl_97, zl_99, zl_100, zl_126, zl_255, zl_434, zl_496, zl_1000000, zl_100000, z_lt, z_le, z_eq, inB_z, z_div, Int.reduceToNat, Wp_some, Nx_l, Nx_r, cI_i, cV_v, cL_l, ite_t, ite_f, z_nn, toNat_c, bz_e0]
    by_cases h0 : v (4 + c) = 0
    · rw [if_neg (by simpa using h0), if_pos (Or.inl h0)]
      rfl
    rw [if_pos h0, s_chargedAt hC hW (by omega)]
    simp only [z_add, z_sub, z_mul, z_neg, ite_T, ite_F, zl_0, zl_1, zl_2, zl_3, zl_4, zl_5, zl_6, zl_7, zl_8, zl_9, zl_10, zl_11, zl_12, zl_13, zl_14, zl_15, zl_16, zl_17, zl_18, zl_19, zl_20, zl_21, zl_22, zl_23, zl_24, zl_25, zl_26, zl_27, zl_28, zl_29, zl_30, zl_31, zl_32, zl_33, zl_34, zl_35, zl_36, zl_37, zl_38, zl_39, zl_40, zl_41, zl_42, zl_43, zl_44, zl_45, zl_46, zl_47, zl_48, zl_49, zl_50, zl_51, zl_52, zl_53, zl_54, zl_55, zl_56, zl_57, zl_58, zl_59, zl_60, zl_61, zl_62, zl_63, zl_64, zl_97, zl_99, zl_100, zl_126, zl_255, zl_434, zl_496, zl_1000000, zl_100000, z_lt, z_le, z_eq, inB_z, z_div, Int.reduceToNat, Wp_some, Nx_l, Nx_r, cI_i, cV_v, cL_l, ite_t, ite_f, z_nn, toNat_c, bz_e0]
    by_cases hd : chdB v c = true
    · rw [if_neg (by simpa using hd), if_pos (Or.inr (Or.inl hd))]
      rfl
    rw [if_pos hd, s_canBeReached hC hW (by omega)]
    simp only [z_add, z_sub, z_mul, z_neg, ite_T, ite_F, zl_0, zl_1, zl_2, zl_3, zl_4, zl_5, zl_6, zl_7, zl_8, zl_9, zl_10, zl_11, zl_12, zl_13, zl_14, zl_15, zl_16, zl_17, zl_18, zl_19, zl_20, zl_21, zl_22, zl_23, zl_24, zl_25, zl_26, zl_27, zl_28, zl_29, zl_30, zl_31, zl_32, zl_33, zl_34, zl_35, zl_36, zl_37, zl_38, zl_39, zl_40, zl_41, zl_42, zl_43, zl_44, zl_45, zl_46, zl_47, zl_48, zl_49, zl_50, zl_51, zl_52, zl_53, zl_54, zl_55, zl_56, zl_57, zl_58, zl_59, zl_60, zl_61, zl_62, zl_63, zl_64, zl_97, zl_99, zl_100, zl_126, zl_255, zl_434, zl_496, zl_1000000, zl_100000, z_lt, z_le, z_eq, inB_z, z_div, Int.reduceToNat, Wp_some, Nx_l, Nx_r, cI_i, cV_v, cL_l, ite_t, ite_f, z_nn, toNat_c, bz_e0]
    by_cases hr : rchB v c = true
    · rw [if_neg (by simpa using hr), s_hardnessAt hC (by omega)]
      simp only [z_add, z_sub, z_mul, z_neg, ite_T, ite_F, zl_0, zl_1, zl_2, zl_3, zl_4, zl_5, zl_6, zl_7, zl_8, zl_9, zl_10, zl_11, zl_12, zl_13, zl_14, zl_15, zl_16, zl_17, zl_18, zl_19, zl_20, zl_21, zl_22, zl_23, zl_24, zl_25, zl_26, zl_27, zl_28, zl_29, zl_30, zl_31, zl_32, zl_33, zl_34, zl_35, zl_36, zl_37, zl_38, zl_39, zl_40, zl_41, zl_42, zl_43, zl_44, zl_45, zl_46, zl_47, zl_48, zl_49, zl_50, zl_51, zl_52, zl_53, zl_54, zl_55, zl_56, zl_57, zl_58, zl_59, zl_60, zl_61, zl_62, zl_63, zl_64, zl_97, zl_99, zl_100, zl_126, zl_255, zl_434, zl_496, zl_1000000, zl_100000, z_lt, z_le, z_eq, inB_z, z_div, Int.reduceToNat, Wp_some, Nx_l, Nx_r, cI_i, cV_v, cL_l, ite_t, ite_f, z_nn, toNat_c, bz_e0]
      rw [hC.2.2.2.2.2.2.2.2, if_neg (c := v (4 + c) = 0 ∨ _) (by simp [h0, hd, hr])]
      simp (disch := omega) only [zlt_l]
      by_cases hm : v 0 < v (4 + c)
      · rw [if_neg (by simpa using hm), if_pos hm]
        rfl
      · rw [if_pos hm, if_neg hm]
        rfl
    · rw [if_pos hr, if_pos (Or.inr (Or.inr hr))]
      rfl
theorem s_faultOfLaying (hC : CS D v) (hW : WF v) {a b s : Int} (h1 : -2147483648 ≤ a) (h2 : a < 2147483648) (h3 : -2147483648 ≤ b) (h4 : b < 2147483648) (h5 : -2147483648 ≤ s) (h6 : s < 2147483648) : S_X8_faultOfLaying (z a) (z b) (z s) D = some (0, some (.int (z (fLay v a b s))), D) := by
  have hlo := cellZ_lo a b
  have hhi := cellZ_hi a b
  have w2 := hW.2.1
  unfold S_X8_faultOfLaying fLay
  simp (disch := omega) only [z_add, z_sub, z_mul, z_neg, ite_T, ite_F, zl_0, zl_1, zl_2, zl_3, zl_4, zl_5, zl_6, zl_7, zl_8, zl_9, zl_10, zl_11, zl_12, zl_13, zl_14, zl_15, zl_16, zl_17, zl_18, zl_19, zl_20, zl_21, zl_22, zl_23, zl_24, zl_25, zl_26, zl_27, zl_28, zl_29, zl_30, zl_31, zl_32, zl_33, zl_34, zl_35, zl_36, zl_37, zl_38, zl_39, zl_40, zl_41, zl_42, zl_43, zl_44, zl_45, zl_46, zl_47, zl_48, zl_49, zl_50, zl_51, zl_52, zl_53, zl_54, zl_55, zl_56, zl_57, zl_58, zl_59, zl_60, zl_61, zl_62, zl_63, zl_64, zl_97, zl_99, zl_100, zl_126, zl_255, zl_434, zl_496, zl_1000000, zl_100000, z_lt, z_le, z_eq, inB_z, z_div, Int.reduceToNat, Wp_some, Nx_l, Nx_r, cI_i, cV_v, cL_l, ite_t, ite_f, z_nn, toNat_c, bz_e0, s_cellAt, s_inRange, hC.2.2.2.2.1]
  by_cases hc : cellZ a b < 0
  · rw [if_pos (by omega), if_pos (Or.inl hc)]
    rfl
  · obtain ⟨c, hc2⟩ := Int.eq_ofNat_of_zero_le (show 0 ≤ cellZ a b by omega)
    rw [hc2] at hhi ⊢
    rw [if_neg (by omega)]
    by_cases hh : 1 ≤ s ∧ s ≤ 9
    · rw [if_neg (by simpa using hh), if_neg (c := (c : Int) < 0 ∨ ¬ (1 ≤ s ∧ s ≤ 9)) (by omega)]
      by_cases h6' : 6 ≤ v 3
      · rw [if_pos (by omega), if_pos (Or.inl h6')]
        rfl
      rw [if_neg (by omega), s_openAt hC hW (by omega)]
      simp only [z_add, z_sub, z_mul, z_neg, ite_T, ite_F, zl_0, zl_1, zl_2, zl_3, zl_4, zl_5, zl_6, zl_7, zl_8, zl_9, zl_10, zl_11, zl_12, zl_13, zl_14, zl_15, zl_16, zl_17, zl_18, zl_19, zl_20, zl_21, zl_22, zl_23, zl_24, zl_25, zl_26, zl_27, zl_28, zl_29, zl_30, zl_31, zl_32, zl_33, zl_34, zl_35, zl_36, zl_37, zl_38, zl_39, zl_40, zl_41, zl_42, zl_43, zl_44, zl_45, zl_46, zl_47, zl_48, zl_49, zl_50, zl_51, zl_52, zl_53, zl_54, zl_55, zl_56, zl_57, zl_58, zl_59, zl_60, zl_61, zl_62, zl_63, zl_64, zl_97, zl_99, zl_100, zl_126, zl_255, zl_434, zl_496, zl_1000000, zl_100000, z_lt, z_le, z_eq, inB_z, z_div, Int.reduceToNat, Wp_some, Nx_l, Nx_r, cI_i, cV_v, cL_l, ite_t, ite_f, z_nn, toNat_c, bz_e0]
      by_cases h0 : v (4 + c) = 0
      · rw [if_neg (by simpa using h0), if_pos (Or.inr (Or.inl h0))]
        rfl
      rw [if_pos h0, s_chargedAt hC hW (by omega)]
      simp only [z_add, z_sub, z_mul, z_neg, ite_T, ite_F, zl_0, zl_1, zl_2, zl_3, zl_4, zl_5, zl_6, zl_7, zl_8, zl_9, zl_10, zl_11, zl_12, zl_13, zl_14, zl_15, zl_16, zl_17, zl_18, zl_19, zl_20, zl_21, zl_22, zl_23, zl_24, zl_25, zl_26, zl_27, zl_28, zl_29, zl_30, zl_31, zl_32, zl_33, zl_34, zl_35, zl_36, zl_37, zl_38, zl_39, zl_40, zl_41, zl_42, zl_43, zl_44, zl_45, zl_46, zl_47, zl_48, zl_49, zl_50, zl_51, zl_52, zl_53, zl_54, zl_55, zl_56, zl_57, zl_58, zl_59, zl_60, zl_61, zl_62, zl_63, zl_64, zl_97, zl_99, zl_100, zl_126, zl_255, zl_434, zl_496, zl_1000000, zl_100000, z_lt, z_le, z_eq, inB_z, z_div, Int.reduceToNat, Wp_some, Nx_l, Nx_r, cI_i, cV_v, cL_l, ite_t, ite_f, z_nn, toNat_c, bz_e0]
      by_cases hd : chdB v c = true
      · rw [if_neg (by simpa using hd), if_pos (Or.inr (Or.inr hd))]
        rfl
      · rw [if_pos hd, if_neg (by simp [h6', h0, hd])]
        rfl
    · rw [if_pos hh, if_pos (Or.inr hh)]
      rfl
theorem s_faultOfPrice {l p : Int} (h1 : -2147483648 ≤ l) (h2 : l < 2147483648) (h3 : -2147483648 ≤ p) (h4 : p < 2147483648) : S_X8_faultOfPrice (z l) (z p) D = some (0, some (.int (z (fPrice l p))), D) := by
  unfold S_X8_faultOfPrice fPrice
  simp (disch := omega) only [z_add, z_sub, z_mul, z_neg, ite_T, ite_F, zl_0, zl_1, zl_2, zl_3, zl_4, zl_5, zl_6, zl_7, zl_8, zl_9, zl_10, zl_11, zl_12, zl_13, zl_14, zl_15, zl_16, zl_17, zl_18, zl_19, zl_20, zl_21, zl_22, zl_23, zl_24, zl_25, zl_26, zl_27, zl_28, zl_29, zl_30, zl_31, zl_32, zl_33, zl_34, zl_35, zl_36, zl_37, zl_38, zl_39, zl_40, zl_41, zl_42, zl_43, zl_44, zl_45, zl_46, zl_47, zl_48, zl_49, zl_50, zl_51, zl_52, zl_53, zl_54, zl_55, zl_56, zl_57, zl_58, zl_59, zl_60, zl_61, zl_62, zl_63, zl_64, zl_97, zl_99, zl_100, zl_126, zl_255, zl_434, zl_496, zl_1000000, zl_100000, z_lt, z_le, z_eq, inB_z, z_div, Int.reduceToNat, Wp_some, Nx_l, Nx_r, cI_i, cV_v, cL_l, ite_t, ite_f, z_nn, toNat_c, bz_e0, s_inRange]
  by_cases hl : 1 ≤ l ∧ l ≤ 10
  · rw [if_neg (by simpa using hl)]
    by_cases hp : 0 ≤ p ∧ p ≤ 99
    · rw [if_neg (by simpa using hp), if_pos ⟨hl, hp⟩]
      rfl
    · rw [if_pos hp, if_neg (fun q => hp q.2)]
      rfl
  · rw [if_pos hl, if_neg (fun q => hl q.1)]
    rfl
theorem s_faultOfSelling (hC : CS D v) (hW : WF v) {l : Int} (h1 : -2147483648 ≤ l) (h2 : l < 2147483648) : S_X8_faultOfSelling (z l) D = some (0, some (.int (z (fSell v l))), D) := by
  have hop := hW.opn
  obtain ⟨w1, w2, w3, w4, w5, w6, w7⟩ := id hW
  unfold S_X8_faultOfSelling fSell
  simp (disch := omega) only [z_add, z_sub, z_mul, z_neg, ite_T, ite_F, zl_0, zl_1, zl_2, zl_3, zl_4, zl_5, zl_6, zl_7, zl_8, zl_9, zl_10, zl_11, zl_12, zl_13, zl_14, zl_15, zl_16, zl_17, zl_18, zl_19, zl_20, zl_21, zl_22, zl_23, zl_24, zl_25, zl_26, zl_27, zl_28, zl_29, zl_30, zl_31, zl_32, zl_33, zl_34, zl_35, zl_36, zl_37, zl_38, zl_39, zl_40, zl_41, zl_42, zl_43, zl_44, zl_45, zl_46, zl_47, zl_48, zl_49, zl_50, zl_51, zl_52, zl_53, zl_54, zl_55, zl_56, zl_57, zl_58, zl_59, zl_60, zl_61, zl_62, zl_63, zl_64, zl_97, zl_99, zl_100, zl_126, zl_255, zl_434, zl_496, zl_1000000, zl_100000, z_lt, z_le, z_eq, inB_z, z_div, Int.reduceToNat, Wp_some, Nx_l, Nx_r, cI_i, cV_v, cL_l, ite_t, ite_f, z_nn, toNat_c, bz_e0, s_inRange, hC.2.2.2.2.2.1]
  by_cases hl : 1 ≤ l ∧ l ≤ 30
  · rw [if_neg (c := ¬ (1 ≤ l ∧ l ≤ 30)) (by simpa using hl), if_neg (c := ¬ (1 ≤ l ∧ l ≤ 30)) (by simpa using hl)]
    by_cases hs : (v 1 : Int) - v 2 < l
    · rw [if_neg (c := l ≤ (v 1 : Int) - v 2) (by omega), if_pos hs]
      rfl
    · rw [if_pos (c := l ≤ (v 1 : Int) - v 2) (by omega), if_neg hs]
      rfl
  · rw [if_pos hl, if_pos hl]
    rfl
theorem CS.hard (hC : CS D v) {c h : Nat} (hc : c < 36) : CS (setA D 0 (upd (D.2.2.1 0) c (z h))) (upv v (4 + c) h) := by
  obtain ⟨h1, h2, h3, h4, h5, h6, h7, h8, h9⟩ := hC
  have u : ∀ k, k ≠ 4 + c → upv v (4 + c) h k = v k := fun k hk => if_neg hk
  refine ⟨fun i hi => ?_, fun i hi => ?_, fun i hi => ?_, fun i a b => ?_, ?_, ?_, ?_, ?_, ?_⟩
  · rw [setA_same]
    by_cases e : i = c
    · subst e
      rw [upd_same, upv_same]
    · rw [upd_ne _ _ e, u _ (by omega)]
      exact h1 i hi
  · rw [u _ (by omega)] at hi ⊢
    exact h2 i hi
  · rw [u _ (by omega)] at hi ⊢
    exact h3 i hi
  · rw [u _ (by omega)]
    exact h4 i a b
  · rw [u _ (by omega)]
    exact h5
  · rw [u _ (by omega), u _ (by omega)]
    exact h6
  · rw [u _ (by omega)]
    exact h7
  · rw [u _ (by omega)]
    exact h8
  · rw [u _ (by omega)]
    exact h9
theorem s_harden (hC : CS D v) {c h : Nat} (hc : c < 36) : S_X8_harden (z c) (z h) D = some (0, some (.int (z (v (4 + c)))), setA D 0 (upd (D.2.2.1 0) c (z h))) := by
  have hh := hC.1 c hc
  unfold S_X8_harden
  simp (disch := omega) only [z_add, z_sub, z_mul, z_neg, ite_T, ite_F, zl_0, zl_1, zl_2, zl_3, zl_4, zl_5, zl_6, zl_7, zl_8, zl_9, zl_10, zl_11, zl_12, zl_13, zl_14, zl_15, zl_16, zl_17, zl_18, zl_19, zl_20, zl_21, zl_22, zl_23, zl_24, zl_25, zl_26, zl_27, zl_28, zl_29, zl_30, zl_31, zl_32, zl_33, zl_34, zl_35, zl_36, zl_37, zl_38, zl_39, zl_40, zl_41, zl_42, zl_43, zl_44, zl_45, zl_46, zl_47, zl_48, zl_49, zl_50, zl_51, zl_52, zl_53, zl_54, zl_55, zl_56, zl_57, zl_58, zl_59, zl_60, zl_61, zl_62, zl_63, zl_64, zl_97, zl_99, zl_100, zl_126, zl_255, zl_434, zl_496, zl_1000000, zl_100000, z_lt, z_le, z_eq, inB_z, z_div, Int.reduceToNat, Wp_some, Nx_l, Nx_r, cI_i, cV_v, cL_l, ite_t, ite_f, z_nn, toNat_c, bz_e0, s_isCell hc, hh]
theorem s_makeOpen (hC : CS D v) (hW : WF v) {c : Nat} (hc : c < 36) : ∃ D', S_X8_makeOpen (z c) D = some (0, none, D') ∧ FS D D' ∧ CS D' (ogv v c) := by
  have hh := hC.1 c hc
  have hC2 := hC.hard (h := 0) hc
  refine ⟨_, by
    unfold S_X8_makeOpen
    rw [show (0 : Int32) = z ((0 : Nat) : Int) from rfl, s_harden hC hc, cI_i], ((FG.rfl.sA rfl).sI rfl).sI rfl, ?_⟩
  obtain ⟨h1, h2, h3, h4, h5, h6, h7, h8, h9⟩ := hC2
  have u : ∀ k, k ≠ 1 → ogv v c k = upv v (4 + c) 0 k := fun k hk => by
    unfold ogv upv
    split
    · rfl
    · first | rfl | rw [if_neg hk]
  have g : D.1 1 = z ((v 1 : Int) - v 2) := hC.2.2.2.2.2.1
  have g2 : D.1 2 = z (v 1) := hC.2.2.2.2.2.2.1
  refine ⟨fun i hi => ?_, fun i hi => ?_, fun i hi => ?_, fun i a b => ?_, ?_, ?_, ?_, ?_, ?_⟩
  · rw [u _ (by omega)]
    exact h1 i hi
  · rw [u _ (by omega)] at hi ⊢
    exact h2 i hi
  · rw [u _ (by omega)] at hi ⊢
    exact h3 i hi
  · rw [u _ (by omega)]
    exact h4 i a b
  · rw [u _ (by omega)]
    exact h5
  · show D.1 1 + z (v (4 + c)) = _
    rw [g, z_add, ogv_1, ogv_ne (by omega) (by omega)]
    congr 1
    omega
  · show D.1 2 + z (v (4 + c)) = _
    rw [g2, z_add, ogv_1]
    rfl
  · rw [u _ (by omega)]
    exact h8
  · rw [u _ (by omega)]
    exact h9
theorem WF.opd (hW : WF v) {c : Nat} (hc : c < 36) : WF (ogv v c) := by
  obtain ⟨w1, w2, w3, w4, w5, w6, w7⟩ := hW
  have h9 := w1 c hc
  have e2 : ogv v c 2 = v 2 := ogv_ne (by omega) (by omega)
  have e3 : ogv v c 3 = v 3 := ogv_ne (by omega) (by omega)
  have e0 : ogv v c 0 = v 0 := ogv_ne (by omega) (by omega)
  have hN : openN v + (if v (4 + c) = 0 then 0 else 1) = openN (ogv v c) := by
    unfold openN
    by_cases h0 : v (4 + c) = 0
    · rw [if_pos h0, Nat.add_zero]
      refine cnt_congr 36 (fun j hj => ?_)
      by_cases e : j = c
      · subst e
        rw [ogv_c, h0]
      · rw [ogv_ne (by omega) (by omega)]
    · rw [if_neg h0, ← cnt_ub hc (by simpa using h0)]
      refine cnt_congr 36 (fun j hj => ?_)
      by_cases e : j = c
      · subst e
        rw [ogv_c, ub_self]
        rfl
      · rw [ub_ne _ e, ogv_ne (by omega) (by omega)]
  refine ⟨fun j hj => ?_, by omega, fun n hn => ?_, fun i a b => ?_, by rw [ogv_1]; omega, ?_, by omega⟩
  · by_cases e : j = c
    · subst e
      rw [ogv_c]
      omega
    · rw [ogv_ne (by omega) (by omega)]
      exact w1 j hj
  · rw [ogv_ne (by omega) (by omega), ogv_ne (by omega) (by omega)]
    exact w3 n (by omega)
  · rw [ogv_ne (by omega) (by omega)]
    exact w4 i a b
  · rw [ogv_1]
    split at hN <;> omega
theorem WF.hard (hW : WF v) {c h : Nat} (hc : c < 36) (h0 : v (4 + c) ≠ 0) (h1 : 1 ≤ h) (h2 : h ≤ 9) : WF (upv v (4 + c) h) := by
  obtain ⟨w1, w2, w3, w4, w5, w6, w7⟩ := hW
  have u : ∀ k, k ≠ 4 + c → upv v (4 + c) h k = v k := fun k hk => if_neg hk
  have hN : openN (upv v (4 + c) h) = openN v := by
    unfold openN
    refine cnt_congr 36 (fun j hj => ?_)
    by_cases e : j = c
    · subst e
      rw [upv_same, decide_eq_false (by omega), decide_eq_false h0]
    · rw [u _ (by omega)]
  refine ⟨fun j hj => ?_, by rw [u _ (by omega)]; exact w2, fun n hn => ?_, fun i a b => ?_, by rw [u _ (by omega), u _ (by omega)]; exact w5, by rw [hN, u _ (by omega)]; exact w6, by rw [u _ (by omega), u _ (by omega)]; exact w7⟩
  · by_cases e : j = c
    · subst e
      rw [upv_same]
      exact h2
    · rw [u _ (by omega)]
      exact w1 j hj
  · rw [u _ (by omega)] at hn
    rw [u _ (by omega), u _ (by omega)]
    exact w3 n hn
  · rw [u _ (by omega)]
    exact w4 i a b
end LL
