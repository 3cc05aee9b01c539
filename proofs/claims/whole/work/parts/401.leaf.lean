/-! pure: leaves -/
theorem ite_t {α : Type} {p : Prop} [Decidable p] {a b : α} (h : p) : (if p then a else b) = a := if_pos h
theorem ite_f {α : Type} {p : Prop} [Decidable p] {a b : α} (h : ¬ p) : (if p then a else b) = b := if_neg h
theorem toNat_c (n : Nat) : ((n : Int)).toNat = n := rfl
theorem na_0 : vp_nar .boolean (z 0) = z 0 := by decide
theorem na_1 : vp_nar .boolean (z 1) = z 1 := by decide
def zl (n : Int) : Int64 := Int64.ofInt n
def bz (p : Prop) [Decidable p] : Int := if p then 1 else 0
theorem bz_t {p : Prop} [Decidable p] (h : p) : bz p = 1 := if_pos h
theorem bz_f {p : Prop} [Decidable p] (h : ¬ p) : bz p = 0 := if_neg h
theorem bz_0 (p : Prop) [Decidable p] : 0 ≤ bz p := by unfold bz; split <;> decide
theorem bz_1 (p : Prop) [Decidable p] : bz p ≤ 1 := by unfold bz; split <;> decide
theorem bz_e0 {p : Prop} [Decidable p] : (z (bz p) = z 0) = ¬ p := by
  unfold bz
  split
  · rename_i h
    simp only [h, not_true_eq_false, eq_iff_iff, iff_false]
    decide
  · rename_i h
    simp [h]
def CS (D : DD) (v : Nat → Nat) : Prop := (∀ i, i < 36 → D.2.2.1 0 i = z (v (4 + i))) ∧ (∀ i, i < v 3 → D.2.2.1 1 i = z (v (40 + 2 * i))) ∧ (∀ i, i < v 3 → D.2.2.1 2 i = z (v (41 + 2 * i))) ∧ (∀ i, 1 ≤ i → i ≤ 10 → D.2.2.1 3 i = z (v (51 + i))) ∧ D.1 0 = z (v 3) ∧ D.1 1 = z ((v 1 : Int) - v 2) ∧ D.1 2 = z (v 1) ∧ D.1 3 = z (v 2) ∧ D.2.1 0 = zl (v 0)
def cnt (p : Nat → Bool) : Nat → Nat
  | 0 => 0
  | n + 1 => cnt p n + (if p n then 1 else 0)
def sm (f : Nat → Nat) : Nat → Nat
  | 0 => 0
  | n + 1 => sm f n + f n
def openN (v : Nat → Nat) : Nat := cnt (fun c => decide (v (4 + c) = 0)) 36
theorem cnt_le (p : Nat → Bool) : ∀ n, cnt p n ≤ n
  | 0 => Nat.le_refl _
  | n + 1 => by
    have := cnt_le p n
    rw [cnt]
    split <;> omega
/-- what every state of a quarry keeps -/
def WF (v : Nat → Nat) : Prop := (∀ c, c < 36 → v (4 + c) ≤ 9) ∧ v 3 ≤ 6 ∧ (∀ n, n < v 3 → v (40 + 2 * n) < 36 ∧ 1 ≤ v (41 + 2 * n) ∧ v (41 + 2 * n) ≤ 9) ∧ (∀ i, 1 ≤ i → i ≤ 10 → v (51 + i) ≤ 99) ∧ v 2 ≤ v 1 ∧ v 1 ≤ 9 * openN v ∧ v 0 ≤ 99 * v 2
section LL
variable {D : DD} {v : Nat → Nat}
theorem WF.opn (h : WF v) : openN v ≤ 36 := cnt_le _ _
theorem s_isCell {c : Nat} (hc : c < 36) : S_X12_isCell (z c) D = some (0, some (.int (z 1)), D) := by
  unfold S_X12_isCell
  simp (disch := omega) only [z_add, z_sub, z_mul, z_neg, ite_T, ite_F, zl_0, zl_1, zl_2, zl_3, zl_4, zl_5, zl_6, zl_7, zl_8, zl_9, zl_10, zl_11, zl_12, zl_13, zl_14, zl_15, zl_16, zl_17, zl_18, zl_19, zl_20, zl_21, zl_22, zl_23, zl_24, zl_25, zl_26, zl_27, zl_28, zl_29, zl_30, zl_31, zl_32, zl_33, zl_34, zl_35, zl_36, zl_37, zl_38, zl_39, zl_40, zl_41, zl_42, zl_43, zl_44, zl_45, zl_46, zl_47, zl_48, zl_49, zl_50, zl_51, zl_52, zl_53, zl_54, zl_55, zl_56, zl_57, zl_58, zl_59, zl_60, zl_61, zl_62, zl_63, zl_64, zl_97, zl_99, zl_100, zl_126, zl_255, zl_434, zl_496, zl_1000000, zl_100000, z_lt, z_le, z_eq, inB_z, z_div, ite_t, ite_f]
theorem s_isCell_f {c : Int} (h1 : -2147483648 ≤ c) (h2 : c < 2147483648) (h : c < 0 ∨ 36 ≤ c) : S_X12_isCell (z c) D = some (0, some (.int (z 0)), D) := by
  unfold S_X12_isCell
  simp (disch := omega) only [z_add, z_sub, z_mul, z_neg, ite_T, ite_F, zl_0, zl_1, zl_2, zl_3, zl_4, zl_5, zl_6, zl_7, zl_8, zl_9, zl_10, zl_11, zl_12, zl_13, zl_14, zl_15, zl_16, zl_17, zl_18, zl_19, zl_20, zl_21, zl_22, zl_23, zl_24, zl_25, zl_26, zl_27, zl_28, zl_29, zl_30, zl_31, zl_32, zl_33, zl_34, zl_35, zl_36, zl_37, zl_38, zl_39, zl_40, zl_41, zl_42, zl_43, zl_44, zl_45, zl_46, zl_47, zl_48, zl_49, zl_50, zl_51, zl_52, zl_53, zl_54, zl_55, zl_56, zl_57, zl_58, zl_59, zl_60, zl_61, zl_62, zl_63, zl_64, zl_97, zl_99, zl_100, zl_126, zl_255, zl_434, zl_496, zl_1000000, zl_100000, z_lt, z_le, z_eq, inB_z, z_div]
  split
  · rfl
  · rw [if_pos (by omega)]
theorem s_inRange {a b c : Int} (h1 : -2147483648 ≤ a) (h2 : a < 2147483648) (h3 : -2147483648 ≤ b) (h4 : b < 2147483648) (h5 : -2147483648 ≤ c) (h6 : c < 2147483648) : S_X12_inRange (z a) (z b) (z c) D = some (0, some (.int (z (bz (b ≤ a ∧ a ≤ c)))), D) := by
  unfold S_X12_inRange
  simp (disch := omega) only [z_add, z_sub, z_mul, z_neg, ite_T, ite_F, zl_0, zl_1, zl_2, zl_3, zl_4, zl_5, zl_6, zl_7, zl_8, zl_9, zl_10, zl_11, zl_12, zl_13, zl_14, zl_15, zl_16, zl_17, zl_18, zl_19, zl_20, zl_21, zl_22, zl_23, zl_24, zl_25, zl_26, zl_27, zl_28, zl_29, zl_30, zl_31, zl_32, zl_33, zl_34, zl_35, zl_36, zl_37, zl_38, zl_39, zl_40, zl_41, zl_42, zl_43, zl_44, zl_45, zl_46, zl_47, zl_48, zl_49, zl_50, zl_51, zl_52, zl_53, zl_54, zl_55, zl_56, zl_57, zl_58, zl_59, zl_60, zl_61, zl_62, zl_63, zl_64, zl_97, zl_99, zl_100, zl_126, zl_255, zl_434, zl_496, zl_1000000, zl_100000, z_lt, z_le, z_eq, inB_z, z_div]
  split
  · rw [bz_f (by omega)]
  · split
    · rw [bz_f (by omega)]
    · rw [bz_t (by omega)]
theorem s_openAt (hC : CS D v) (hW : WF v) {c : Nat} (hc : c < 36) : S_X8_openAt (z c) D = some (0, some (.int (z (bz (v (4 + c) = 0)))), D) := by
  have h9 := hW.1 c hc
  have hh := hC.1 c hc
  unfold S_X8_openAt
  simp (disch := omega) only [z_add, z_sub, z_mul, z_neg, ite_T, ite_F, zl_0, zl_1, zl_2, zl_3, zl_4, zl_5, zl_6, zl_7, zl_8, zl_9, zl_10, zl_11, zl_12, zl_13, zl_14, zl_15, zl_16, zl_17, zl_18, zl_19, zl_20, zl_21, zl_22, zl_23, zl_24, zl_25, zl_26, zl_27, zl_28, zl_29, zl_30, zl_31, zl_32, zl_33, zl_34, zl_35, zl_36, zl_37, zl_38, zl_39, zl_40, zl_41, zl_42, zl_43, zl_44, zl_45, zl_46, zl_47, zl_48, zl_49, zl_50, zl_51, zl_52, zl_53, zl_54, zl_55, zl_56, zl_57, zl_58, zl_59, zl_60, zl_61, zl_62, zl_63, zl_64, zl_97, zl_99, zl_100, zl_126, zl_255, zl_434, zl_496, zl_1000000, zl_100000, z_lt, z_le, z_eq, inB_z, z_div, ite_t, ite_f, s_isCell hc, cI_i, z_nn, toNat_c, hh]
  split
  · rw [bz_t (by omega)]
  · rw [bz_f (by omega)]
theorem s_openAt_f {c : Int} (h1 : -2147483648 ≤ c) (h2 : c < 2147483648) (h : c < 0 ∨ 36 ≤ c) : S_X8_openAt (z c) D = some (0, some (.int (z 0)), D) := by
  unfold S_X8_openAt
  simp (disch := omega) only [z_add, z_sub, z_mul, z_neg, ite_T, ite_F, zl_0, zl_1, zl_2, zl_3, zl_4, zl_5, zl_6, zl_7, zl_8, zl_9, zl_10, zl_11, zl_12, zl_13, zl_14, zl_15, zl_16, zl_17, zl_18, zl_19, zl_20, zl_21, zl_22, zl_23, zl_24, zl_25, zl_26, zl_27, zl_28, zl_29, zl_30, zl_31, zl_32, zl_33, zl_34, zl_35, zl_36, zl_37, zl_38, zl_39, zl_40, zl_41, zl_42, zl_43, zl_44, zl_45, zl_46, zl_47, zl_48, zl_49, zl_50, zl_51, zl_52, zl_53, zl_54, zl_55, zl_56, zl_57, zl_58, zl_59, zl_60, zl_61, zl_62, zl_63, zl_64, zl_97, zl_99, zl_100, zl_126, zl_255, zl_434, zl_496, zl_1000000, zl_100000, z_lt, z_le, z_eq, inB_z, z_div, ite_t, ite_f, s_isCell_f h1 h2 h, cI_i]
theorem s_hardnessAt (hC : CS D v) {c : Nat} (hc : c < 36) : S_X8_hardnessAt (z c) D = some (0, some (.int (z (v (4 + c)))), D) := by
  have hh := hC.1 c hc
  unfold S_X8_hardnessAt
  simp (disch := omega) only [z_add, z_sub, z_mul, z_neg, ite_T, ite_F, zl_0, zl_1, zl_2, zl_3, zl_4, zl_5, zl_6, zl_7, zl_8, zl_9, zl_10, zl_11, zl_12, zl_13, zl_14, zl_15, zl_16, zl_17, zl_18, zl_19, zl_20, zl_21, zl_22, zl_23, zl_24, zl_25, zl_26, zl_27, zl_28, zl_29, zl_30, zl_31, zl_32, zl_33, zl_34, zl_35, zl_36, zl_37, zl_38, zl_39, zl_40, zl_41, zl_42, zl_43, zl_44, zl_45, zl_46, zl_47, zl_48, zl_49, zl_50, zl_51, zl_52, zl_53, zl_54, zl_55, zl_56, zl_57, zl_58, zl_59, zl_60, zl_61, zl_62, zl_63, zl_64, zl_97, zl_99, zl_100, zl_126, zl_255, zl_434, zl_496, zl_1000000, zl_100000, z_lt, z_le, z_eq, inB_z, z_div, ite_t, ite_f, s_isCell hc, cI_i, z_nn, toNat_c, hh]
theorem s_breaksAt (hC : CS D v) (hW : WF v) {c : Nat} (hc : c < 36) {a : Int} (h1 : -2147483648 ≤ a) (h2 : a < 2147483648) : S_X8_breaksAt (z c) (z a) D = some (0, some (.int (z (bz (0 < v (4 + c) ∧ (v (4 + c) : Int) ≤ a)))), D) := by
  have h9 := hW.1 c hc
  have hh := hC.1 c hc
  unfold S_X8_breaksAt
  simp (disch := omega) only [z_add, z_sub, z_mul, z_neg, ite_T, ite_F, zl_0, zl_1, zl_2, zl_3, zl_4, zl_5, zl_6, zl_7, zl_8, zl_9, zl_10, zl_11, zl_12, zl_13, zl_14, zl_15, zl_16, zl_17, zl_18, zl_19, zl_20, zl_21, zl_22, zl_23, zl_24, zl_25, zl_26, zl_27, zl_28, zl_29, zl_30, zl_31, zl_32, zl_33, zl_34, zl_35, zl_36, zl_37, zl_38, zl_39, zl_40, zl_41, zl_42, zl_43, zl_44, zl_45, zl_46, zl_47, zl_48, zl_49, zl_50, zl_51, zl_52, zl_53, zl_54, zl_55, zl_56, zl_57, zl_58, zl_59, zl_60, zl_61, zl_62, zl_63, zl_64, zl_97, zl_99, zl_100, zl_126, zl_255, zl_434, zl_496, zl_1000000, zl_100000, z_lt, z_le, z_eq, inB_z, z_div, ite_t, ite_f, s_isCell hc, cI_i, z_nn, toNat_c, hh]
  split
  · rw [bz_f (by omega)]
  · split
    · rw [bz_f (by omega)]
    · rw [bz_t (by omega)]
theorem s_hasCharge (hC : CS D v) (hW : WF v) {a : Int} (h1 : -2147483648 ≤ a) (h2 : a < 2147483648) : S_X8_hasCharge (z a) D = some (0, some (.int (z (bz (0 ≤ a ∧ a < v 3)))), D) := by
  have h6 := hW.2.1
  unfold S_X8_hasCharge
  simp (disch := omega) only [z_add, z_sub, z_mul, z_neg, ite_T, ite_F, zl_0, zl_1, zl_2, zl_3, zl_4, zl_5, zl_6, zl_7, zl_8, zl_9, zl_10, zl_11, zl_12, zl_13, zl_14, zl_15, zl_16, zl_17, zl_18, zl_19, zl_20, zl_21, zl_22, zl_23, zl_24, zl_25, zl_26, zl_27, zl_28, zl_29, zl_30, zl_31, zl_32, zl_33, zl_34, zl_35, zl_36, zl_37, zl_38, zl_39, zl_40, zl_41, zl_42, zl_43, zl_44, zl_45, zl_46, zl_47, zl_48, zl_49, zl_50, zl_51, zl_52, zl_53, zl_54, zl_55, zl_56, zl_57, zl_58, zl_59, zl_60, zl_61, zl_62, zl_63, zl_64, zl_97, zl_99, zl_100, zl_126, zl_255, zl_434, zl_496, zl_1000000, zl_100000, z_lt, z_le, z_eq, inB_z, z_div, hC.2.2.2.2.1]
  split
  · rw [bz_f (by omega)]
  · split
    · rw [bz_f (by omega)]
    · split
      · rw [bz_f (by omega)]
      · rw [bz_t (by omega)]
theorem s_cellOf (hC : CS D v) (hW : WF v) {n : Nat} (hn : n < v 3) : S_X8_cellOf (z n) D = some (0, some (.int (z (v (40 + 2 * n)))), D) := by
  have h6 := hW.2.1
  have hh := hC.2.1 n hn
  unfold S_X8_cellOf
  rw [s_hasCharge hC hW (by omega) (by omega), bz_t (by omega)]
  simp (disch := omega) only [z_add, z_sub, z_mul, z_neg, ite_T, ite_F, zl_0, zl_1, zl_2, zl_3, zl_4, zl_5, zl_6, zl_7, zl_8, zl_9, zl_10, zl_11, zl_12, zl_13, zl_14, zl_15, zl_16, zl_17, zl_18, zl_19, zl_20, zl_21, zl_22, zl_23, zl_24, zl_25, zl_26, zl_27, zl_28, zl_29, zl_30, zl_31, zl_32, zl_33, zl_34, zl_35, zl_36, zl_37, zl_38, zl_39, zl_40, zl_41, zl_42, zl_43, zl_44, zl_45, zl_46, zl_47, zl_48, zl_49, zl_50, zl_51, zl_52, zl_53, zl_54, zl_55, zl_56, zl_57, zl_58, zl_59, zl_60, zl_61, zl_62, zl_63, zl_64, zl_97, zl_99, zl_100, zl_126, zl_255, zl_434, zl_496, zl_1000000, zl_100000, z_lt, z_le, z_eq, inB_z, z_div, ite_t, ite_f, cI_i, z_nn, toNat_c, hh]
theorem s_strengthOf (hC : CS D v) (hW : WF v) {n : Nat} (hn : n < v 3) : S_X8_strengthOf (z n) D = some (0, some (.int (z (v (41 + 2 * n)))), D) := by
  have h6 := hW.2.1
  have hh := hC.2.2.1 n hn
  unfold S_X8_strengthOf
  rw [s_hasCharge hC hW (by omega) (by omega), bz_t (by omega)]
  simp (disch := omega) only [z_add, z_sub, z_mul, z_neg, ite_T, ite_F, zl_0, zl_1, zl_2, zl_3, zl_4, zl_5, zl_6, zl_7, zl_8, zl_9, zl_10, zl_11, zl_12, zl_13, zl_14, zl_15, zl_16, zl_17, zl_18, zl_19, zl_20, zl_21, zl_22, zl_23, zl_24, zl_25, zl_26, zl_27, zl_28, zl_29, zl_30, zl_31, zl_32, zl_33, zl_34, zl_35, zl_36, zl_37, zl_38, zl_39, zl_40, zl_41, zl_42, zl_43, zl_44, zl_45, zl_46, zl_47, zl_48, zl_49, zl_50, zl_51, zl_52, zl_53, zl_54, zl_55, zl_56, zl_57, zl_58, zl_59, zl_60, zl_61, zl_62, zl_63, zl_64, zl_97, zl_99, zl_100, zl_126, zl_255, zl_434, zl_496, zl_1000000, zl_100000, z_lt, z_le, z_eq, inB_z, z_div, ite_t, ite_f, cI_i, z_nn, toNat_c, hh]
/-- how far two cells are apart -/
def dist (a b : Nat) : Nat := ((a / 6 : Int) - (b / 6 : Int)).natAbs + ((a % 6 : Int) - (b % 6 : Int)).natAbs
theorem s_distance {a b : Nat} (ha : a < 36) (hb : b < 36) : S_X12_distance (z a) (z b) D = some (0, some (.int (z (dist a b))), D) := by
  unfold S_X12_distance
  simp (disch := omega) only [z_add, z_sub, z_mul, z_neg, ite_T, ite_F, zl_0, zl_1, zl_2, zl_3, zl_4, zl_5, zl_6, zl_7, zl_8, zl_9, zl_10, zl_11, zl_12, zl_13, zl_14, zl_15, zl_16, zl_17, zl_18, zl_19, zl_20, zl_21, zl_22, zl_23, zl_24, zl_25, zl_26, zl_27, zl_28, zl_29, zl_30, zl_31, zl_32, zl_33, zl_34, zl_35, zl_36, zl_37, zl_38, zl_39, zl_40, zl_41, zl_42, zl_43, zl_44, zl_45, zl_46, zl_47, zl_48, zl_49, zl_50, zl_51, zl_52, zl_53, zl_54, zl_55, zl_56, zl_57, zl_58, zl_59, zl_60, zl_61, zl_62, zl_63, zl_64, zl_97, zl_99, zl_100, zl_126, zl_255, zl_434, zl_496, zl_1000000, zl_100000, z_lt, z_le, z_eq, inB_z, z_div]
  congr 5
  unfold dist
  split <;> split <;> (rw [z_add]; congr 1; omega)
theorem s_priceAt (hC : CS D v) {a : Nat} (h1 : 1 ≤ a) (h2 : a ≤ 10) : S_X8_priceAt (z a) D = some (0, some (.int (z (v (51 + a)))), D) := by
  have hh := hC.2.2.2.1 a h1 h2
  unfold S_X8_priceAt
  simp (disch := omega) only [z_add, z_sub, z_mul, z_neg, ite_T, ite_F, zl_0, zl_1, zl_2, zl_3, zl_4, zl_5, zl_6, zl_7, zl_8, zl_9, zl_10, zl_11, zl_12, zl_13, zl_14, zl_15, zl_16, zl_17, zl_18, zl_19, zl_20, zl_21, zl_22, zl_23, zl_24, zl_25, zl_26, zl_27, zl_28, zl_29, zl_30, zl_31, zl_32, zl_33, zl_34, zl_35, zl_36, zl_37, zl_38, zl_39, zl_40, zl_41, zl_42, zl_43, zl_44, zl_45, zl_46, zl_47, zl_48, zl_49, zl_50, zl_51, zl_52, zl_53, zl_54, zl_55, zl_56, zl_57, zl_58, zl_59, zl_60, zl_61, zl_62, zl_63, zl_64, zl_97, zl_99, zl_100, zl_126, zl_255, zl_434, zl_496, zl_1000000, zl_100000, z_lt, z_le, z_eq, inB_z, z_div, s_inRange]
  rw [bz_t (by omega)]
  simp (disch := omega) only [z_add, z_sub, z_mul, z_neg, ite_T, ite_F, zl_0, zl_1, zl_2, zl_3, zl_4, zl_5, zl_6, zl_7, zl_8, zl_9, zl_10, zl_11, zl_12, zl_13, zl_14, zl_15, zl_16, zl_17, zl_18, zl_19, zl_20, zl_21, zl_22, zl_23, zl_24, zl_25, zl_26, zl_27, zl_28, zl_29, zl_30, zl_31, zl_32, zl_33, zl_34, zl_35, zl_36, zl_37, zl_38, zl_39, zl_40, zl_41, zl_42, zl_43, zl_44, zl_45, zl_46, zl_47, zl_48, zl_49, zl_50, zl_51, zl_52, zl_53, zl_54, zl_55, zl_56, zl_57, zl_58, zl_59, zl_60, zl_61, zl_62, zl_63, zl_64, zl_97, zl_99, zl_100, zl_126, zl_255, zl_434, zl_496, zl_1000000, zl_100000, z_lt, z_le, z_eq, inB_z, z_div, ite_t, ite_f, cI_i, z_nn, toNat_c, hh]
/-- the cell at a row and a column, or -1 -/
def cellZ (a b : Int) : Int := if 0 ≤ a ∧ a < 6 ∧ 0 ≤ b ∧ b < 6 then 6 * a + b else -1
theorem s_cellAt {a b : Int} (h1 : -2147483648 ≤ a) (h2 : a < 2147483648) (h3 : -2147483648 ≤ b) (h4 : b < 2147483648) : S_X12_cellAt (z a) (z b) D = some (0, some (.int (z (cellZ a b))), D) := by
  unfold S_X12_cellAt cellZ
  simp (disch := omega) only [z_add, z_sub, z_mul, z_neg, ite_T, ite_F, zl_0, zl_1, zl_2, zl_3, zl_4, zl_5, zl_6, zl_7, zl_8, zl_9, zl_10, zl_11, zl_12, zl_13, zl_14, zl_15, zl_16, zl_17, zl_18, zl_19, zl_20, zl_21, zl_22, zl_23, zl_24, zl_25, zl_26, zl_27, zl_28, zl_29, zl_30, zl_31, zl_32, zl_33, zl_34, zl_35, zl_36, zl_37, zl_38, zl_39, zl_40, zl_41, zl_42, zl_43, zl_44, zl_45, zl_46, zl_47, zl_48, zl_49, zl_50, zl_51, zl_52, zl_53, zl_54, zl_55, zl_56, zl_57, zl_58, zl_59, zl_60, zl_61, zl_62, zl_63, zl_64, zl_97, zl_99, zl_100, zl_126, zl_255, zl_434, zl_496, zl_1000000, zl_100000, z_lt, z_le, z_eq, inB_z, z_div]
  split
  · rw [if_neg (by omega)]
  · split
    · rw [if_neg (by omega)]
    · split
      · rw [if_neg (by omega)]
      · split
        · rw [if_pos (by omega)]
          rw [show a * 6 + b = 6 * a + b by omega]
        · rw [if_neg (by omega)]
theorem cellZ_lo (a b : Int) : -1 ≤ cellZ a b := by unfold cellZ; split <;> omega
theorem cellZ_hi (a b : Int) : cellZ a b < 36 := by unfold cellZ; split <;> omega
/-- a neighbour in a direction: above, right, below, left; or -1 -/
def nbC (c d : Nat) : Int := if d = 0 then cellZ (c / 6 - 1) (c % 6) else if d = 1 then cellZ (c / 6) (c % 6 + 1) else if d = 2 then cellZ (c / 6 + 1) (c % 6) else if d = 3 then cellZ (c / 6) (c % 6 - 1) else -1
theorem nbC_lo (c d : Nat) : -1 ≤ nbC c d := by
  unfold nbC
  split
  · exact cellZ_lo _ _
  · split
    · exact cellZ_lo _ _
    · split
      · exact cellZ_lo _ _
      · split
        · exact cellZ_lo _ _
        · decide
theorem nbC_hi (c d : Nat) : nbC c d < 36 := by
  unfold nbC
  split
  · exact cellZ_hi _ _
  · split
    · exact cellZ_hi _ _
    · split
      · exact cellZ_hi _ _
      · split
        · exact cellZ_hi _ _
        · decide
theorem s_neighbourOf {c d : Nat} (hc : c < 36) (hd : d < 4) : S_X12_neighbourOf (z c) (z d) D = some (0, some (.int (z (nbC c d))), D) := by
  unfold S_X12_neighbourOf nbC
  have e6 : (c : Int) - (c : Int) / 6 * 6 = c % 6 := by omega
  simp (disch := omega) only [z_add, z_sub, z_mul, z_neg, ite_T, ite_F, zl_0, zl_1, zl_2, zl_3, zl_4, zl_5, zl_6, zl_7, zl_8, zl_9, zl_10, zl_11, zl_12, zl_13, zl_14, zl_15, zl_16, zl_17, zl_18, zl_19, zl_20, zl_21, zl_22, zl_23, zl_24, zl_25, zl_26, zl_27, zl_28, zl_29, zl_30, zl_31, zl_32, zl_33, zl_34, zl_35, zl_36, zl_37, zl_38, zl_39, zl_40, zl_41, zl_42, zl_43, zl_44, zl_45, zl_46, zl_47, zl_48, zl_49, zl_50, zl_51, zl_52, zl_53, zl_54, zl_55, zl_56, zl_57, zl_58, zl_59, zl_60, zl_61, zl_62, zl_63, zl_64, zl_97, zl_99, zl_100, zl_126, zl_255, zl_434, zl_496, zl_1000000, zl_100000, z_lt, z_le, z_eq, inB_z, z_div, s_cellAt, cI_i, e6]
  have hd' : d = 0 ∨ d = 1 ∨ d = 2 ∨ d = 3 := by omega
  rcases hd' with rfl | rfl | rfl | rfl <;> rfl
end LL
