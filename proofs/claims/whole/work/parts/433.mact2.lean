/-! pure: what a modification does, the reference's side -/
theorem dgv_eq (v : Nat → Nat) {c : Nat} (hc : c < 36) : dgv v c = upv (upv (upv v 0 (v 0 - v (4 + c))) 1 (v 1 + v (4 + c))) (4 + c) 0 := by
  funext k
  unfold dgv ogv
  rw [upv_ne (show (1 : Nat) ≠ 0 by omega), upv_ne (show 4 + c ≠ 0 by omega)]
  by_cases h1 : k = 4 + c
  · rw [if_pos h1, h1, upv_same]
  · rw [if_neg h1, upv_ne h1]
    by_cases h2 : k = 1
    · rw [if_pos h2, h2, upv_same]
    · rw [if_neg h2, upv_ne h2]
section LL
variable {D : DD} {v : Nat → Nat}
theorem m_digs_no (hM : MR D v) (hW : WF v) {a b : Int} (h1 : -2147483648 ≤ a) (h2 : a < 2147483648) (h3 : -2147483648 ≤ b) (h4 : b < 2147483648) (hf : fDig v a b ≠ 0) : S_X13_digs (z a) (z b) D = some (0, some (.int (z 0)), setI D 140 (z (fDig v a b))) := by
  have hlo := cellZ_lo a b
  have hhi := cellZ_hi a b
  have hop := hW.opn
  have w6 := hW.2.2.2.2.2.1
  have w7 := hW.2.2.2.2.2.2
  have w5 := hW.2.2.2.2.1
  have e0 := hM 0 (by omega)
  unfold fDig at hf ⊢
  unfold S_X13_digs
  simp (disch := omega) only [z_add, z_sub, z_mul, z_neg, ite_T, ite_F, zl_0, zl_1, zl_2, zl_3, zl_4, zl_5, zl_6, zl_7, zl_8, zl_9, zl_10, zl_11, zl_12, zl_13, zl_14, zl_15, zl_16, zl_17, zl_18, zl_19, zl_20, zl_21, zl_22, zl_23, zl_24, zl_25, zl_26, zl_27, zl_28, zl_29, zl_30, zl_31, zl_32, zl_33, zl_34, zl_35, zl_36, zl_37, zl_38, zl_39, zl_40, zl_41, zl_42, zl_43, zl_44, zl_45, zl_46, zl_47, zl_48, zl_49, zl_50, zl_51, zl_52, zl_53, zl_54, zl_55, zl_56, zl_57, zl_58, zl_59, zl_60, zl_61, zl_62, zl_63, zl_64, zl_97, zl_99, zl_100, zl_126, zl_255, zl_434, zl_496, zl_1000000, zl_100000, z_lt, z_le, z_eq, inB_z, z_div, Int.reduceToNat, Wp_some, Nx_l, Nx_r, cI_i, cV_v, cL_l, ite_t, ite_f, z_nn, toNat_c, bz_e0, m_isCell, m_fail]
  by_cases hc : cellZ a b < 0
  · rw [if_pos (by omega), if_pos hc]
    rfl
  · obtain ⟨c, hc2⟩ := Int.eq_ofNat_of_zero_le (show 0 ≤ cellZ a b by omega)
    rw [if_neg (by omega), m_cell (by omega), cI_i]
    rw [hc2] at hhi hc hf ⊢
    have h9 := hW.1 c (by omega)
    rw [if_neg hc] at hf ⊢
    rw [toNat_c] at hf ⊢
    rw [m_hard hM (by omega), cI_i]
    by_cases h0 : v (4 + c) = 0
    · rw [h0, if_pos (show z ((0 : Nat) : Int) = z 0 from rfl), if_pos (Or.inl rfl)]
      rfl
    rw [if_neg (by rw [z_eq (by omega) (by omega) (by omega) (by omega)]; omega)]
    obtain ⟨q, q1, q2, q3, q4⟩ := m_chargeIn hM hW (c := c) (by omega)
    rw [q1, cI_i]
    by_cases hd : chdB v c = true
    · have q5 := q4.mpr hd
      rw [if_pos (by rw [z_le (by omega) (by omega) (by omega) (by omega)]; exact q5), if_pos (Or.inr (Or.inl hd))]
      rfl
    have q5 : ¬ 0 ≤ q := fun q5 => hd (q4.mp q5)
    rw [if_neg (by rw [z_le (by omega) (by omega) (by omega) (by omega)]; exact q5), m_canReach hM hW (by omega), cI_i]
    by_cases hr : rchB v c = true
    · rw [bz_t hr, if_neg (by decide)]
      rw [if_neg (c := v (4 + c) = 0 ∨ chdB v c = true ∨ ¬ rchB v c = true) (by simp [h0, hd, hr])] at hf ⊢
      have hm : v 0 < v (4 + c) := by
        by_cases hm : v 0 < v (4 + c)
        · exact hm
        · rw [if_neg hm] at hf
          omega
      rw [e0, if_neg (by rw [z_le (by omega) (by omega) (by omega) (by omega)]; omega), if_pos hm]
      rfl
    · rw [bz_f hr, if_pos rfl, if_pos (Or.inr (Or.inr hr))]
      rfl
theorem m_digs_ok (hM : MR D v) (hW : WF v) {a b : Int} (h1 : -2147483648 ≤ a) (h2 : a < 2147483648) (h3 : -2147483648 ≤ b) (h4 : b < 2147483648) (hf : fDig v a b = 0) : ∃ c : Nat, cellZ a b = c ∧ c < 36 ∧ v (4 + c) ≤ v 0 ∧ ∃ D', S_X13_digs (z a) (z b) D = some (0, some (.int (z ((v 0 - v (4 + c) : Nat)))), D') ∧ FR D D' ∧ MR D' (dgv v c) ∧ D'.1 140 = D.1 140 := by
  have hlo := cellZ_lo a b
  have hhi := cellZ_hi a b
  have hop := hW.opn
  have w6 := hW.2.2.2.2.2.1
  have w7 := hW.2.2.2.2.2.2
  have w5 := hW.2.2.2.2.1
  have e0 := hM 0 (by omega)
  have e1 := hM 1 (by omega)
  unfold fDig at hf
  by_cases hc : cellZ a b < 0
  · rw [if_pos hc] at hf
    omega
  rw [if_neg hc] at hf
  obtain ⟨c, hc2⟩ := Int.eq_ofNat_of_zero_le (show 0 ≤ cellZ a b by omega)
  rw [hc2, toNat_c] at hf
  by_cases hx : v (4 + c) = 0 ∨ chdB v c = true ∨ ¬ rchB v c = true
  · rw [if_pos hx] at hf
    omega
  rw [if_neg hx] at hf
  have hle : v (4 + c) ≤ v 0 := by
    by_cases hm : v 0 < v (4 + c)
    · rw [if_pos hm] at hf
      omega
    · omega
  have h0 : v (4 + c) ≠ 0 := fun q => hx (Or.inl q)
  have hd : ¬ chdB v c = true := fun q => hx (Or.inr (Or.inl q))
  have hr : rchB v c = true := by
    cases hr : rchB v c with
    | true => rfl
    | false => exact absurd (Or.inr (Or.inr (by simp [hr]))) hx
  have h9 := hW.1 c (by omega)
  obtain ⟨q, q1, q2, q3, q4⟩ := m_chargeIn hM hW (c := c) (by omega)
  have q5 : ¬ 0 ≤ q := fun q5 => hd (q4.mp q5)
  refine ⟨c, hc2, by omega, hle, setA D 70 (upd (upd (upd (D.2.2.1 70) 0 (z ((v 0 - v (4 + c) : Nat)))) 1 (z ((v 1 + v (4 + c) : Nat)))) (4 + c) (z ((0 : Nat) : Int))), ?_, FG.rfl.sA rfl, ?_, rfl⟩
  · unfold S_X13_digs
    simp (disch := omega) only [z_add, z_sub, z_mul, z_neg, ite_T, ite_F, zl_0, zl_1, zl_2, zl_3, zl_4, zl_5, zl_6, zl_7, zl_8, zl_9, zl_10, zl_11, zl_12, zl_13, zl_14, zl_15, zl_16, zl_17, zl_18, zl_19, zl_20, zl_21, zl_22, zl_23, zl_24, zl_25, zl_26, zl_27, zl_28, zl_29, zl_30, zl_31, zl_32, zl_33, zl_34, zl_35, zl_36, zl_37, zl_38, zl_39, zl_40, zl_41, zl_42, zl_43, zl_44, zl_45, zl_46, zl_47, zl_48, zl_49, zl_50, zl_51, zl_52, zl_53, zl_54, zl_55, zl_56, zl_57, zl_58, zl_59, zl_60, zl_61, zl_62, zl_63, zl_64, zl_97, zl_99, zl_100, zl_126, zl_255, zl_434, zl_496, zl_1000000, zl_100000, z_lt, z_le, z_eq, inB_z, z_div, Int.reduceToNat, Wp_some, Nx_l, Nx_r, cI_i, cV_v, cL_l, ite_t, ite_f, z_nn, toNat_c, bz_e0, m_isCell]
    rw [m_cell (by omega), cI_i, hc2, m_hard hM (by omega), cI_i, if_neg (by rw [z_eq (by omega) (by omega) (by omega) (by omega)]; omega), q1, cI_i, if_neg (by rw [z_le (by omega) (by omega) (by omega) (by omega)]; exact q5), m_canReach hM hW (by omega), cI_i, bz_t hr, if_neg (by decide)]
    simp (disch := omega) only [z_add, z_sub, z_mul, z_neg, ite_T, ite_F, zl_0, zl_1, zl_2, zl_3, zl_4, zl_5, zl_6, zl_7, zl_8, zl_9, zl_10, zl_11, zl_12, zl_13, zl_14, zl_15, zl_16, zl_17, zl_18, zl_19, zl_20, zl_21, zl_22, zl_23, zl_24, zl_25, zl_26, zl_27, zl_28, zl_29, zl_30, zl_31, zl_32, zl_33, zl_34, zl_35, zl_36, zl_37, zl_38, zl_39, zl_40, zl_41, zl_42, zl_43, zl_44, zl_45, zl_46, zl_47, zl_48, zl_49, zl_50, zl_51, zl_52, zl_53, zl_54, zl_55, zl_56, zl_57, zl_58, zl_59, zl_60, zl_61, zl_62, zl_63, zl_64, zl_97, zl_99, zl_100, zl_126, zl_255, zl_434, zl_496, zl_1000000, zl_100000, z_lt, z_le, z_eq, inB_z, z_div, Int.reduceToNat, Wp_some, Nx_l, Nx_r, cI_i, cV_v, cL_l, ite_t, ite_f, z_nn, toNat_c, bz_e0, e0, e1, upd_ne, upd_same, setA_two]
    rw [show ((4 : Int) + c).toNat = 4 + c by omega, show ((v 0 - v (4 + c) : Nat) : Int) = v 0 - v (4 + c) by omega, show ((v 1 + v (4 + c) : Nat) : Int) = v 1 + v (4 + c) by omega]
    rfl
  · rw [dgv_eq v (by omega)]
    exact (RV.upd (RV.upd (RV.upd hM))).mr
theorem m_charges_no (hM : MR D v) (hW : WF v) {a b s : Int} (h1 : -2147483648 ≤ a) (h2 : a < 2147483648) (h3 : -2147483648 ≤ b) (h4 : b < 2147483648) (h5 : -2147483648 ≤ s) (h6 : s < 2147483648) (hf : fLay v a b s ≠ 0) : S_X13_charges (z a) (z b) (z s) D = some (0, some (.int (z 0)), setI D 140 (z (fLay v a b s))) := by
  have hlo := cellZ_lo a b
  have hhi := cellZ_hi a b
  have w2 := hW.2.1
  have e3 := hM 3 (by omega)
  unfold fLay at hf ⊢
  unfold S_X13_charges
  simp (disch := omega) only [z_add, z_sub, z_mul, z_neg, ite_T, ite_F, zl_0, zl_1, zl_2, zl_3, zl_4, zl_5, zl_6, zl_7, zl_8, zl_9, zl_10, zl_11, zl_12, zl_13, zl_14, zl_15, zl_16, zl_17, zl_18, zl_19, zl_20, zl_21, zl_22, zl_23, zl_24, zl_25, zl_26, zl_27, zl_28, zl_29, zl_30, zl_31, zl_32, zl_33, zl_34, zl_35, zl_36, zl_37, zl_38, zl_39, zl_40, zl_41, zl_42, zl_43, zl_44, zl_45, zl_46, zl_47, zl_48, zl_49, zl_50, zl_51, zl_52, zl_53, zl_54, zl_55, zl_56, zl_57, zl_58, zl_59, zl_60, zl_61, zl_62, zl_63, zl_64, zl_97, zl_99, zl_100, zl_126, zl_255, zl_434, zl_496, zl_1000000, zl_100000, z_lt, z_le, z_eq, inB_z, z_div, Int.reduceToNat, Wp_some, Nx_l, Nx_r, cI_i, cV_v, cL_l, ite_t, ite_f, z_nn, toNat_c, bz_e0, m_isCell, m_isIn, m_fail, e3]
  by_cases hc : cellZ a b < 0
  · rw [if_pos (by omega), if_pos (Or.inl hc)]
    rfl
  · obtain ⟨c, hc2⟩ := Int.eq_ofNat_of_zero_le (show 0 ≤ cellZ a b by omega)
    rw [if_neg (by omega)]
    by_cases hh : 1 ≤ s ∧ s ≤ 9
    · rw [if_neg (c := ¬ (1 ≤ s ∧ s ≤ 9)) (by simpa using hh), m_cell (by omega), cI_i]
      rw [hc2] at hhi hc hf ⊢
      rw [if_neg (c := (c : Int) < 0 ∨ ¬ (1 ≤ s ∧ s ≤ 9)) (by omega)] at hf ⊢
      rw [toNat_c] at hf ⊢
      have h9 := hW.1 c (by omega)
      by_cases h6' : 6 ≤ v 3
      · rw [if_pos (by omega), if_pos (Or.inl h6')]
        rfl
      rw [if_neg (by omega), m_hard hM (by omega), cI_i]
      by_cases h0 : v (4 + c) = 0
      · rw [h0, if_pos (show z ((0 : Nat) : Int) = z 0 from rfl), if_pos (Or.inr (Or.inl rfl))]
        rfl
      rw [if_neg (by rw [z_eq (by omega) (by omega) (by omega) (by omega)]; omega)]
      obtain ⟨q, q1, q2, q3, q4⟩ := m_chargeIn hM hW (c := c) (by omega)
      rw [q1, cI_i]
      have hd : chdB v c = true := by
        cases hd : chdB v c with
        | true => rfl
        | false =>
          rw [if_neg (by simp [h6', h0, hd])] at hf
          omega
      have q5 := q4.mpr hd
      rw [if_neg (by rw [z_lt (by omega) (by omega) (by omega) (by omega)]; omega), if_pos (Or.inr (Or.inr hd))]
      rfl
    · rw [if_pos hh, if_pos (Or.inr hh)]
      rfl
theorem m_charges_ok (hM : MR D v) (hW : WF v) {a b s : Int} (h1 : -2147483648 ≤ a) (h2 : a < 2147483648) (h3 : -2147483648 ≤ b) (h4 : b < 2147483648) (h5 : -2147483648 ≤ s) (h6 : s < 2147483648) (hf : fLay v a b s = 0) : ∃ c x : Nat, cellZ a b = c ∧ c < 36 ∧ s = x ∧ 1 ≤ x ∧ x ≤ 9 ∧ v 3 < 6 ∧ ∃ D', S_X13_charges (z a) (z b) (z s) D = some (0, some (.int (z (v 3))), D') ∧ FR D D' ∧ MR D' (lyv v c x) ∧ D'.1 140 = D.1 140 := by
  have hlo := cellZ_lo a b
  have hhi := cellZ_hi a b
  have w2 := hW.2.1
  have e3 := hM 3 (by omega)
  unfold fLay at hf
  by_cases hc : cellZ a b < 0 ∨ ¬ (1 ≤ s ∧ s ≤ 9)
  · rw [if_pos hc] at hf
    omega
  rw [if_neg hc] at hf
  obtain ⟨c, hc2⟩ := Int.eq_ofNat_of_zero_le (show 0 ≤ cellZ a b by omega)
  obtain ⟨x, hx⟩ := Int.eq_ofNat_of_zero_le (show 0 ≤ s by omega)
  rw [hc2, toNat_c] at hf
  by_cases hy : 6 ≤ v 3 ∨ v (4 + c) = 0 ∨ chdB v c = true
  · rw [if_pos hy] at hf
    omega
  have hv3 : v 3 < 6 := by omega
  have h0 : v (4 + c) ≠ 0 := fun q => hy (Or.inr (Or.inl q))
  have hd : ¬ chdB v c = true := fun q => hy (Or.inr (Or.inr q))
  have h9 := hW.1 c (by omega)
  obtain ⟨q, q1, q2, q3, q4⟩ := m_chargeIn hM hW (c := c) (by omega)
  have q5 : ¬ 0 ≤ q := fun q5 => hd (q4.mp q5)
  refine ⟨c, x, hc2, by omega, hx, by omega, by omega, hv3, setA D 70 (upd (upd (upd (D.2.2.1 70) (40 + 2 * v 3) (z (c : Nat))) (41 + 2 * v 3) (z (x : Nat))) 3 (z ((v 3 + 1 : Nat)))), ?_, FG.rfl.sA rfl, (RV.upd (RV.upd (RV.upd hM))).mr, rfl⟩
  subst hx
  unfold S_X13_charges
  simp (disch := omega) only [z_add, z_sub, z_mul, z_neg, ite_T, ite_F, zl_0, zl_1, zl_2, zl_3, zl_4, zl_5, zl_6, zl_7, zl_8, zl_9, zl_10, zl_11, zl_12, zl_13, zl_14, zl_15, zl_16, zl_17, zl_18, zl_19, zl_20, zl_21, zl_22, zl_23, zl_24, zl_25, zl_26, zl_27, zl_28, zl_29, zl_30, zl_31, zl_32, zl_33, zl_34, zl_35, zl_36, zl_37, zl_38, zl_39, zl_40, zl_41, zl_42, zl_43, zl_44, zl_45, zl_46, zl_47, zl_48, zl_49, zl_50, zl_51, zl_52, zl_53, zl_54, zl_55, zl_56, zl_57, zl_58, zl_59, zl_60, zl_61, zl_62, zl_63, zl_64, zl_97, zl_99, zl_100, zl_126, zl_255, zl_434, zl_496, zl_1000000, zl_100000, z_lt, z_le, z_eq, inB_z, z_div, Int.reduceToNat, Wp_some, Nx_l, Nx_r, cI_i, cV_v, cL_l, ite_t, ite_f, z_nn, toNat_c, bz_e0, m_isCell, m_isIn, e3]
  rw [m_cell (by omega), cI_i, hc2, m_hard hM (by omega), cI_i, if_neg (by rw [z_eq (by omega) (by omega) (by omega) (by omega)]; omega), q1, cI_i, if_pos (by rw [z_lt (by omega) (by omega) (by omega) (by omega)]; omega)]
  simp (disch := omega) only [z_add, z_sub, z_mul, z_neg, ite_T, ite_F, zl_0, zl_1, zl_2, zl_3, zl_4, zl_5, zl_6, zl_7, zl_8, zl_9, zl_10, zl_11, zl_12, zl_13, zl_14, zl_15, zl_16, zl_17, zl_18, zl_19, zl_20, zl_21, zl_22, zl_23, zl_24, zl_25, zl_26, zl_27, zl_28, zl_29, zl_30, zl_31, zl_32, zl_33, zl_34, zl_35, zl_36, zl_37, zl_38, zl_39, zl_40, zl_41, zl_42, zl_43, zl_44, zl_45, zl_46, zl_47, zl_48, zl_49, zl_50, zl_51, zl_52, zl_53, zl_54, zl_55, zl_56, zl_57, zl_58, zl_59, zl_60, zl_61, zl_62, zl_63, zl_64, zl_97, zl_99, zl_100, zl_126, zl_255, zl_434, zl_496, zl_1000000, zl_100000, z_lt, z_le, z_eq, inB_z, z_div, Int.reduceToNat, Wp_some, Nx_l, Nx_r, cI_i, cV_v, cL_l, ite_t, ite_f, z_nn, toNat_c, bz_e0, e3, upd_ne, upd_same, setA_two]
  rw [show ((40 : Int) + 2 * v 3).toNat = 40 + 2 * v 3 by omega, show ((40 : Int) + 2 * v 3 + 1).toNat = 41 + 2 * v 3 by omega]
  rfl
theorem m_prices_no {l p : Int} (h1 : -2147483648 ≤ l) (h2 : l < 2147483648) (h3 : -2147483648 ≤ p) (h4 : p < 2147483648) (hf : fPrice l p ≠ 0) : S_X13_prices (z l) (z p) D = some (0, some (.int (z 0)), setI D 140 (z (fPrice l p))) := by
  unfold fPrice at hf ⊢
  unfold S_X13_prices
  simp (disch := omega) only [z_add, z_sub, z_mul, z_neg, ite_T, ite_F, zl_0, zl_1, zl_2, zl_3, zl_4, zl_5, zl_6, zl_7, zl_8, zl_9, zl_10, zl_11, zl_12, zl_13, zl_14, zl_15, zl_16, zl_17, zl_18, zl_19, zl_20, zl_21, zl_22, zl_23, zl_24, zl_25, zl_26, zl_27, zl_28, zl_29, zl_30, zl_31, zl_32, zl_33, zl_34, zl_35, zl_36, zl_37, zl_38, zl_39, zl_40, zl_41, zl_42, zl_43, zl_44, zl_45, zl_46, zl_47, zl_48, zl_49, zl_50, zl_51, zl_52, zl_53, zl_54, zl_55, zl_56, zl_57, zl_58, zl_59, zl_60, zl_61, zl_62, zl_63, zl_64, zl_97, zl_99, zl_100, zl_126, zl_255, zl_434, zl_496, zl_1000000, zl_100000, z_lt, z_le, z_eq, inB_z, z_div, Int.reduceToNat, Wp_some, Nx_l, Nx_r, cI_i, cV_v, cL_l, ite_t, ite_f, z_nn, toNat_c, bz_e0, m_isIn, m_fail]
  by_cases hl : 1 ≤ l ∧ l ≤ 10
  · rw [if_neg (c := ¬ (1 ≤ l ∧ l ≤ 10)) (by simpa using hl)]
    by_cases hp : 0 ≤ p ∧ p ≤ 99
    · rw [if_pos ⟨hl, hp⟩] at hf
      omega
    · rw [if_pos hp, if_neg (fun q => hp q.2)]
      rfl
  · rw [if_pos hl, if_neg (fun q => hl q.1)]
    rfl
theorem m_prices_ok (hM : MR D v) (hW : WF v) {l p : Int} (h1 : -2147483648 ≤ l) (h2 : l < 2147483648) (h3 : -2147483648 ≤ p) (h4 : p < 2147483648) (hf : fPrice l p = 0) : ∃ c x : Nat, l = c ∧ 1 ≤ c ∧ c ≤ 10 ∧ p = x ∧ x ≤ 99 ∧ ∃ D', S_X13_prices (z l) (z p) D = some (0, some (.int (z (v (51 + c)))), D') ∧ FR D D' ∧ MR D' (upv v (51 + c) x) ∧ D'.1 140 = D.1 140 := by
  unfold fPrice at hf
  by_cases hl : (1 ≤ l ∧ l ≤ 10) ∧ 0 ≤ p ∧ p ≤ 99
  · obtain ⟨c, hc⟩ := Int.eq_ofNat_of_zero_le (show 0 ≤ l by omega)
    obtain ⟨x, hx⟩ := Int.eq_ofNat_of_zero_le (show 0 ≤ p by omega)
    refine ⟨c, x, hc, by omega, by omega, hx, by omega, setA D 70 (upd (D.2.2.1 70) (51 + c) (z (x : Nat))), ?_, FG.rfl.sA rfl, (RV.upd hM).mr, rfl⟩
    subst hc hx
    unfold S_X13_prices
    simp (disch := omega) only [z_add, z_sub, z_mul, z_neg, ite_T, ite_F, zl_0, zl_1, zl_2, zl_3, zl_4, zl_5, zl_6, zl_7, zl_8, zl_9, zl_10, zl_11, zl_12, zl_13, zl_14, zl_15, zl_16, zl_17, zl_18, zl_19, zl_20, zl_21, zl_22, zl_23, zl_24, zl_25, zl_26, zl_27, zl_28, zl_29, zl_30, zl_31, zl_32, zl_33, zl_34, zl_35, zl_36, zl_37, zl_38, zl_39, zl_40, zl_41, zl_42, zl_43, zl_44, zl_45, zl_46, zl_47, zl_48, zl_49, zl_50, zl_51, zl_52, zl_53, zl_54, zl_55, zl_56, zl_57, zl_58, zl_59, zl_60, zl_61, zl_62, zl_63, zl_64, zl_97, zl_99, zl_100, zl_126, zl_255, zl_434, zl_496, zl_1000000, zl_100000, z_lt, z_le, z_eq, inB_z, z_div, Int.reduceToNat, Wp_some, Nx_l, Nx_r, cI_i, cV_v, cL_l, ite_t, ite_f, z_nn, toNat_c, bz_e0, m_isIn]
    rw [show ((52 : Int) + c - 1).toNat = 51 + c by omega, hM (51 + c) (by omega)]
  · rw [if_neg hl] at hf
    omega
/-- sell's refusals as the reference counts them -/
def gSell (v : Nat → Nat) (l : Int) : Nat := if ¬ (1 ≤ l ∧ l ≤ 30) then 1 else if (v 1 : Int) - v 2 < l then 2 else 0
theorem m_sells_no (hM : MR D v) (hW : WF v) {l : Int} (h1 : -2147483648 ≤ l) (h2 : l < 2147483648) (hf : gSell v l ≠ 0) : S_X13_sells (z l) D = some (0, some (.int (z 0)), setI D 140 (z (gSell v l))) := by
  have hop := hW.opn
  obtain ⟨w1, w2, w3, w4, w5, w6, w7⟩ := id hW
  have e1 := hM 1 (by omega)
  have e2 := hM 2 (by omega)
  unfold gSell at hf ⊢
  unfold S_X13_sells
  simp (disch := omega) only [z_add, z_sub, z_mul, z_neg, ite_T, ite_F, zl_0, zl_1, zl_2, zl_3, zl_4, zl_5, zl_6, zl_7, zl_8, zl_9, zl_10, zl_11, zl_12, zl_13, zl_14, zl_15, zl_16, zl_17, zl_18, zl_19, zl_20, zl_21, zl_22, zl_23, zl_24, zl_25, zl_26, zl_27, zl_28, zl_29, zl_30, zl_31, zl_32, zl_33, zl_34, zl_35, zl_36, zl_37, zl_38, zl_39, zl_40, zl_41, zl_42, zl_43, zl_44, zl_45, zl_46, zl_47, zl_48, zl_49, zl_50, zl_51, zl_52, zl_53, zl_54, zl_55, zl_56, zl_57, zl_58, zl_59, zl_60, zl_61, zl_62, zl_63, zl_64, zl_97, zl_99, zl_100, zl_126, zl_255, zl_434, zl_496, zl_1000000, zl_100000, z_lt, z_le, z_eq, inB_z, z_div, Int.reduceToNat, Wp_some, Nx_l, Nx_r, cI_i, cV_v, cL_l, ite_t, ite_f, z_nn, toNat_c, bz_e0, m_isIn, m_fail, e1, e2]
  by_cases hl : 1 ≤ l ∧ l ≤ 30
  · rw [if_neg (c := ¬ (1 ≤ l ∧ l ≤ 30)) (by simpa using hl)] at hf
    rw [if_neg (c := ¬ (1 ≤ l ∧ l ≤ 30)) (by simpa using hl), if_neg (c := ¬ (1 ≤ l ∧ l ≤ 30)) (by simpa using hl)]
    by_cases hs : (v 1 : Int) - v 2 < l
    · rw [if_neg (c := l ≤ (v 1 : Int) - v 2) (by omega), if_pos hs]
      rfl
    · rw [if_neg hs] at hf
      omega
  · rw [if_pos hl, if_pos hl]
    rfl
theorem m_sells_ok (hM : MR D v) (hW : WF v) {l : Int} (h1 : -2147483648 ≤ l) (h2 : l < 2147483648) (hf : gSell v l = 0) : ∃ c : Nat, l = c ∧ 1 ≤ c ∧ c ≤ 30 ∧ v 2 + c ≤ v 1 ∧ ∃ (D' : DD) (w p : Nat → Nat), CT v w p 30 ∧ w c ≤ 99 * c ∧ S_X13_sells (z l) D = some (0, some (.int (z (w c))), D') ∧ FR D D' ∧ MR D' (slv v c (w c)) ∧ D'.1 140 = D.1 140 := by
  have hop := hW.opn
  obtain ⟨w1, w2, w3, w4, w5, w6, w7⟩ := id hW
  have e1 := hM 1 (by omega)
  have e2 := hM 2 (by omega)
  unfold gSell at hf
  by_cases hl : 1 ≤ l ∧ l ≤ 30
  · rw [if_neg (c := ¬ (1 ≤ l ∧ l ≤ 30)) (by simpa using hl)] at hf
    by_cases hs : (v 1 : Int) - v 2 < l
    · rw [if_pos hs] at hf
      omega
    obtain ⟨c, hc⟩ := Int.eq_ofNat_of_zero_le (show 0 ≤ l by omega)
    obtain ⟨D2, w, p, q1, q2, q3, q4, q5⟩ := m_cuts hM hW
    have hb := q4.bound hW c (by omega)
    have hM2 := hM.fm q2
    have f0 := hM2 0 (by omega)
    have f2 := hM2 2 (by omega)
    have f77 := (q5 c (by omega)).1
    refine ⟨c, hc, by omega, by omega, by omega, setA D2 70 (upd (upd (D2.2.2.1 70) 2 (z ((v 2 + c : Nat)))) 0 (z ((v 0 + w c : Nat)))), w, p, q4, hb.1, ?_, q2.fr.trans (FG.rfl.sA rfl), (RV.upd (RV.upd hM2)).mr, q3⟩
    subst hc
    unfold S_X13_sells
    simp (disch := omega) only [z_add, z_sub, z_mul, z_neg, ite_T, ite_F, zl_0, zl_1, zl_2, zl_3, zl_4, zl_5, zl_6, zl_7, zl_8, zl_9, zl_10, zl_11, zl_12, zl_13, zl_14, zl_15, zl_16, zl_17, zl_18, zl_19, zl_20, zl_21, zl_22, zl_23, zl_24, zl_25, zl_26, zl_27, zl_28, zl_29, zl_30, zl_31, zl_32, zl_33, zl_34, zl_35, zl_36, zl_37, zl_38, zl_39, zl_40, zl_41, zl_42, zl_43, zl_44, zl_45, zl_46, zl_47, zl_48, zl_49, zl_50, zl_51, zl_52, zl_53, zl_54, zl_55, zl_56, zl_57, zl_58, zl_59, zl_60, zl_61, zl_62, zl_63, zl_64, zl_97, zl_99, zl_100, zl_126, zl_255, zl_434, zl_496, zl_1000000, zl_100000, z_lt, z_le, z_eq, inB_z, z_div, Int.reduceToNat, Wp_some, Nx_l, Nx_r, cI_i, cV_v, cL_l, ite_t, ite_f, z_nn, toNat_c, bz_e0, m_isIn, e1, e2, q1, f77, f2, f0, upd_ne, setA_two]
    rfl
  · rw [if_pos hl] at hf
    omega
end LL
