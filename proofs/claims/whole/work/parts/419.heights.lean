/-! pure: blocks by heights -/
/-- opened cells above row n in a column, without a gap -/
def hgt (v : Nat → Nat) : Nat → Nat → Nat
  | 0, _ => 0
  | n + 1, j => if v (4 + (6 * n + j)) = 0 then hgt v n j + 1 else 0
theorem hgt_le (v : Nat → Nat) : ∀ n j, hgt v n j ≤ n
  | 0, _ => Nat.le_refl _
  | n + 1, j => by
    have := hgt_le v n j
    rw [hgt]
    split <;> omega
theorem hgt_in (v : Nat → Nat) : ∀ n j k, k < n → n ≤ k + hgt v n j → v (4 + (6 * k + j)) = 0
  | 0, _, _, h, _ => by omega
  | n + 1, j, k, h, g => by
    rw [hgt] at g
    split at g
    · rename_i e
      by_cases ek : k = n
      · rw [ek]
        exact e
      · exact hgt_in v n j k (by omega) (by omega)
    · omega
theorem hgt_ge (v : Nat → Nat) : ∀ n j t, (∀ k, t ≤ k → k < n → v (4 + (6 * k + j)) = 0) → n ≤ t + hgt v n j
  | 0, _, _, _ => by omega
  | n + 1, j, t, h => by
    rw [hgt]
    by_cases ht : n < t
    · omega
    · rw [if_pos (h n (by omega) (by omega))]
      have := hgt_ge v n j t (fun k h1 h2 => h k h1 (by omega))
      omega
section LL
variable {D : DD} {v : Nat → Nat} {H : Nat → Nat}
theorem mul36 {a b : Nat} (ha : a ≤ 6) (hb : b ≤ 6) : a * b ≤ 36 := Nat.mul_le_mul ha hb
theorem s_underHeights (hr : ∀ j, j < 6 → D.2.2.1 61 j = z (H j)) (hH : ∀ j, j < 6 → H j ≤ 6) : ∃ A : Nat, S_X2_largestUnderHeights D = some (0, some (.int (z A)), D) ∧ (A = 0 ∨ ∃ l r q, l ≤ r ∧ r < 6 ∧ (∀ j, l ≤ j → j ≤ r → q ≤ H j) ∧ A = q * (r - l + 1)) ∧ (∀ l r q, l ≤ r → r < 6 → (∀ j, l ≤ j → j ≤ r → q ≤ H j) → q * (r - l + 1) ≤ A) ∧ A ≤ 36 := by
  have key : ∃ r, run T_X2_largestUnderHeights FUEL 0 [] D = some r ∧ ∃ A : Nat, r = (0, some (.int (z A)), D) ∧ (A = 0 ∨ ∃ l r q, l ≤ r ∧ r < 6 ∧ (∀ j, l ≤ j → j ≤ r → q ≤ H j) ∧ A = q * (r - l + 1)) ∧ (∀ l r q, l ≤ r → r < 6 → (∀ j, l ≤ j → j ≤ r → q ≤ H j) → q * (r - l + 1) ≤ A) ∧ A ≤ 36 := by
    refine RunP.fin (c := 200) ?_ (by decide)
    refine RunP.go ?_
    show Wp (b_X2_largestUnderHeights_0 _) _
    unfold b_X2_largestUnderHeights_0
    simp only [Int.reduceToNat, Wp_some, Nx_l, Nx_r, cI_i, cV_v, cL_l, ite_t, ite_f, z_nn, toNat_c, bz_e0, z_add, z_sub, z_mul, z_neg, ite_T, ite_F, zl_0, zl_1, zl_2, zl_3, zl_4, zl_5, zl_6, zl_7, zl_8, zl_9, zl_10, zl_11, zl_12, zl_13, zl_14, zl_15, zl_16, zl_17, zl_18, zl_19, zl_20, zl_21, zl_22, zl_23, zl_24, zl_25, zl_26, zl_27, zl_28, zl_29, zl_30, zl_31, zl_32, zl_33, zl_34, zl_35, zl_36, zl_37, zl_38, zl_39, zl_40, zl_41, zl_42, zl_43, zl_44, zl_45, zl_46, zl_47, zl_48, zl_49, zl_50, zl_51, zl_52, zl_53, zl_54, zl_55, zl_56, zl_57, zl_58, zl_59, zl_60, zl_61, zl_62, zl_63, zl_64, zl_97, zl_99, zl_100, zl_126, zl_255, zl_434, zl_496, zl_1000000, zl_100000]
    refine RunP.loop (fun i ls D' => D' = D ∧ ∃ A : Nat, ls = [z A, z i] ∧ (A = 0 ∨ ∃ l r q, l ≤ r ∧ r < 6 ∧ (∀ j, l ≤ j → j ≤ r → q ≤ H j) ∧ A = q * (r - l + 1)) ∧ (∀ l r q, l ≤ r → r < 6 → l < i → (∀ j, l ≤ j → j ≤ r → q ≤ H j) → q * (r - l + 1) ≤ A) ∧ A ≤ 36) 6 10 1 ?_ ?_ 0 _ _ (by omega) ⟨rfl, 0, rfl, Or.inl rfl, fun l r q h1 h2 h3 => by omega, by omega⟩ (by omega)
    · rintro i ls D' c hi ⟨rfl, A, rfl, h1, h2, h3⟩ hk
      refine RunP.mono (c := (c + 9) + 1) ?_ (by omega)
      refine RunP.go ?_
      show Wp (b_X2_largestUnderHeights_1 _ _ _) _
      unfold b_X2_largestUnderHeights_1
      simp (disch := omega) only [z_add, z_sub, z_mul, z_neg, ite_T, ite_F, zl_0, zl_1, zl_2, zl_3, zl_4, zl_5, zl_6, zl_7, zl_8, zl_9, zl_10, zl_11, zl_12, zl_13, zl_14, zl_15, zl_16, zl_17, zl_18, zl_19, zl_20, zl_21, zl_22, zl_23, zl_24, zl_25, zl_26, zl_27, zl_28, zl_29, zl_30, zl_31, zl_32, zl_33, zl_34, zl_35, zl_36, zl_37, zl_38, zl_39, zl_40, zl_41, zl_42, zl_43, zl_44, zl_45, zl_46, zl_47, zl_48, zl_49, zl_50, zl_51, zl_52, zl_53, zl_54, zl_55, zl_56, zl_57, zl_58, zl_59, zl_60, zl_61, zl_62, zl_63, zl_64, zl_97, zl_99, zl_100, zl_126, zl_255, zl_434, zl_496, zl_1000000, zl_100000, z_lt, z_le, z_eq, inB_z, z_div, Int.reduceToNat, Wp_some, Nx_l, Nx_r, cI_i, cV_v, cL_l, ite_t, ite_f, z_nn, toNat_c, bz_e0]
      refine RunP.loop (fun j ls D2 => D2 = D' ∧ i ≤ j ∧ ∃ A w : Nat, ls = [z A, z i, z w, z j] ∧ (A = 0 ∨ ∃ l r q, l ≤ r ∧ r < 6 ∧ (∀ j, l ≤ j → j ≤ r → q ≤ H j) ∧ A = q * (r - l + 1)) ∧ (∀ l r q, l ≤ r → r < 6 → (l < i ∨ (l = i ∧ r < j)) → (∀ j, l ≤ j → j ≤ r → q ≤ H j) → q * (r - l + 1) ≤ A) ∧ A ≤ 36 ∧ w ≤ 6 ∧ (∀ k, i ≤ k → k < j → w ≤ H k) ∧ ∀ q, q ≤ 6 → (∀ k, i ≤ k → k < j → q ≤ H k) → q ≤ w) 6 1 (c + 1) ?_ ?_ i _ _ (by omega) ⟨rfl, Nat.le_refl _, A, 6, rfl, h1, fun l r q g1 g2 g3 => h2 l r q g1 g2 (by omega), h3, by omega, fun k g1 g2 => by omega, fun q g _ => g⟩ (by omega)
      · rintro j ls D2 c2 hj ⟨rfl, hij, A, w, rfl, k1, k2, k3, k4, k5, k6⟩ hk2
        have hHj := hH j hj
        have hw : ∃ w' : Nat, (if (z (H j) : Int32) < z w then (z (H j) : Int32) else z w) = z w' ∧ w' ≤ w ∧ w' ≤ H j ∧ (w' = w ∨ w' = H j) := by
          by_cases e : H j < w
          · exact ⟨H j, by rw [if_pos (by rw [z_lt (by omega) (by omega) (by omega) (by omega)]; omega)], by omega, by omega, Or.inr rfl⟩
          · exact ⟨w, by rw [if_neg (by rw [z_lt (by omega) (by omega) (by omega) (by omega)]; omega)], by omega, by omega, Or.inl rfl⟩
        obtain ⟨w', w1, w2, w3, w4⟩ := hw
        have hp : ((w' : Int)) * ((j : Int) - i + 1) = ((w' * (j - i + 1) : Nat) : Int) := by
          rw [Int.natCast_mul, show ((j - i + 1 : Nat) : Int) = (j : Int) - i + 1 by omega]
        have hpl := mul36 (show w' ≤ 6 by omega) (show j - i + 1 ≤ 6 by omega)
        obtain ⟨C, m1, m2⟩ := max_z (a := A) (b := w' * (j - i + 1)) (by omega) (by omega)
        have t1 : (j : Int).toNat = j := rfl
        refine RunP.go ?_
        show Wp (b_X2_largestUnderHeights_2 _ _ _ _ _) _
        unfold b_X2_largestUnderHeights_2
        have r61 : D2.2.2.1 61 (z j).toNatClampNeg = z (H j) := by
          rw [z_nn (by omega) (by omega)]
          exact hr j hj
        have hin : inB (z j) 6 = true := by
          rw [inB_z (by omega) (by omega)]
          omega
        rw [zl_6, if_neg (by rw [z_le (by omega) (by omega) (by omega) (by omega)]; omega), if_pos hin, r61, w1, zl_1, z_sub, z_add, z_mul, hp, m1, z_add, Wp_some, Nx_l]
        refine hk2 _ _ ⟨rfl, by omega, C, w', rfl, ?_, fun l r q g1 g2 g3 g4 => ?_, by omega, by omega, fun k g1 g2 => ?_, fun q g1 g2 => ?_⟩
        · rcases m2 with ⟨e, -⟩ | ⟨e, -⟩
          · rw [e]
            exact k1
          · refine Or.inr ⟨i, j, w', hij, hj, fun k g1 g2 => ?_, e⟩
            by_cases ek : k = j
            · rw [ek]
              exact w3
            · exact Nat.le_trans w2 (k5 k g1 (by omega))
        · by_cases e : l = i ∧ r = j
          · obtain ⟨rfl, rfl⟩ := e
            have hq6 : q ≤ 6 := Nat.le_trans (g4 r g1 (Nat.le_refl _)) hHj
            have hqw : q ≤ w := k6 q hq6 (fun k u1 u2 => g4 k u1 (by omega))
            have hqw' : q ≤ w' := by
              rcases w4 with e | e
              · omega
              · rw [e]
                exact g4 r g1 (Nat.le_refl _)
            have := Nat.mul_le_mul hqw' (Nat.le_refl (r - l + 1))
            omega
          · have := k2 l r q g1 g2 (by omega) g4
            omega
        · by_cases ek : k = j
          · rw [ek]
            exact w3
          · exact Nat.le_trans w2 (k5 k g1 (by omega))
        · have hqw : q ≤ w := k6 q g1 (fun k u1 u2 => g2 k u1 (by omega))
          rcases w4 with e | e
          · omega
          · rw [e]
            exact g2 j hij (by omega)
      · rintro ls D2 ⟨rfl, hij, A, w, rfl, k1, k2, k3, k4, k5, k6⟩
        refine RunP.go ?_
        show Wp (b_X2_largestUnderHeights_2 _ _ _ _ _) _
        unfold b_X2_largestUnderHeights_2
        simp (disch := omega) only [z_add, z_sub, z_mul, z_neg, ite_T, ite_F, zl_0, zl_1, zl_2, zl_3, zl_4, zl_5, zl_6, zl_7, zl_8, zl_9, zl_10, zl_11, zl_12, zl_13, zl_14, zl_15, zl_16, zl_17, zl_18, zl_19, zl_20, zl_21, zl_22, zl_23, zl_24, zl_25, zl_26, zl_27, zl_28, zl_29, zl_30, zl_31, zl_32, zl_33, zl_34, zl_35, zl_36, zl_37, zl_38, zl_39, zl_40, zl_41, zl_42, zl_43, zl_44, zl_45, zl_46, zl_47, zl_48, zl_49, zl_50, zl_51, zl_52, zl_53, zl_54, zl_55, zl_56, zl_57, zl_58, zl_59, zl_60, zl_61, zl_62, zl_63, zl_64, zl_97, zl_99, zl_100, zl_126, zl_255, zl_434, zl_496, zl_1000000, zl_100000, z_lt, z_le, z_eq, inB_z, z_div, Int.reduceToNat, Wp_some, Nx_l, Nx_r, cI_i, cV_v, cL_l, ite_t, ite_f, z_nn, toNat_c, bz_e0]
        exact hk _ _ ⟨rfl, A, rfl, k1, fun l r q g1 g2 g3 => k2 l r q g1 g2 (by omega), k3⟩
    · rintro ls D' ⟨rfl, A, rfl, h1, h2, h3⟩
      refine RunP.go ?_
      show Wp (b_X2_largestUnderHeights_1 _ _ _) _
      unfold b_X2_largestUnderHeights_1
      simp (disch := omega) only [z_add, z_sub, z_mul, z_neg, ite_T, ite_F, zl_0, zl_1, zl_2, zl_3, zl_4, zl_5, zl_6, zl_7, zl_8, zl_9, zl_10, zl_11, zl_12, zl_13, zl_14, zl_15, zl_16, zl_17, zl_18, zl_19, zl_20, zl_21, zl_22, zl_23, zl_24, zl_25, zl_26, zl_27, zl_28, zl_29, zl_30, zl_31, zl_32, zl_33, zl_34, zl_35, zl_36, zl_37, zl_38, zl_39, zl_40, zl_41, zl_42, zl_43, zl_44, zl_45, zl_46, zl_47, zl_48, zl_49, zl_50, zl_51, zl_52, zl_53, zl_54, zl_55, zl_56, zl_57, zl_58, zl_59, zl_60, zl_61, zl_62, zl_63, zl_64, zl_97, zl_99, zl_100, zl_126, zl_255, zl_434, zl_496, zl_1000000, zl_100000, z_lt, z_le, z_eq, inB_z, z_div, Int.reduceToNat, Wp_some, Nx_l, Nx_r, cI_i, cV_v, cL_l, ite_t, ite_f, z_nn, toNat_c, bz_e0]
      exact ⟨A, rfl, h1, fun l r q g1 g2 => h2 l r q g1 g2 (by omega), h3⟩
  obtain ⟨r, h1, A, rfl, h2⟩ := key
  exact ⟨A, h1, h2⟩
theorem s_sizeByHeights (hC : CS D v) (hW : WF v) : ∃ (D' : DD) (A : Nat), S_X2_sizeByHeights D = some (0, some (.int (z A)), D') ∧ FC D D' ∧ IsBlk v A := by
  have key : ∃ r, run T_X2_sizeByHeights FUEL 0 [] D = some r ∧ ∃ (D' : DD) (A : Nat), r = (0, some (.int (z A)), D') ∧ FC D D' ∧ IsBlk v A := by
    obtain ⟨g0, q1, q2⟩ := J7_fill_53178_blocks_heights_ok D (z 0)
    refine RunP.fin (c := 200) ?_ (by decide)
    refine RunP.go ?_
    show Wp (b_X2_sizeByHeights_0 _) _
    unfold b_X2_sizeByHeights_0
    simp only [z_add, z_sub, z_mul, z_neg, ite_T, ite_F, zl_0, zl_1, zl_2, zl_3, zl_4, zl_5, zl_6, zl_7, zl_8, zl_9, zl_10, zl_11, zl_12, zl_13, zl_14, zl_15, zl_16, zl_17, zl_18, zl_19, zl_20, zl_21, zl_22, zl_23, zl_24, zl_25, zl_26, zl_27, zl_28, zl_29, zl_30, zl_31, zl_32, zl_33, zl_34, zl_35, zl_36, zl_37, zl_38, zl_39, zl_40, zl_41, zl_42, zl_43, zl_44, zl_45, zl_46, zl_47, zl_48, zl_49, zl_50, zl_51, zl_52, zl_53, zl_54, zl_55, zl_56, zl_57, zl_58, zl_59, zl_60, zl_61, zl_62, zl_63, zl_64, zl_97, zl_99, zl_100, zl_126, zl_255, zl_434, zl_496, zl_1000000, zl_100000, q1, Int.reduceToNat, Wp_some, Nx_l, Nx_r, cI_i, cV_v, cL_l, ite_t, ite_f, z_nn, toNat_c, bz_e0]
    refine RunP.loop (fun i ls D' => FC D D' ∧ ∃ A : Nat, ls = [z A, z i] ∧ (∀ j, j < 6 → D'.2.2.1 61 j = z (hgt v i j)) ∧ Acc v (fun _ _ b' _ => b' < i) A) 6 10 1 ?_ ?_ 0 _ _ (by omega) ⟨FC.rfl.sA rfl, 0, rfl, fun j hj => by rw [setA_same]; exact q2 j hj, Or.inl rfl, fun t' l' b' r' h1 h2 h3 h4 h5 => by omega⟩ (by omega)
    · rintro i ls D' c hi ⟨hf, A, rfl, hh, hA⟩ hk
      refine RunP.mono (c := (c + 9) + 1) ?_ (by omega)
      refine RunP.go ?_
      show Wp (b_X2_sizeByHeights_1 _ _ _) _
      unfold b_X2_sizeByHeights_1
      simp (disch := omega) only [z_add, z_sub, z_mul, z_neg, ite_T, ite_F, zl_0, zl_1, zl_2, zl_3, zl_4, zl_5, zl_6, zl_7, zl_8, zl_9, zl_10, zl_11, zl_12, zl_13, zl_14, zl_15, zl_16, zl_17, zl_18, zl_19, zl_20, zl_21, zl_22, zl_23, zl_24, zl_25, zl_26, zl_27, zl_28, zl_29, zl_30, zl_31, zl_32, zl_33, zl_34, zl_35, zl_36, zl_37, zl_38, zl_39, zl_40, zl_41, zl_42, zl_43, zl_44, zl_45, zl_46, zl_47, zl_48, zl_49, zl_50, zl_51, zl_52, zl_53, zl_54, zl_55, zl_56, zl_57, zl_58, zl_59, zl_60, zl_61, zl_62, zl_63, zl_64, zl_97, zl_99, zl_100, zl_126, zl_255, zl_434, zl_496, zl_1000000, zl_100000, z_lt, z_le, z_eq, inB_z, z_div, Int.reduceToNat, Wp_some, Nx_l, Nx_r, cI_i, cV_v, cL_l, ite_t, ite_f, z_nn, toNat_c, bz_e0]
      refine RunP.loop (fun j ls D2 => ls = [z A, z i, z j] ∧ FC D D2 ∧ ∀ k, k < 6 → D2.2.2.1 61 k = z ((if k < j then hgt v (i + 1) k else hgt v i k : Nat))) 6 1 (c + 1) ?_ ?_ 0 _ _ (by omega) ⟨rfl, hf, fun k hk => by rw [if_neg (by omega)]; exact hh k hk⟩ (by omega)
      · rintro j ls D2 c2 hj ⟨rfl, hf2, h61⟩ hk2
        have hC2 := hC.fc hf2
        have w := hW.1 (6 * i + j) (by omega)
        have r61 := h61 j hj
        rw [if_neg (by omega)] at r61
        refine RunP.go ?_
        show Wp (b_X2_sizeByHeights_2 _ _ _ _) _
        unfold b_X2_sizeByHeights_2
        simp (disch := omega) only [z_add, z_sub, z_mul, z_neg, ite_T, ite_F, zl_0, zl_1, zl_2, zl_3, zl_4, zl_5, zl_6, zl_7, zl_8, zl_9, zl_10, zl_11, zl_12, zl_13, zl_14, zl_15, zl_16, zl_17, zl_18, zl_19, zl_20, zl_21, zl_22, zl_23, zl_24, zl_25, zl_26, zl_27, zl_28, zl_29, zl_30, zl_31, zl_32, zl_33, zl_34, zl_35, zl_36, zl_37, zl_38, zl_39, zl_40, zl_41, zl_42, zl_43, zl_44, zl_45, zl_46, zl_47, zl_48, zl_49, zl_50, zl_51, zl_52, zl_53, zl_54, zl_55, zl_56, zl_57, zl_58, zl_59, zl_60, zl_61, zl_62, zl_63, zl_64, zl_97, zl_99, zl_100, zl_126, zl_255, zl_434, zl_496, zl_1000000, zl_100000, z_lt, z_le, z_eq, inB_z, z_div, Int.reduceToNat, Wp_some, Nx_l, Nx_r, cI_i, cV_v, cL_l, ite_t, ite_f, z_nn, toNat_c, bz_e0, s_cellAtN hi hj, s_openAt hC2 hW (show 6 * i + j < 36 by omega), r61]
        have fin : ∀ x : Nat, x = hgt v (i + 1) j → RunP T_X2_sizeByHeights c2 2 [z A, z i, z ((j + 1 : Nat))] (setA D2 61 (upd (D2.2.2.1 61) j (z x))) (fun r => ∃ (D' : DD) (A : Nat), r = (0, some (.int (z A)), D') ∧ FC D D' ∧ IsBlk v A) := by
          intro x hx
          refine hk2 _ _ ⟨rfl, hf2.sA rfl, fun k hk => ?_⟩
          rw [setA_same]
          by_cases e : k = j
          · rw [e, upd_same, if_pos (by omega), hx]
          · rw [upd_ne _ _ e, h61 k hk]
            by_cases e2 : k < j
            · rw [if_pos e2, if_pos (by omega)]
            · rw [if_neg e2, if_neg (by omega)]
        by_cases ho : v (4 + (6 * i + j)) = 0
        · rw [if_neg (by simpa using ho), Wp_some, Nx_l]
          exact fin (hgt v i j + 1) (by rw [hgt, if_pos ho])
        · rw [if_pos (by simpa using ho), Wp_some, Nx_l]
          exact fin 0 (by rw [hgt, if_neg ho])
      · rintro ls D2 ⟨rfl, hf2, h61⟩
        have hhr : ∀ j, j < 6 → D2.2.2.1 61 j = z (hgt v (i + 1) j) := fun j hj => by rw [h61 j hj, if_pos hj]
        obtain ⟨U, u1, u2, u3, u4⟩ := s_underHeights hhr (fun j hj => by have := hgt_le v (i + 1) j; omega)
        have hAle := hA.le
        obtain ⟨C, m1, m2⟩ := max_z (a := A) (b := U) (by omega) (by omega)
        have hU : Acc v (fun _ _ b' _ => b' = i) U := by
          refine ⟨?_, fun t l b r h1 h2 h3 h4 h5 h6 => ?_⟩
          · rcases u2 with e | ⟨l, r, q, g1, g2, g3, g4⟩
            · exact Or.inl e
            · by_cases hq : q = 0
              · left
                rw [g4, hq, Nat.zero_mul]
              · right
                have hq6 : q ≤ i + 1 := Nat.le_trans (g3 l (Nat.le_refl _) g1) (hgt_le v (i + 1) l)
                refine ⟨i + 1 - q, l, i, r, by omega, hi, g1, g2, fun x y a1 a2 a3 a4 => ?_, ?_⟩
                · have := g3 y a3 a4
                  exact hgt_in v (i + 1) y x (by omega) (by omega)
                · rw [g4]
                  unfold sz4
                  congr 1
                  omega
          · subst h5
            have := u3 l r (b - t + 1) h3 h4 (fun j a1 a2 => by
              have := hgt_ge v (b + 1) j t (fun k b1 b2 => h6 k j b1 (by omega) a1 a2)
              omega)
            exact this
        refine RunP.go ?_
        show Wp (b_X2_sizeByHeights_2 _ _ _ _) _
        unfold b_X2_sizeByHeights_2
        rw [zl_6, if_pos (by rw [z_le (by omega) (by omega) (by omega) (by omega)]; omega), u1, cI_i, Wp_some, Nx_l, m1, zl_1, z_add]
        exact hk _ _ ⟨hf2, C, rfl, hhr, hA.max hU (fun t' l' b' r' h1 h2 h3 h4 h5 => by omega) m2⟩
    · rintro ls D' ⟨hf, A, rfl, hh, hA⟩
      refine RunP.go ?_
      show Wp (b_X2_sizeByHeights_1 _ _ _) _
      unfold b_X2_sizeByHeights_1
      simp (disch := omega) only [z_add, z_sub, z_mul, z_neg, ite_T, ite_F, zl_0, zl_1, zl_2, zl_3, zl_4, zl_5, zl_6, zl_7, zl_8, zl_9, zl_10, zl_11, zl_12, zl_13, zl_14, zl_15, zl_16, zl_17, zl_18, zl_19, zl_20, zl_21, zl_22, zl_23, zl_24, zl_25, zl_26, zl_27, zl_28, zl_29, zl_30, zl_31, zl_32, zl_33, zl_34, zl_35, zl_36, zl_37, zl_38, zl_39, zl_40, zl_41, zl_42, zl_43, zl_44, zl_45, zl_46, zl_47, zl_48, zl_49, zl_50, zl_51, zl_52, zl_53, zl_54, zl_55, zl_56, zl_57, zl_58, zl_59, zl_60, zl_61, zl_62, zl_63, zl_64, zl_97, zl_99, zl_100, zl_126, zl_255, zl_434, zl_496, zl_1000000, zl_100000, z_lt, z_le, z_eq, inB_z, z_div, Int.reduceToNat, Wp_some, Nx_l, Nx_r, cI_i, cV_v, cL_l, ite_t, ite_f, z_nn, toNat_c, bz_e0]
      exact ⟨D', A, rfl, hf, hA.sub (fun t' l' b' r' h1 h2 h3 h4 h5 => by omega)⟩
  obtain ⟨r, h1, D', A, rfl, h2⟩ := key
  exact ⟨D', A, h1, h2⟩
end LL
