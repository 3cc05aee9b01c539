/-! pure: tunnels, the quarry's two ways -/
section LL
variable {D : DD} {v : Nat → Nat} {m : Nat → Nat}
theorem na_zb (b : Bool) : vp_nar .boolean (z (zb b)) = z (zb b) := by cases b <;> decide
theorem Ok.go {B : Nat} {m m' : Nat → Nat} (h : Ok v B m) {x : Nat} (hx : x < 36) (h1 : ∀ c, c < 36 → m' c ≤ m c) (h2 : ∀ c, c < 36 → m' c = m c ∨ (adj x c ∧ m' c = m x + v (4 + c) ∧ m' c < m c)) : Ok v B m' := by
  refine ⟨fun c hc => ?_, fun c hc => Nat.le_trans (h1 c hc) (h.2.1 c hc), fun c hc e => Nat.le_trans (h1 c hc) (h.2.2 c hc e)⟩
  rcases h2 c hc with e | ⟨e1, e2, e3⟩
  · rw [e]
    exact h.1 c hc
  · rcases h.1 x hx with q | ⟨n, q⟩
    · have := h.2.1 c hc
      omega
    · exact Or.inr ⟨n + 1, hc, x, m x, q, e1, e2⟩
theorem s_goOn (hC : CS D v) (hW : WF v) (hr : ∀ j, j < 36 → D.2.2.1 55 j = z (m j)) (hB : ∀ c, c < 36 → m c ≤ 1000000) {x : Nat} (hx : x < 36) : ∃ (g : Nat → Int32) (m' : Nat → Nat) (ch : Bool), S_X10_goOn (z x) D = some (0, some (.int (z (zb ch))), setA D 55 g) ∧ (∀ j, j < 36 → g j = z ((m' j : Nat))) ∧ (∀ c, c < 36 → m' c ≤ m c) ∧ (∀ c, c < 36 → adj x c → m' c ≤ m x + v (4 + c)) ∧ (∀ c, c < 36 → m' c = m c ∨ (adj x c ∧ m' c = m x + v (4 + c) ∧ m' c < m c)) ∧ ((ch = false ∧ ∀ c, c < 36 → m' c = m c) ∨ (ch = true ∧ ∃ c, c < 36 ∧ m' c < m c)) := by
  have key : ∃ r, run T_X10_goOn FUEL 0 [z x] D = some r ∧ ∃ (g : Nat → Int32) (m' : Nat → Nat) (ch : Bool), r = (0, some (.int (z (zb ch))), setA D 55 g) ∧ (∀ j, j < 36 → g j = z ((m' j : Nat))) ∧ (∀ c, c < 36 → m' c ≤ m c) ∧ (∀ c, c < 36 → adj x c → m' c ≤ m x + v (4 + c)) ∧ (∀ c, c < 36 → m' c = m c ∨ (adj x c ∧ m' c = m x + v (4 + c) ∧ m' c < m c)) ∧ ((ch = false ∧ ∀ c, c < 36 → m' c = m c) ∨ (ch = true ∧ ∃ c, c < 36 ∧ m' c < m c)) := by
    refine RunP.fin (c := 100) ?_ (by decide)
    refine RunP.go ?_
    show Wp (b_X10_goOn_0 _ _) _
    unfold b_X10_goOn_0
    simp only [Int.reduceToNat, Wp_some, Nx_l, Nx_r, cI_i, cV_v, cL_l, ite_t, ite_f, z_nn, toNat_c, bz_e0, z_add, z_sub, z_mul, z_neg, ite_T, ite_F, zl_0, zl_1, zl_2, zl_3, zl_4, zl_5, zl_6, zl_7, zl_8, zl_9, zl_10, zl_11, zl_12, zl_13, zl_14, zl_15, zl_16, zl_17, zl_18, zl_19, zl_20, zl_21, zl_22, zl_23, zl_24, zl_25, zl_26, zl_27, zl_28, zl_29, zl_30, zl_31, zl_32, zl_33, zl_34, zl_35, zl_36, zl_37, zl_38, zl_39, zl_40, zl_41, zl_42, zl_43, zl_44, zl_45, zl_46, zl_47, zl_48, zl_49, zl_50, zl_51, zl_52, zl_53, zl_54, zl_55, zl_56, zl_57, zl_58, zl_59, zl_60, zl_61, zl_62, zl_63, zl_64, zl_97, zl_99, zl_100, zl_126, zl_255, zl_434, zl_496, zl_1000000, zl_100000]
    refine RunP.loop (fun i ls D' => ∃ (g : Nat → Int32) (m' : Nat → Nat) (ch : Bool), D' = setA D 55 g ∧ ls = [z x, z (zb ch), z i] ∧ (∀ j, j < 36 → g j = z (m' j)) ∧ (∀ c, c < 36 → m' c ≤ m c) ∧ (∀ d, d < i → ∀ c : Nat, c < 36 → nbC x d = c → m' c ≤ m x + v (4 + c)) ∧ (∀ c, c < 36 → m' c = m c ∨ (adj x c ∧ m' c = m x + v (4 + c) ∧ m' c < m c)) ∧ ((ch = false ∧ ∀ c, c < 36 → m' c = m c) ∨ (ch = true ∧ ∃ c, c < 36 ∧ m' c < m c))) 4 1 1 ?_ ?_ 0 _ _ (by omega) ⟨D.2.2.1 55, m, false, (setA_self D 55).symm, rfl, hr, fun c _ => Nat.le_refl _, fun d h => by omega, fun c _ => Or.inl rfl, Or.inl ⟨rfl, fun c _ => rfl⟩⟩ (by omega)
    · rintro i ls D' c hi ⟨g, m', ch, rfl, rfl, h0, h1, h2, h3, h4⟩ hk
      have hC' : CS (setA D 55 g) v := hC.fc (FC.rfl.sA rfl)
      have n1 := nbC_lo x i
      have n2 := nbC_hi x i
      have hmx : m' x = m x := by
        rcases h3 x hx with e | ⟨e, -⟩
        · exact e
        · unfold adj at e
          omega
      have same : (∀ c : Nat, c < 36 → nbC x i = c → m' c ≤ m x + v (4 + c)) → RunP T_X10_goOn c 1 [z x, z (zb ch), z ((i + 1 : Nat))] (setA D 55 g) (fun r => ∃ (g : Nat → Int32) (m' : Nat → Nat) (ch : Bool), r = (0, some (.int (z (zb ch))), setA D 55 g) ∧ (∀ j, j < 36 → g j = z ((m' j : Nat))) ∧ (∀ c, c < 36 → m' c ≤ m c) ∧ (∀ c, c < 36 → adj x c → m' c ≤ m x + v (4 + c)) ∧ (∀ c, c < 36 → m' c = m c ∨ (adj x c ∧ m' c = m x + v (4 + c) ∧ m' c < m c)) ∧ ((ch = false ∧ ∀ c, c < 36 → m' c = m c) ∨ (ch = true ∧ ∃ c, c < 36 ∧ m' c < m c))) := by
        intro h
        refine hk _ _ ⟨g, m', ch, rfl, rfl, h0, h1, fun d hd c hc e => ?_, h3, h4⟩
        by_cases e2 : d = i
        · subst e2
          exact h c hc e
        · exact h2 d (by omega) c hc e
      refine RunP.go ?_
      show Wp (b_X10_goOn_1 _ _ _ _) _
      unfold b_X10_goOn_1
      simp (disch := omega) only [z_add, z_sub, z_mul, z_neg, ite_T, ite_F, zl_0, zl_1, zl_2, zl_3, zl_4, zl_5, zl_6, zl_7, zl_8, zl_9, zl_10, zl_11, zl_12, zl_13, zl_14, zl_15, zl_16, zl_17, zl_18, zl_19, zl_20, zl_21, zl_22, zl_23, zl_24, zl_25, zl_26, zl_27, zl_28, zl_29, zl_30, zl_31, zl_32, zl_33, zl_34, zl_35, zl_36, zl_37, zl_38, zl_39, zl_40, zl_41, zl_42, zl_43, zl_44, zl_45, zl_46, zl_47, zl_48, zl_49, zl_50, zl_51, zl_52, zl_53, zl_54, zl_55, zl_56, zl_57, zl_58, zl_59, zl_60, zl_61, zl_62, zl_63, zl_64, zl_97, zl_99, zl_100, zl_126, zl_255, zl_434, zl_496, zl_1000000, zl_100000, z_lt, z_le, z_eq, inB_z, z_div, Int.reduceToNat, Wp_some, Nx_l, Nx_r, cI_i, cV_v, cL_l, ite_t, ite_f, z_nn, toNat_c, bz_e0, s_neighbourOf hx hi, s_isCell hx]
      by_cases hneg : nbC x i < 0
      · rw [s_isCell_f (by omega) (by omega) (Or.inl hneg), cI_i]
        simp (disch := omega) only [z_add, z_sub, z_mul, z_neg, ite_T, ite_F, zl_0, zl_1, zl_2, zl_3, zl_4, zl_5, zl_6, zl_7, zl_8, zl_9, zl_10, zl_11, zl_12, zl_13, zl_14, zl_15, zl_16, zl_17, zl_18, zl_19, zl_20, zl_21, zl_22, zl_23, zl_24, zl_25, zl_26, zl_27, zl_28, zl_29, zl_30, zl_31, zl_32, zl_33, zl_34, zl_35, zl_36, zl_37, zl_38, zl_39, zl_40, zl_41, zl_42, zl_43, zl_44, zl_45, zl_46, zl_47, zl_48, zl_49, zl_50, zl_51, zl_52, zl_53, zl_54, zl_55, zl_56, zl_57, zl_58, zl_59, zl_60, zl_61, zl_62, zl_63, zl_64, zl_97, zl_99, zl_100, zl_126, zl_255, zl_434, zl_496, zl_1000000, zl_100000, z_lt, z_le, z_eq, inB_z, z_div, Int.reduceToNat, Wp_some, Nx_l, Nx_r, cI_i, cV_v, cL_l, ite_t, ite_f, z_nn, toNat_c, bz_e0]
        exact same (fun c hc e => by omega)
      · obtain ⟨y, hy⟩ := Int.eq_ofNat_of_zero_le (show 0 ≤ nbC x i by omega)
        have hy36 : y < 36 := by omega
        have w1 := hW.1 y hy36
        have b1 := hB x hx
        have b2 := hB y hy36
        have b3 := h1 y hy36
        rw [hy]
        simp (disch := omega) only [z_add, z_sub, z_mul, z_neg, ite_T, ite_F, zl_0, zl_1, zl_2, zl_3, zl_4, zl_5, zl_6, zl_7, zl_8, zl_9, zl_10, zl_11, zl_12, zl_13, zl_14, zl_15, zl_16, zl_17, zl_18, zl_19, zl_20, zl_21, zl_22, zl_23, zl_24, zl_25, zl_26, zl_27, zl_28, zl_29, zl_30, zl_31, zl_32, zl_33, zl_34, zl_35, zl_36, zl_37, zl_38, zl_39, zl_40, zl_41, zl_42, zl_43, zl_44, zl_45, zl_46, zl_47, zl_48, zl_49, zl_50, zl_51, zl_52, zl_53, zl_54, zl_55, zl_56, zl_57, zl_58, zl_59, zl_60, zl_61, zl_62, zl_63, zl_64, zl_97, zl_99, zl_100, zl_126, zl_255, zl_434, zl_496, zl_1000000, zl_100000, z_lt, z_le, z_eq, inB_z, z_div, Int.reduceToNat, Wp_some, Nx_l, Nx_r, cI_i, cV_v, cL_l, ite_t, ite_f, z_nn, toNat_c, bz_e0, s_isCell hy36, s_hardnessAt hC' hy36, setA_same, h0 x hx, h0 y hy36, hmx]
        split
        · rename_i hle
          rw [Wp_some, Nx_l]
          exact same (fun c hc e => by
            have e2 : c = y := by omega
            rw [e2]
            omega)
        · rename_i hgt
          rw [Wp_some, Nx_l, setA_two]
          have hadj : adj x y := (nbC_adj hx hy36).mp ⟨i, hi, hy⟩
          refine hk _ _ ⟨_, fun c => if c = y then m x + v (4 + y) else m' c, true, rfl, rfl, fun j hj => ?_, fun c hc => ?_, fun d hd c hc e => ?_, fun c hc => ?_, Or.inr ⟨rfl, y, hy36, ?_⟩⟩
          · show upd g y (z ((m x : Int) + v (4 + y))) j = z ((if j = y then m x + v (4 + y) else m' j : Nat))
            by_cases e : j = y
            · rw [e, upd_same, if_pos rfl]
              rfl
            · rw [upd_ne _ _ e, if_neg e]
              exact h0 j hj
          · show (if c = y then m x + v (4 + y) else m' c) ≤ m c
            split
            · rename_i e
              rw [e]
              omega
            · exact h1 c hc
          · show (if c = y then m x + v (4 + y) else m' c) ≤ _
            split
            · rename_i e
              rw [e]
              exact Nat.le_refl _
            · by_cases e2 : d = i
              · subst e2
                omega
              · exact h2 d (by omega) c hc e
          · show (if c = y then m x + v (4 + y) else m' c) = m c ∨ (adj x c ∧ (if c = y then m x + v (4 + y) else m' c) = m x + v (4 + c) ∧ (if c = y then m x + v (4 + y) else m' c) < m c)
            by_cases e : c = y
            · subst e
              rw [if_pos rfl]
              exact Or.inr ⟨hadj, rfl, by omega⟩
            · rw [if_neg e]
              exact h3 c hc
          · show (if y = y then m x + v (4 + y) else m' y) < m y
            rw [if_pos rfl]
            omega
    · rintro ls D' ⟨g, m', ch, rfl, rfl, h0, h1, h2, h3, h4⟩
      refine RunP.go ?_
      show Wp (b_X10_goOn_1 _ _ _ _) _
      unfold b_X10_goOn_1
      simp (disch := omega) only [z_add, z_sub, z_mul, z_neg, ite_T, ite_F, zl_0, zl_1, zl_2, zl_3, zl_4, zl_5, zl_6, zl_7, zl_8, zl_9, zl_10, zl_11, zl_12, zl_13, zl_14, zl_15, zl_16, zl_17, zl_18, zl_19, zl_20, zl_21, zl_22, zl_23, zl_24, zl_25, zl_26, zl_27, zl_28, zl_29, zl_30, zl_31, zl_32, zl_33, zl_34, zl_35, zl_36, zl_37, zl_38, zl_39, zl_40, zl_41, zl_42, zl_43, zl_44, zl_45, zl_46, zl_47, zl_48, zl_49, zl_50, zl_51, zl_52, zl_53, zl_54, zl_55, zl_56, zl_57, zl_58, zl_59, zl_60, zl_61, zl_62, zl_63, zl_64, zl_97, zl_99, zl_100, zl_126, zl_255, zl_434, zl_496, zl_1000000, zl_100000, z_lt, z_le, z_eq, inB_z, z_div, Int.reduceToNat, Wp_some, Nx_l, Nx_r, cI_i, cV_v, cL_l, ite_t, ite_f, z_nn, toNat_c, bz_e0, na_zb]
      exact ⟨g, m', ch, rfl, h0, h1, fun c hc hadj => by
        obtain ⟨d, u1, u2⟩ := (nbC_adj hx hc).mpr hadj
        exact h2 d u1 c hc u2, h3, h4⟩
  obtain ⟨r, h1, g, m', ch, rfl, h2⟩ := key
  exact ⟨g, m', ch, h1, h2⟩
theorem s_start (hC : CS D v) (hW : WF v) : ∃ (g : Nat → Int32) (m : Nat → Nat), S_X10_start D = some (0, none, setA D 55 g) ∧ (∀ j, j < 36 → g j = z ((m j : Nat))) ∧ Ok v 1000000 m := by
  have key : ∃ r, run T_X10_start FUEL 0 [] D = some r ∧ ∃ g, r = (0, none, setA D 55 g) ∧ ∀ j, j < 36 → g j = z ((if j % 6 = 0 then v (4 + j) else 1000000 : Nat)) := by
    refine RunP.fin (c := 100) ?_ (by decide)
    refine RunP.go ?_
    show Wp (b_X10_start_0 _) _
    unfold b_X10_start_0
    simp only [Int.reduceToNat, Wp_some, Nx_l, Nx_r, cI_i, cV_v, cL_l, ite_t, ite_f, z_nn, toNat_c, bz_e0, z_add, z_sub, z_mul, z_neg, ite_T, ite_F, zl_0, zl_1, zl_2, zl_3, zl_4, zl_5, zl_6, zl_7, zl_8, zl_9, zl_10, zl_11, zl_12, zl_13, zl_14, zl_15, zl_16, zl_17, zl_18, zl_19, zl_20, zl_21, zl_22, zl_23, zl_24, zl_25, zl_26, zl_27, zl_28, zl_29, zl_30, zl_31, zl_32, zl_33, zl_34, zl_35, zl_36, zl_37, zl_38, zl_39, zl_40, zl_41, zl_42, zl_43, zl_44, zl_45, zl_46, zl_47, zl_48, zl_49, zl_50, zl_51, zl_52, zl_53, zl_54, zl_55, zl_56, zl_57, zl_58, zl_59, zl_60, zl_61, zl_62, zl_63, zl_64, zl_97, zl_99, zl_100, zl_126, zl_255, zl_434, zl_496, zl_1000000, zl_100000]
    refine RunP.loop (fun i ls D' => ∃ g : Nat → Int32, D' = setA D 55 g ∧ ls = [z i] ∧ ∀ j, j < i → g j = z ((if j % 6 = 0 then v (4 + j) else 1000000 : Nat))) 36 1 1 ?_ ?_ 0 _ _ (by omega) ⟨D.2.2.1 55, (setA_self D 55).symm, rfl, fun j h => by omega⟩ (by omega)
    · rintro i ls D' c hi ⟨g, rfl, rfl, h0⟩ hk
      have hC' : CS (setA D 55 g) v := hC.fc (FC.rfl.sA rfl)
      refine RunP.go ?_
      show Wp (b_X10_start_1 _ _) _
      unfold b_X10_start_1
      simp (disch := omega) only [z_add, z_sub, z_mul, z_neg, ite_T, ite_F, zl_0, zl_1, zl_2, zl_3, zl_4, zl_5, zl_6, zl_7, zl_8, zl_9, zl_10, zl_11, zl_12, zl_13, zl_14, zl_15, zl_16, zl_17, zl_18, zl_19, zl_20, zl_21, zl_22, zl_23, zl_24, zl_25, zl_26, zl_27, zl_28, zl_29, zl_30, zl_31, zl_32, zl_33, zl_34, zl_35, zl_36, zl_37, zl_38, zl_39, zl_40, zl_41, zl_42, zl_43, zl_44, zl_45, zl_46, zl_47, zl_48, zl_49, zl_50, zl_51, zl_52, zl_53, zl_54, zl_55, zl_56, zl_57, zl_58, zl_59, zl_60, zl_61, zl_62, zl_63, zl_64, zl_97, zl_99, zl_100, zl_126, zl_255, zl_434, zl_496, zl_1000000, zl_100000, z_lt, z_le, z_eq, inB_z, z_div, Int.reduceToNat, Wp_some, Nx_l, Nx_r, cI_i, cV_v, cL_l, ite_t, ite_f, z_nn, toNat_c, bz_e0, s_hardnessAt hC' hi, setA_same, setA_two]
      split
      · rename_i e
        rw [Wp_some, Nx_l]
        refine hk _ _ ⟨_, rfl, rfl, fun j hj => ?_⟩
        by_cases e2 : j = i
        · rw [e2, upd_same, if_pos (by omega)]
        · rw [upd_ne _ _ e2]
          exact h0 j (by omega)
      · rename_i e
        rw [Wp_some, Nx_l]
        refine hk _ _ ⟨_, rfl, rfl, fun j hj => ?_⟩
        by_cases e2 : j = i
        · rw [e2, upd_same, if_neg (by omega)]
          rfl
        · rw [upd_ne _ _ e2]
          exact h0 j (by omega)
    · rintro ls D' ⟨g, rfl, rfl, h0⟩
      refine RunP.go ?_
      show Wp (b_X10_start_1 _ _) _
      unfold b_X10_start_1
      simp (disch := omega) only [z_add, z_sub, z_mul, z_neg, ite_T, ite_F, zl_0, zl_1, zl_2, zl_3, zl_4, zl_5, zl_6, zl_7, zl_8, zl_9, zl_10, zl_11, zl_12, zl_13, zl_14, zl_15, zl_16, zl_17, zl_18, zl_19, zl_20, zl_21, zl_22, zl_23, zl_24, zl_25, zl_26, zl_27, zl_28, zl_29, zl_30, zl_31, zl_32, zl_33, zl_34, zl_35, zl_36, zl_37, zl_38, zl_39, zl_40, zl_41, zl_42, zl_43, zl_44, zl_45, zl_46, zl_47, zl_48, zl_49, zl_50, zl_51, zl_52, zl_53, zl_54, zl_55, zl_56, zl_57, zl_58, zl_59, zl_60, zl_61, zl_62, zl_63, zl_64, zl_97, zl_99, zl_100, zl_126, zl_255, zl_434, zl_496, zl_1000000, zl_100000, z_lt, z_le, z_eq, inB_z, z_div, Int.reduceToNat, Wp_some, Nx_l, Nx_r, cI_i, cV_v, cL_l, ite_t, ite_f, z_nn, toNat_c, bz_e0]
      exact ⟨g, rfl, h0⟩
  obtain ⟨r, h1, g, rfl, h2⟩ := key
  refine ⟨g, fun j => if j % 6 = 0 then v (4 + j) else 1000000, h1, h2, fun c hc => ?_, fun c hc => ?_, fun c hc e => ?_⟩
  · show (if c % 6 = 0 then v (4 + c) else 1000000) = _ ∨ _
    by_cases e : c % 6 = 0
    · right
      exact ⟨0, hc, e, if_pos e⟩
    · exact Or.inl (if_neg e)
  · show (if c % 6 = 0 then v (4 + c) else 1000000) ≤ _
    have := hW.1 c hc
    split <;> omega
  · show (if c % 6 = 0 then v (4 + c) else 1000000) ≤ _
    rw [if_pos e]
    exact Nat.le_refl _
theorem s_leastAtEnd (hr : ∀ j, j < 36 → D.2.2.1 55 j = z (m j)) (hB : ∀ c, c < 36 → m c ≤ 1000000) : ∃ A : Nat, S_X10_leastAtEnd D = some (0, some (.int (z A)), D) ∧ (∀ r, r < 6 → A ≤ m (6 * r + 5)) ∧ (A = 1000000 ∨ ∃ r, r < 6 ∧ A = m (6 * r + 5)) := by
  have key : ∃ r, run T_X10_leastAtEnd FUEL 0 [] D = some r ∧ ∃ A : Nat, r = (0, some (.int (z A)), D) ∧ (∀ r, r < 6 → A ≤ m (6 * r + 5)) ∧ (A = 1000000 ∨ ∃ r, r < 6 ∧ A = m (6 * r + 5)) := by
    refine RunP.fin (c := 100) ?_ (by decide)
    refine RunP.go ?_
    show Wp (b_X10_leastAtEnd_0 _) _
    unfold b_X10_leastAtEnd_0
    simp only [Int.reduceToNat, Wp_some, Nx_l, Nx_r, cI_i, cV_v, cL_l, ite_t, ite_f, z_nn, toNat_c, bz_e0, z_add, z_sub, z_mul, z_neg, ite_T, ite_F, zl_0, zl_1, zl_2, zl_3, zl_4, zl_5, zl_6, zl_7, zl_8, zl_9, zl_10, zl_11, zl_12, zl_13, zl_14, zl_15, zl_16, zl_17, zl_18, zl_19, zl_20, zl_21, zl_22, zl_23, zl_24, zl_25, zl_26, zl_27, zl_28, zl_29, zl_30, zl_31, zl_32, zl_33, zl_34, zl_35, zl_36, zl_37, zl_38, zl_39, zl_40, zl_41, zl_42, zl_43, zl_44, zl_45, zl_46, zl_47, zl_48, zl_49, zl_50, zl_51, zl_52, zl_53, zl_54, zl_55, zl_56, zl_57, zl_58, zl_59, zl_60, zl_61, zl_62, zl_63, zl_64, zl_97, zl_99, zl_100, zl_126, zl_255, zl_434, zl_496, zl_1000000, zl_100000]
    refine RunP.loop (fun i ls D' => D' = D ∧ ∃ A : Nat, ls = [z A, z i] ∧ A ≤ 1000000 ∧ (∀ r, r < i → A ≤ m (6 * r + 5)) ∧ (A = 1000000 ∨ ∃ r, r < 6 ∧ A = m (6 * r + 5))) 6 1 1 ?_ ?_ 0 _ _ (by omega) ⟨rfl, 1000000, rfl, by omega, fun r h => by omega, Or.inl rfl⟩ (by omega)
    · rintro i ls D' c hi ⟨rfl, A, rfl, h0, h1, h2⟩ hk
      have b := hB (6 * i + 5) (by omega)
      have hh := hr (6 * i + 5) (by omega)
      refine RunP.go ?_
      show Wp (b_X10_leastAtEnd_1 _ _ _) _
      unfold b_X10_leastAtEnd_1
      have e5 : ((i : Int) * 6 + 6 - 1).toNat = 6 * i + 5 := by omega
      simp (disch := omega) only [z_add, z_sub, z_mul, z_neg, ite_T, ite_F, zl_0, zl_1, zl_2, zl_3, zl_4, zl_5, zl_6, zl_7, zl_8, zl_9, zl_10, zl_11, zl_12, zl_13, zl_14, zl_15, zl_16, zl_17, zl_18, zl_19, zl_20, zl_21, zl_22, zl_23, zl_24, zl_25, zl_26, zl_27, zl_28, zl_29, zl_30, zl_31, zl_32, zl_33, zl_34, zl_35, zl_36, zl_37, zl_38, zl_39, zl_40, zl_41, zl_42, zl_43, zl_44, zl_45, zl_46, zl_47, zl_48, zl_49, zl_50, zl_51, zl_52, zl_53, zl_54, zl_55, zl_56, zl_57, zl_58, zl_59, zl_60, zl_61, zl_62, zl_63, zl_64, zl_97, zl_99, zl_100, zl_126, zl_255, zl_434, zl_496, zl_1000000, zl_100000, z_lt, z_le, z_eq, inB_z, z_div, Int.reduceToNat, Wp_some, Nx_l, Nx_r, cI_i, cV_v, cL_l, ite_t, ite_f, z_nn, toNat_c, bz_e0, e5, hh]
      split
      · rename_i e
        refine hk _ _ ⟨rfl, m (6 * i + 5), rfl, b, fun r h => ?_, Or.inr ⟨i, hi, rfl⟩⟩
        by_cases e2 : r = i
        · rw [e2]
          exact Nat.le_refl _
        · have := h1 r (by omega)
          omega
      · rename_i e
        refine hk _ _ ⟨rfl, A, rfl, h0, fun r h => ?_, h2⟩
        by_cases e2 : r = i
        · rw [e2]
          omega
        · exact h1 r (by omega)
    · rintro ls D' ⟨rfl, A, rfl, h0, h1, h2⟩
      refine RunP.go ?_
      show Wp (b_X10_leastAtEnd_1 _ _ _) _
      unfold b_X10_leastAtEnd_1
      simp (disch := omega) only [z_add, z_sub, z_mul, z_neg, ite_T, ite_F, zl_0, zl_1, zl_2, zl_3, zl_4, zl_5, zl_6, zl_7, zl_8, zl_9, zl_10, zl_11, zl_12, zl_13, zl_14, zl_15, zl_16, zl_17, zl_18, zl_19, zl_20, zl_21, zl_22, zl_23, zl_24, zl_25, zl_26, zl_27, zl_28, zl_29, zl_30, zl_31, zl_32, zl_33, zl_34, zl_35, zl_36, zl_37, zl_38, zl_39, zl_40, zl_41, zl_42, zl_43, zl_44, zl_45, zl_46, zl_47, zl_48, zl_49, zl_50, zl_51, zl_52, zl_53, zl_54, zl_55, zl_56, zl_57, zl_58, zl_59, zl_60, zl_61, zl_62, zl_63, zl_64, zl_97, zl_99, zl_100, zl_126, zl_255, zl_434, zl_496, zl_1000000, zl_100000, z_lt, z_le, z_eq, inB_z, z_div, Int.reduceToNat, Wp_some, Nx_l, Nx_r, cI_i, cV_v, cL_l, ite_t, ite_f, z_nn, toNat_c, bz_e0]
      exact ⟨A, rfl, h1, h2⟩
  obtain ⟨r, h1, A, rfl, h2⟩ := key
  exact ⟨A, h1, h2⟩
theorem s_nearest {S : Nat → Bool} (hr : ∀ j, j < 36 → D.2.2.1 55 j = z (m j)) (hs : ∀ j, j < 36 → D.2.2.1 56 j = z (zb (S j))) (hB : ∀ c, c < 36 → m c ≤ 1000000) : ∃ u : Int, S_X10_nearest D = some (0, some (.int (z u)), D) ∧ ((u = -1 ∧ ∀ j, j < 36 → S j = false → 1000000 ≤ m j) ∨ ∃ b : Nat, u = b ∧ b < 36 ∧ S b = false ∧ m b < 1000000 ∧ ∀ j, j < 36 → S j = false → m b ≤ m j) := by
  have key : ∃ r, run T_X10_nearest FUEL 0 [] D = some r ∧ ∃ u : Int, r = (0, some (.int (z u)), D) ∧ ((u = -1 ∧ ∀ j, j < 36 → S j = false → 1000000 ≤ m j) ∨ ∃ b : Nat, u = b ∧ b < 36 ∧ S b = false ∧ m b < 1000000 ∧ ∀ j, j < 36 → S j = false → m b ≤ m j) := by
    refine RunP.fin (c := 100) ?_ (by decide)
    refine RunP.go ?_
    show Wp (b_X10_nearest_0 _) _
    unfold b_X10_nearest_0
    simp only [Int.reduceToNat, Wp_some, Nx_l, Nx_r, cI_i, cV_v, cL_l, ite_t, ite_f, z_nn, toNat_c, bz_e0, z_add, z_sub, z_mul, z_neg, ite_T, ite_F, zl_0, zl_1, zl_2, zl_3, zl_4, zl_5, zl_6, zl_7, zl_8, zl_9, zl_10, zl_11, zl_12, zl_13, zl_14, zl_15, zl_16, zl_17, zl_18, zl_19, zl_20, zl_21, zl_22, zl_23, zl_24, zl_25, zl_26, zl_27, zl_28, zl_29, zl_30, zl_31, zl_32, zl_33, zl_34, zl_35, zl_36, zl_37, zl_38, zl_39, zl_40, zl_41, zl_42, zl_43, zl_44, zl_45, zl_46, zl_47, zl_48, zl_49, zl_50, zl_51, zl_52, zl_53, zl_54, zl_55, zl_56, zl_57, zl_58, zl_59, zl_60, zl_61, zl_62, zl_63, zl_64, zl_97, zl_99, zl_100, zl_126, zl_255, zl_434, zl_496, zl_1000000, zl_100000]
    refine RunP.loop (fun i ls D' => D' = D ∧ ∃ (u : Int) (l : Nat), ls = [z u, z l, z i] ∧ l ≤ 1000000 ∧ ((u = -1 ∧ l = 1000000 ∧ ∀ j, j < i → S j = false → 1000000 ≤ m j) ∨ ∃ b : Nat, u = b ∧ l = m b ∧ b < 36 ∧ S b = false ∧ m b < 1000000 ∧ ∀ j, j < i → S j = false → m b ≤ m j)) 36 1 1 ?_ ?_ 0 _ _ (by omega) ⟨rfl, -1, 1000000, rfl, by omega, Or.inl ⟨rfl, rfl, fun j h => by omega⟩⟩ (by omega)
    · rintro i ls D' c hi ⟨rfl, u, l, rfl, h0, h1⟩ hk
      have b := hB i hi
      refine RunP.go ?_
      show Wp (b_X10_nearest_1 _ _ _ _) _
      unfold b_X10_nearest_1
      simp (disch := omega) only [z_add, z_sub, z_mul, z_neg, ite_T, ite_F, zl_0, zl_1, zl_2, zl_3, zl_4, zl_5, zl_6, zl_7, zl_8, zl_9, zl_10, zl_11, zl_12, zl_13, zl_14, zl_15, zl_16, zl_17, zl_18, zl_19, zl_20, zl_21, zl_22, zl_23, zl_24, zl_25, zl_26, zl_27, zl_28, zl_29, zl_30, zl_31, zl_32, zl_33, zl_34, zl_35, zl_36, zl_37, zl_38, zl_39, zl_40, zl_41, zl_42, zl_43, zl_44, zl_45, zl_46, zl_47, zl_48, zl_49, zl_50, zl_51, zl_52, zl_53, zl_54, zl_55, zl_56, zl_57, zl_58, zl_59, zl_60, zl_61, zl_62, zl_63, zl_64, zl_97, zl_99, zl_100, zl_126, zl_255, zl_434, zl_496, zl_1000000, zl_100000, z_lt, z_le, z_eq, inB_z, z_div, Int.reduceToNat, Wp_some, Nx_l, Nx_r, cI_i, cV_v, cL_l, ite_t, ite_f, z_nn, toNat_c, bz_e0, hr i hi, hs i hi, zb_0]
      cases hS : S i with
      | true =>
        rw [if_neg (by simp), Wp_some, Nx_l]
        refine hk _ _ ⟨rfl, u, l, rfl, h0, ?_⟩
        have ext : ∀ q : Nat → Prop, (∀ j, j < i → S j = false → q j) → ∀ j, j < i + 1 → S j = false → q j := by
          intro q h j hj hSj
          by_cases e : j = i
          · rw [e, hS] at hSj
            cases hSj
          · exact h j (by omega) hSj
        rcases h1 with ⟨e1, e2, e3⟩ | ⟨b, e1, e2, e3, e4, e5, e6⟩
        · exact Or.inl ⟨e1, e2, ext _ e3⟩
        · exact Or.inr ⟨b, e1, e2, e3, e4, e5, ext _ e6⟩
      | false =>
        rw [if_pos rfl]
        split
        · rename_i hle
          rw [Wp_some, Nx_l]
          refine hk _ _ ⟨rfl, u, l, rfl, h0, ?_⟩
          rcases h1 with ⟨e1, e2, e3⟩ | ⟨b, e1, e2, e3, e4, e5, e6⟩
          · refine Or.inl ⟨e1, e2, fun j hj hSj => ?_⟩
            by_cases e : j = i
            · rw [e]
              omega
            · exact e3 j (by omega) hSj
          · refine Or.inr ⟨b, e1, e2, e3, e4, e5, fun j hj hSj => ?_⟩
            by_cases e : j = i
            · rw [e]
              omega
            · exact e6 j (by omega) hSj
        · rename_i hgt
          rw [Wp_some, Nx_l]
          refine hk _ _ ⟨rfl, i, m i, rfl, b, Or.inr ⟨i, rfl, rfl, hi, hS, by omega, fun j hj hSj => ?_⟩⟩
          by_cases e : j = i
          · rw [e]
            exact Nat.le_refl _
          · rcases h1 with ⟨e1, e2, e3⟩ | ⟨b, e1, e2, e3, e4, e5, e6⟩
            · have := e3 j (by omega) hSj
              omega
            · have := e6 j (by omega) hSj
              omega
    · rintro ls D' ⟨rfl, u, l, rfl, h0, h1⟩
      refine RunP.go ?_
      show Wp (b_X10_nearest_1 _ _ _ _) _
      unfold b_X10_nearest_1
      simp (disch := omega) only [z_add, z_sub, z_mul, z_neg, ite_T, ite_F, zl_0, zl_1, zl_2, zl_3, zl_4, zl_5, zl_6, zl_7, zl_8, zl_9, zl_10, zl_11, zl_12, zl_13, zl_14, zl_15, zl_16, zl_17, zl_18, zl_19, zl_20, zl_21, zl_22, zl_23, zl_24, zl_25, zl_26, zl_27, zl_28, zl_29, zl_30, zl_31, zl_32, zl_33, zl_34, zl_35, zl_36, zl_37, zl_38, zl_39, zl_40, zl_41, zl_42, zl_43, zl_44, zl_45, zl_46, zl_47, zl_48, zl_49, zl_50, zl_51, zl_52, zl_53, zl_54, zl_55, zl_56, zl_57, zl_58, zl_59, zl_60, zl_61, zl_62, zl_63, zl_64, zl_97, zl_99, zl_100, zl_126, zl_255, zl_434, zl_496, zl_1000000, zl_100000, z_lt, z_le, z_eq, inB_z, z_div, Int.reduceToNat, Wp_some, Nx_l, Nx_r, cI_i, cV_v, cL_l, ite_t, ite_f, z_nn, toNat_c, bz_e0]
      refine ⟨u, rfl, ?_⟩
      rcases h1 with ⟨e1, e2, e3⟩ | ⟨b, e1, e2, e3, e4, e5, e6⟩
      · exact Or.inl ⟨e1, e3⟩
      · exact Or.inr ⟨b, e1, e3, e4, e5, e6⟩
  obtain ⟨r, h1, u, rfl, h2⟩ := key
  exact ⟨u, h1, h2⟩
theorem s_costByNearest (hC : CS D v) (hW : WF v) : ∃ (D' : DD) (A : Nat), S_X10_costByNearest D = some (0, some (.int (z A)), D') ∧ FC D D' ∧ IsMin v A := by
  have key : ∃ r, run T_X10_costByNearest FUEL 0 [] D = some r ∧ ∃ (D' : DD) (A : Nat), r = (0, some (.int (z A)), D') ∧ FC D D' ∧ IsMin v A := by
    obtain ⟨g0, m0, q1, q2, q3⟩ := s_start hC hW
    obtain ⟨g1, q4, q5⟩ := X12_clear_tunnels_settled_ok (setA D 55 g0)
    obtain ⟨kw, w1, w2⟩ := Rn.ex hW 5 5 (by decide) (by decide)
    refine RunP.fin (c := 100) ?_ (by decide)
    refine RunP.go ?_
    show Wp (b_X10_costByNearest_0 _) _
    unfold b_X10_costByNearest_0
    simp only [q1, q4, Int.reduceToNat, Wp_some, Nx_l, Nx_r, cI_i, cV_v, cL_l, ite_t, ite_f, z_nn, toNat_c, bz_e0, z_add, z_sub, z_mul, z_neg, ite_T, ite_F, zl_0, zl_1, zl_2, zl_3, zl_4, zl_5, zl_6, zl_7, zl_8, zl_9, zl_10, zl_11, zl_12, zl_13, zl_14, zl_15, zl_16, zl_17, zl_18, zl_19, zl_20, zl_21, zl_22, zl_23, zl_24, zl_25, zl_26, zl_27, zl_28, zl_29, zl_30, zl_31, zl_32, zl_33, zl_34, zl_35, zl_36, zl_37, zl_38, zl_39, zl_40, zl_41, zl_42, zl_43, zl_44, zl_45, zl_46, zl_47, zl_48, zl_49, zl_50, zl_51, zl_52, zl_53, zl_54, zl_55, zl_56, zl_57, zl_58, zl_59, zl_60, zl_61, zl_62, zl_63, zl_64, zl_97, zl_99, zl_100, zl_126, zl_255, zl_434, zl_496, zl_1000000, zl_100000]
    refine RunP.loop (fun i ls D' => ls = [z i] ∧ FC D D' ∧ ∃ (m : Nat → Nat) (S : Nat → Bool), (∀ j, j < 36 → D'.2.2.1 55 j = z (m j)) ∧ (∀ j, j < 36 → D'.2.2.1 56 j = z (zb (S j))) ∧ Ok v 1000000 m ∧ cnt S 36 = i ∧ (∀ c, c < 36 → S c = true → c % 6 ≠ 5) ∧ (∀ x c, x < 36 → c < 36 → S x = true → adj x c → m c ≤ m x + v (4 + c)) ∧ (∀ x w, x < 36 → w < 36 → S x = true → S w = false → m x ≤ m w)) 36 1 1 ?_ ?_ 0 _ _ (by omega) ⟨rfl, (FC.rfl.sA rfl).sA rfl, m0, fun _ => false, fun j hj => q2 j hj, fun j hj => q5 j hj, q3, by decide, fun c _ h => (by cases h), fun x c _ _ h => (by cases h), fun x w _ _ h => (by cases h)⟩ (by omega)
    · rintro i ls D' c hi ⟨rfl, hf, m, S, h0, h1, h2, h3, h4, h5, h6⟩ hk
      have hC' := hC.fc hf
      obtain ⟨u, u1, u2⟩ := s_nearest h0 h1 h2.2.1
      refine RunP.go ?_
      show Wp (b_X10_costByNearest_1 _ _) _
      unfold b_X10_costByNearest_1
      simp (disch := omega) only [z_add, z_sub, z_mul, z_neg, ite_T, ite_F, zl_0, zl_1, zl_2, zl_3, zl_4, zl_5, zl_6, zl_7, zl_8, zl_9, zl_10, zl_11, zl_12, zl_13, zl_14, zl_15, zl_16, zl_17, zl_18, zl_19, zl_20, zl_21, zl_22, zl_23, zl_24, zl_25, zl_26, zl_27, zl_28, zl_29, zl_30, zl_31, zl_32, zl_33, zl_34, zl_35, zl_36, zl_37, zl_38, zl_39, zl_40, zl_41, zl_42, zl_43, zl_44, zl_45, zl_46, zl_47, zl_48, zl_49, zl_50, zl_51, zl_52, zl_53, zl_54, zl_55, zl_56, zl_57, zl_58, zl_59, zl_60, zl_61, zl_62, zl_63, zl_64, zl_97, zl_99, zl_100, zl_126, zl_255, zl_434, zl_496, zl_1000000, zl_100000, z_lt, z_le, z_eq, inB_z, z_div, Int.reduceToNat, Wp_some, Nx_l, Nx_r, cI_i, cV_v, cL_l, ite_t, ite_f, z_nn, toNat_c, bz_e0, u1]
      rcases u2 with ⟨rfl, u3⟩ | ⟨b, rfl, hb, u3, u4, u5⟩
      · exfalso
        rcases meets h2.2.2 h5 5 5 kw w1 with ⟨s1, -⟩ | ⟨w, s1, s2, s3⟩
        · exact h4 5 (by decide) s1 (by decide)
        · have := u3 w s1 s2
          omega
      · simp (disch := omega) only [z_add, z_sub, z_mul, z_neg, ite_T, ite_F, zl_0, zl_1, zl_2, zl_3, zl_4, zl_5, zl_6, zl_7, zl_8, zl_9, zl_10, zl_11, zl_12, zl_13, zl_14, zl_15, zl_16, zl_17, zl_18, zl_19, zl_20, zl_21, zl_22, zl_23, zl_24, zl_25, zl_26, zl_27, zl_28, zl_29, zl_30, zl_31, zl_32, zl_33, zl_34, zl_35, zl_36, zl_37, zl_38, zl_39, zl_40, zl_41, zl_42, zl_43, zl_44, zl_45, zl_46, zl_47, zl_48, zl_49, zl_50, zl_51, zl_52, zl_53, zl_54, zl_55, zl_56, zl_57, zl_58, zl_59, zl_60, zl_61, zl_62, zl_63, zl_64, zl_97, zl_99, zl_100, zl_126, zl_255, zl_434, zl_496, zl_1000000, zl_100000, z_lt, z_le, z_eq, inB_z, z_div, Int.reduceToNat, Wp_some, Nx_l, Nx_r, cI_i, cV_v, cL_l, ite_t, ite_f, z_nn, toNat_c, bz_e0, s_isCell hb, h0 b hb]
        split
        · rename_i e5
          rw [Wp_some, Nx_r]
          refine ⟨D', m b, rfl, hf, ?_, fun n c k hc hr => ?_⟩
          · rcases h2.1 b hb with q | ⟨n, q⟩
            · omega
            · exact ⟨n, b, by omega, q⟩
          · rcases meets h2.2.2 h5 n c k hr with ⟨s1, -⟩ | ⟨w, s1, s2, s3⟩
            · exact absurd hc (h4 c hr.lt s1)
            · exact Nat.le_trans (u5 w s1 s2) s3
        · rename_i e5
          have hf2 : FC D (setA D' 56 (upd (D'.2.2.1 56) b (vp_nar .boolean (z 1)))) := hf.sA rfl
          obtain ⟨g2, m2, ch, p1, p2, p3, p4, p5, -⟩ := s_goOn (D := setA D' 56 (upd (D'.2.2.1 56) b (vp_nar .boolean (z 1)))) (hC.fc hf2) hW h0 h2.2.1 hb
          rw [p1, cI_i, Wp_some, Nx_l]
          have low : ∀ c, c < 36 → m2 c = m c ∨ (m b ≤ m2 c ∧ S c = false) := by
            intro c hc
            rcases p5 c hc with e | ⟨e1, e2, e3⟩
            · exact Or.inl e
            · refine Or.inr ⟨by omega, ?_⟩
              cases hS : S c
              · rfl
              · have := h6 c b hc hb hS u3
                omega
          have hb2 : m2 b = m b := by
            rcases p5 b hb with e | ⟨e1, -⟩
            · exact e
            · unfold adj at e1
              omega
          refine hk _ _ ⟨rfl, hf2.sA rfl, m2, ub S b, p2, fun j hj => ?_, h2.go hb p3 p5, by rw [cnt_ub hb u3, h3], fun c hc h => ?_, fun x c hx hc h hadj => ?_, fun x w hx hw h1' h2' => ?_⟩
          · show upd (D'.2.2.1 56) b (vp_nar .boolean (z 1)) j = _
            by_cases e : j = b
            · rw [e, upd_same, ub_self, na_1]
              rfl
            · rw [upd_ne _ _ e, ub_ne _ e]
              exact h1 j hj
          · by_cases e : c = b
            · omega
            · rw [ub_ne _ e] at h
              exact h4 c hc h
          · by_cases e : x = b
            · subst e
              rw [hb2]
              exact p4 c hc hadj
            · rw [ub_ne _ e] at h
              have g1 := h5 x c hx hc h hadj
              have g2 := p3 c hc
              rcases low x hx with e1 | ⟨-, e1⟩
              · omega
              · rw [e1] at h
                cases h
          · have hwb : w ≠ b := fun e => by
              rw [e, ub_self] at h2'
              cases h2'
            rw [ub_ne _ hwb] at h2'
            have g3 : m b ≤ m2 w := by
              rcases low w hw with e1 | ⟨e1, -⟩
              · rw [e1]
                exact u5 w hw h2'
              · exact e1
            by_cases e : x = b
            · subst e
              omega
            · rw [ub_ne _ e] at h1'
              have g1 := h6 x b hx hb h1' u3
              have g2 := p3 x hx
              omega
    · rintro ls D' ⟨rfl, hf, m, S, h0, h1, h2, h3, h4, h5, h6⟩
      exact absurd (cnt_all 36 h3 5 (by decide)) (fun h => h4 5 (by decide) h (by decide))
  obtain ⟨r, h1, D', A, rfl, h2⟩ := key
  exact ⟨D', A, h1, h2⟩
theorem s_costByRounds (hC : CS D v) (hW : WF v) : ∃ (D' : DD) (A : Nat), S_X10_costByRounds D = some (0, some (.int (z A)), D') ∧ FC D D' ∧ IsMin v A := by
  have key : ∃ r, run T_X10_costByRounds FUEL 0 [] D = some r ∧ ∃ (D' : DD) (A : Nat), r = (0, some (.int (z A)), D') ∧ FC D D' ∧ IsMin v A := by
    obtain ⟨g0, m0, q1, q2, q3⟩ := s_start hC hW
    obtain ⟨o, hp, ho⟩ := opt_ex hW
    have fin : ∀ (D' : DD) (m : Nat → Nat), FC D D' → (∀ j, j < 36 → D'.2.2.1 55 j = z (m j)) → Ok v 1000000 m → (∀ n c k, Rn v n c k → m c ≤ k) → Wp (cI (S_X10_leastAtEnd D') (fun r5 D4 => (some (.inr (0, some (.int r5), D4)) : Option ((Nat × List Int32 × DD) ⊕ RT)))) (Nx T_X10_costByRounds 5 (fun r => ∃ (D' : DD) (A : Nat), r = (0, some (.int (z A)), D') ∧ FC D D' ∧ IsMin v A)) := by
      intro D' m hf h0 h1 h2
      obtain ⟨A, a1, a2, a3⟩ := s_leastAtEnd h0 h1.2.1
      rw [a1, cI_i, Wp_some, Nx_r]
      exact ⟨D', A, rfl, hf, min_of hW (by decide) h1 h2 a2 a3⟩
    refine RunP.fin (c := 100 * 100) ?_ (by decide)
    refine RunP.go ?_
    show Wp (b_X10_costByRounds_0 _) _
    unfold b_X10_costByRounds_0
    simp only [q1, Int.reduceToNat, Wp_some, Nx_l, Nx_r, cI_i, cV_v, cL_l, ite_t, ite_f, z_nn, toNat_c, bz_e0, z_add, z_sub, z_mul, z_neg, ite_T, ite_F, zl_0, zl_1, zl_2, zl_3, zl_4, zl_5, zl_6, zl_7, zl_8, zl_9, zl_10, zl_11, zl_12, zl_13, zl_14, zl_15, zl_16, zl_17, zl_18, zl_19, zl_20, zl_21, zl_22, zl_23, zl_24, zl_25, zl_26, zl_27, zl_28, zl_29, zl_30, zl_31, zl_32, zl_33, zl_34, zl_35, zl_36, zl_37, zl_38, zl_39, zl_40, zl_41, zl_42, zl_43, zl_44, zl_45, zl_46, zl_47, zl_48, zl_49, zl_50, zl_51, zl_52, zl_53, zl_54, zl_55, zl_56, zl_57, zl_58, zl_59, zl_60, zl_61, zl_62, zl_63, zl_64, zl_97, zl_99, zl_100, zl_126, zl_255, zl_434, zl_496, zl_1000000, zl_100000]
    refine RunP.loopE (fun i ls D' => FC D D' ∧ ∃ (m : Nat → Nat) (ch : Bool), ls = [z (zb ch), z i] ∧ (∀ j, j < 36 → D'.2.2.1 55 j = z (m j)) ∧ Ok v 1000000 m ∧ ((ch = true ∧ i ≤ cnt (fun c => decide (m c = o c)) 36) ∨ (ch = false ∧ ∀ x c, x < 36 → c < 36 → adj x c → m c ≤ m x + v (4 + c)))) 36 40 6 ?_ ?_ 0 _ _ (by omega) ⟨FC.rfl.sA rfl, m0, true, rfl, fun j hj => q2 j hj, q3, Or.inl ⟨rfl, by omega⟩⟩ (by omega)
    · rintro i ls D' c hc6 hi ⟨hf, m, ch, rfl, h0, h1, h2⟩ hk
      have hC' := hC.fc hf
      rcases h2 with ⟨rfl, h2⟩ | ⟨rfl, h2⟩
      · refine RunP.mono (c := (c + 39) + 1) ?_ (by omega)
        refine RunP.go ?_
        show Wp (b_X10_costByRounds_1 _ _ _) _
        unfold b_X10_costByRounds_1
        simp (disch := omega) only [z_add, z_sub, z_mul, z_neg, ite_T, ite_F, zl_0, zl_1, zl_2, zl_3, zl_4, zl_5, zl_6, zl_7, zl_8, zl_9, zl_10, zl_11, zl_12, zl_13, zl_14, zl_15, zl_16, zl_17, zl_18, zl_19, zl_20, zl_21, zl_22, zl_23, zl_24, zl_25, zl_26, zl_27, zl_28, zl_29, zl_30, zl_31, zl_32, zl_33, zl_34, zl_35, zl_36, zl_37, zl_38, zl_39, zl_40, zl_41, zl_42, zl_43, zl_44, zl_45, zl_46, zl_47, zl_48, zl_49, zl_50, zl_51, zl_52, zl_53, zl_54, zl_55, zl_56, zl_57, zl_58, zl_59, zl_60, zl_61, zl_62, zl_63, zl_64, zl_97, zl_99, zl_100, zl_126, zl_255, zl_434, zl_496, zl_1000000, zl_100000, z_lt, z_le, z_eq, inB_z, z_div, Int.reduceToNat, Wp_some, Nx_l, Nx_r, cI_i, cV_v, cL_l, ite_t, ite_f, z_nn, toNat_c, bz_e0, zb_t]
        refine RunP.loop (fun x ls D2 => FC D D2 ∧ ∃ (m2 : Nat → Nat) (ch : Bool), ls = [z (zb ch), z i, z x] ∧ (∀ j, j < 36 → D2.2.2.1 55 j = z (m2 j)) ∧ Ok v 1000000 m2 ∧ (∀ c, c < 36 → m2 c ≤ m c) ∧ (∀ y c, y < x → c < 36 → adj y c → m2 c ≤ m y + v (4 + c)) ∧ ((ch = false ∧ ∀ c, c < 36 → m2 c = m c) ∨ (ch = true ∧ ∃ c, c < 36 ∧ m2 c < m c))) 36 1 (c + 1) ?_ ?_ 0 _ _ (by omega) ⟨hf, m, false, rfl, h0, h1, fun c _ => Nat.le_refl _, fun y c h => by omega, Or.inl ⟨rfl, fun c _ => rfl⟩⟩ (by omega)
        · rintro x ls D2 c2 hx ⟨hf2, m2, ch, rfl, k0, k1, k2, k3, k4⟩ hk2
          obtain ⟨g3, m3, ch3, p1, p2, p3, p4, p5, p6⟩ := s_goOn (hC.fc hf2) hW k0 k1.2.1 hx
          refine RunP.go ?_
          show Wp (b_X10_costByRounds_2 _ _ _ _) _
          unfold b_X10_costByRounds_2
          simp (disch := omega) only [z_add, z_sub, z_mul, z_neg, ite_T, ite_F, zl_0, zl_1, zl_2, zl_3, zl_4, zl_5, zl_6, zl_7, zl_8, zl_9, zl_10, zl_11, zl_12, zl_13, zl_14, zl_15, zl_16, zl_17, zl_18, zl_19, zl_20, zl_21, zl_22, zl_23, zl_24, zl_25, zl_26, zl_27, zl_28, zl_29, zl_30, zl_31, zl_32, zl_33, zl_34, zl_35, zl_36, zl_37, zl_38, zl_39, zl_40, zl_41, zl_42, zl_43, zl_44, zl_45, zl_46, zl_47, zl_48, zl_49, zl_50, zl_51, zl_52, zl_53, zl_54, zl_55, zl_56, zl_57, zl_58, zl_59, zl_60, zl_61, zl_62, zl_63, zl_64, zl_97, zl_99, zl_100, zl_126, zl_255, zl_434, zl_496, zl_1000000, zl_100000, z_lt, z_le, z_eq, inB_z, z_div, Int.reduceToNat, Wp_some, Nx_l, Nx_r, cI_i, cV_v, cL_l, ite_t, ite_f, z_nn, toNat_c, bz_e0, p1, zb_0]
          have J : ∀ ch' : Bool, ((ch' = false ∧ ∀ c, c < 36 → m3 c = m c) ∨ (ch' = true ∧ ∃ c, c < 36 ∧ m3 c < m c)) → RunP T_X10_costByRounds c2 2 [z (zb ch'), z i, z ((x + 1 : Nat))] (setA D2 55 g3) (fun r => ∃ (D' : DD) (A : Nat), r = (0, some (.int (z A)), D') ∧ FC D D' ∧ IsMin v A) := by
            intro ch' hch
            refine hk2 _ _ ⟨hf2.sA rfl, m3, ch', rfl, p2, k1.go hx p3 p5, fun c hc => Nat.le_trans (p3 c hc) (k2 c hc), fun y c hy hc hadj => ?_, hch⟩
            by_cases e : y = x
            · subst e
              have := p4 c hc hadj
              have := k2 y hx
              omega
            · exact Nat.le_trans (p3 c hc) (k3 y c (by omega) hc hadj)
          rcases p6 with ⟨rfl, p6⟩ | ⟨rfl, w, p6, p7⟩
          · rw [if_pos rfl]
            rcases k4 with ⟨rfl, k4⟩ | ⟨rfl, w, k4, k5⟩
            · rw [if_pos rfl, Wp_some, Nx_l]
              exact J false (Or.inl ⟨rfl, fun c hc => (p6 c hc).trans (k4 c hc)⟩)
            · rw [if_neg (by simp), Wp_some, Nx_l]
              exact J true (Or.inr ⟨rfl, w, k4, by rw [p6 w k4]; exact k5⟩)
          · rw [if_neg (by simp), Wp_some, Nx_l]
            exact J true (Or.inr ⟨rfl, w, p6, Nat.lt_of_lt_of_le p7 (k2 w p6)⟩)
        · rintro ls D2 ⟨hf2, m2, ch, rfl, k0, k1, k2, k3, k4⟩
          refine RunP.go ?_
          show Wp (b_X10_costByRounds_2 _ _ _ _) _
          unfold b_X10_costByRounds_2
          simp (disch := omega) only [z_add, z_sub, z_mul, z_neg, ite_T, ite_F, zl_0, zl_1, zl_2, zl_3, zl_4, zl_5, zl_6, zl_7, zl_8, zl_9, zl_10, zl_11, zl_12, zl_13, zl_14, zl_15, zl_16, zl_17, zl_18, zl_19, zl_20, zl_21, zl_22, zl_23, zl_24, zl_25, zl_26, zl_27, zl_28, zl_29, zl_30, zl_31, zl_32, zl_33, zl_34, zl_35, zl_36, zl_37, zl_38, zl_39, zl_40, zl_41, zl_42, zl_43, zl_44, zl_45, zl_46, zl_47, zl_48, zl_49, zl_50, zl_51, zl_52, zl_53, zl_54, zl_55, zl_56, zl_57, zl_58, zl_59, zl_60, zl_61, zl_62, zl_63, zl_64, zl_97, zl_99, zl_100, zl_126, zl_255, zl_434, zl_496, zl_1000000, zl_100000, z_lt, z_le, z_eq, inB_z, z_div, Int.reduceToNat, Wp_some, Nx_l, Nx_r, cI_i, cV_v, cL_l, ite_t, ite_f, z_nn, toNat_c, bz_e0]
          refine hk _ _ ⟨hf2, m2, ch, rfl, k0, k1, ?_⟩
          rcases k4 with ⟨rfl, k4⟩ | ⟨rfl, w, k4, k5⟩
          · exact Or.inr ⟨rfl, fun x c hx hc hadj => by rw [k4 x hx]; exact k3 x c hx hc hadj⟩
          · refine Or.inl ⟨rfl, ?_⟩
            have := pass_more hW ho (by decide) h1 k1 ⟨k2, fun x c hx hc hadj => k3 x c hx hc hadj⟩ ⟨w, k4, by
              have := opt_lo hW ho (by decide) k1 k4
              omega⟩
            omega
      · refine RunP.mono (c := 5 + 1) ?_ (by omega)
        refine RunP.go ?_
        show Wp (b_X10_costByRounds_1 _ _ _) _
        unfold b_X10_costByRounds_1
        simp (disch := omega) only [z_add, z_sub, z_mul, z_neg, ite_T, ite_F, zl_0, zl_1, zl_2, zl_3, zl_4, zl_5, zl_6, zl_7, zl_8, zl_9, zl_10, zl_11, zl_12, zl_13, zl_14, zl_15, zl_16, zl_17, zl_18, zl_19, zl_20, zl_21, zl_22, zl_23, zl_24, zl_25, zl_26, zl_27, zl_28, zl_29, zl_30, zl_31, zl_32, zl_33, zl_34, zl_35, zl_36, zl_37, zl_38, zl_39, zl_40, zl_41, zl_42, zl_43, zl_44, zl_45, zl_46, zl_47, zl_48, zl_49, zl_50, zl_51, zl_52, zl_53, zl_54, zl_55, zl_56, zl_57, zl_58, zl_59, zl_60, zl_61, zl_62, zl_63, zl_64, zl_97, zl_99, zl_100, zl_126, zl_255, zl_434, zl_496, zl_1000000, zl_100000, z_lt, z_le, z_eq, inB_z, z_div, zb_f, ite_t, ite_f]
        exact fin D' m hf h0 h1 (still h1.2.2 h2)
    · rintro ls D' ⟨hf, m, ch, rfl, h0, h1, h2⟩
      refine RunP.go ?_
      show Wp (b_X10_costByRounds_1 _ _ _) _
      unfold b_X10_costByRounds_1
      simp (disch := omega) only [z_add, z_sub, z_mul, z_neg, ite_T, ite_F, zl_0, zl_1, zl_2, zl_3, zl_4, zl_5, zl_6, zl_7, zl_8, zl_9, zl_10, zl_11, zl_12, zl_13, zl_14, zl_15, zl_16, zl_17, zl_18, zl_19, zl_20, zl_21, zl_22, zl_23, zl_24, zl_25, zl_26, zl_27, zl_28, zl_29, zl_30, zl_31, zl_32, zl_33, zl_34, zl_35, zl_36, zl_37, zl_38, zl_39, zl_40, zl_41, zl_42, zl_43, zl_44, zl_45, zl_46, zl_47, zl_48, zl_49, zl_50, zl_51, zl_52, zl_53, zl_54, zl_55, zl_56, zl_57, zl_58, zl_59, zl_60, zl_61, zl_62, zl_63, zl_64, zl_97, zl_99, zl_100, zl_126, zl_255, zl_434, zl_496, zl_1000000, zl_100000, z_lt, z_le, z_eq, inB_z, z_div, ite_t, ite_f]
      rcases h2 with ⟨rfl, h2⟩ | ⟨rfl, h2⟩
      · have hle := cnt_le (fun c => decide (m c = o c)) 36
        have hall := cnt_all (p := fun c => decide (m c = o c)) 36 (by omega)
        refine fin D' m hf h0 h1 (fun n c k h => ?_)
        have e := of_decide_eq_true (hall c h.lt)
        rw [e]
        exact (ho c h.lt).2.1 n k h
      · exact fin D' m hf h0 h1 (still h1.2.2 h2)
  obtain ⟨r, h1, D', A, rfl, h2⟩ := key
  exact ⟨D', A, h1, h2⟩
end LL
