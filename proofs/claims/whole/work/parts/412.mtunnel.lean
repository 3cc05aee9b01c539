/-! pure: tunnels, the reference's side -/
section LL
variable {D : DD} {v : Nat → Nat}
theorem m_tunnelCost (hM : MR D v) (hW : WF v) : ∃ (D' : DD) (A : Nat), S_X13_tunnelCost D = some (0, some (.int (z A)), D') ∧ FM D D' ∧ D'.1 140 = z 0 ∧ IsMin v A := by
  obtain ⟨o, hp, ho⟩ := opt_ex hW
  have key : ∃ r, run T_X13_tunnelCost FUEL 0 [] D = some r ∧ ∃ (D' : DD) (A : Nat), r = (0, some (.int (z A)), D') ∧ FM D D' ∧ D'.1 140 = z 0 ∧ IsMin v A := by
    have fin : ∀ (D' : DD) (m : Nat → Nat), FM D D' → D'.1 140 = z 0 → (∀ j, j < 36 → D'.2.2.1 74 j = z (m j)) → Ok v 100000 m → (∀ n c k, Rn v n c k → m c ≤ k) → RunP T_X13_tunnelCost 9 2 [z 0] D' (fun r => ∃ (D' : DD) (A : Nat), r = (0, some (.int (z A)), D') ∧ FM D D' ∧ D'.1 140 = z 0 ∧ IsMin v A) := by
      intro D' m hf ht h0 h1 h2
      refine RunP.go ?_
      show Wp (b_X13_tunnelCost_2 _ _) _
      unfold b_X13_tunnelCost_2
      simp (disch := omega) only [z_add, z_sub, z_mul, z_neg, ite_T, ite_F, zl_0, zl_1, zl_2, zl_3, zl_4, zl_5, zl_6, zl_7, zl_8, zl_9, zl_10, zl_11, zl_12, zl_13, zl_14, zl_15, zl_16, zl_17, zl_18, zl_19, zl_20, zl_21, zl_22, zl_23, zl_24, zl_25, zl_26, zl_27, zl_28, zl_29, zl_30, zl_31, zl_32, zl_33, zl_34, zl_35, zl_36, zl_37, zl_38, zl_39, zl_40, zl_41, zl_42, zl_43, zl_44, zl_45, zl_46, zl_47, zl_48, zl_49, zl_50, zl_51, zl_52, zl_53, zl_54, zl_55, zl_56, zl_57, zl_58, zl_59, zl_60, zl_61, zl_62, zl_63, zl_64, zl_97, zl_99, zl_100, zl_126, zl_255, zl_434, zl_496, zl_1000000, zl_100000, z_lt, z_le, z_eq, inB_z, z_div, Int.reduceToNat, Wp_some, Nx_l, Nx_r, cI_i, cV_v, cL_l, ite_t, ite_f, z_nn, toNat_c, bz_e0]
      refine RunP.loop (fun i ls D2 => D2 = D' ∧ ∃ A : Nat, ls = [z A, z i] ∧ A ≤ 100000 ∧ (∀ r, r < i → A ≤ m (6 * r + 5)) ∧ (A = 100000 ∨ ∃ r, r < 6 ∧ A = m (6 * r + 5))) 6 1 1 ?_ ?_ 0 _ _ (by omega) ⟨rfl, 100000, rfl, by omega, fun r h => by omega, Or.inl rfl⟩ (by omega)
      · rintro i ls D2 c hi ⟨rfl, A, rfl, k0, k1, k2⟩ hk
        have b := h1.2.1 (6 * i + 5) (by omega)
        have hh := h0 (6 * i + 5) (by omega)
        have ec : cellZ i 5 = 6 * i + 5 := by unfold cellZ; rw [if_pos (by omega)]
        have mc : ∀ E : DD, S_X13_cell (z i) (z 5) E = some (0, some (.int (z (6 * i + 5))), E) := fun E => by rw [m_cell (by omega), ec]
        refine RunP.go ?_
        show Wp (b_X13_tunnelCost_5 _ _ _) _
        unfold b_X13_tunnelCost_5
        have e5 : ((6 : Int) * i + 5).toNat = 6 * i + 5 := by omega
        simp (disch := omega) only [z_add, z_sub, z_mul, z_neg, ite_T, ite_F, zl_0, zl_1, zl_2, zl_3, zl_4, zl_5, zl_6, zl_7, zl_8, zl_9, zl_10, zl_11, zl_12, zl_13, zl_14, zl_15, zl_16, zl_17, zl_18, zl_19, zl_20, zl_21, zl_22, zl_23, zl_24, zl_25, zl_26, zl_27, zl_28, zl_29, zl_30, zl_31, zl_32, zl_33, zl_34, zl_35, zl_36, zl_37, zl_38, zl_39, zl_40, zl_41, zl_42, zl_43, zl_44, zl_45, zl_46, zl_47, zl_48, zl_49, zl_50, zl_51, zl_52, zl_53, zl_54, zl_55, zl_56, zl_57, zl_58, zl_59, zl_60, zl_61, zl_62, zl_63, zl_64, zl_97, zl_99, zl_100, zl_126, zl_255, zl_434, zl_496, zl_1000000, zl_100000, z_lt, z_le, z_eq, inB_z, z_div, Int.reduceToNat, Wp_some, Nx_l, Nx_r, cI_i, cV_v, cL_l, ite_t, ite_f, z_nn, toNat_c, bz_e0, mc, e5, hh]
        split
        · rename_i e
          rw [Wp_some, Nx_l]
          refine hk _ _ ⟨rfl, A, rfl, k0, fun r h => ?_, k2⟩
          by_cases e2 : r = i
          · rw [e2]
            omega
          · exact k1 r (by omega)
        · rename_i e
          rw [Wp_some, Nx_l]
          refine hk _ _ ⟨rfl, m (6 * i + 5), rfl, b, fun r h => ?_, Or.inr ⟨i, hi, rfl⟩⟩
          by_cases e2 : r = i
          · rw [e2]
            exact Nat.le_refl _
          · have := k1 r (by omega)
            omega
      · rintro ls D2 ⟨rfl, A, rfl, k0, k1, k2⟩
        refine RunP.go ?_
        show Wp (b_X13_tunnelCost_5 _ _ _) _
        unfold b_X13_tunnelCost_5
        simp (disch := omega) only [z_add, z_sub, z_mul, z_neg, ite_T, ite_F, zl_0, zl_1, zl_2, zl_3, zl_4, zl_5, zl_6, zl_7, zl_8, zl_9, zl_10, zl_11, zl_12, zl_13, zl_14, zl_15, zl_16, zl_17, zl_18, zl_19, zl_20, zl_21, zl_22, zl_23, zl_24, zl_25, zl_26, zl_27, zl_28, zl_29, zl_30, zl_31, zl_32, zl_33, zl_34, zl_35, zl_36, zl_37, zl_38, zl_39, zl_40, zl_41, zl_42, zl_43, zl_44, zl_45, zl_46, zl_47, zl_48, zl_49, zl_50, zl_51, zl_52, zl_53, zl_54, zl_55, zl_56, zl_57, zl_58, zl_59, zl_60, zl_61, zl_62, zl_63, zl_64, zl_97, zl_99, zl_100, zl_126, zl_255, zl_434, zl_496, zl_1000000, zl_100000, z_lt, z_le, z_eq, inB_z, z_div, Int.reduceToNat, Wp_some, Nx_l, Nx_r, cI_i, cV_v, cL_l, ite_t, ite_f, z_nn, toNat_c, bz_e0]
        exact ⟨D2, A, rfl, hf, ht, min_of hW (by decide) h1 h2 k1 k2⟩
    have main : ∀ j (D' : DD) (m : Nat → Nat), 37 ≤ cnt (fun c => decide (m c = o c)) 36 + j → FM D D' → D'.1 140 = z 0 → (∀ j, j < 36 → D'.2.2.1 74 j = z (m j)) → Ok v 100000 m → RunP T_X13_tunnelCost (500 * j + 10) 2 [z 1] D' (fun r => ∃ (D' : DD) (A : Nat), r = (0, some (.int (z A)), D') ∧ FM D D' ∧ D'.1 140 = z 0 ∧ IsMin v A) := by
      intro j
      induction j with
      | zero =>
        intro D' m h
        have := cnt_le (fun c => decide (m c = o c)) 36
        omega
      | succ j ih =>
        intro D' m hj hf ht h0 h1
        refine RunP.mono (c := (500 * j + 10) + 400 + 1) ?_ (by omega)
        refine RunP.go ?_
        show Wp (b_X13_tunnelCost_2 _ _) _
        unfold b_X13_tunnelCost_2
        simp (disch := omega) only [z_add, z_sub, z_mul, z_neg, ite_T, ite_F, zl_0, zl_1, zl_2, zl_3, zl_4, zl_5, zl_6, zl_7, zl_8, zl_9, zl_10, zl_11, zl_12, zl_13, zl_14, zl_15, zl_16, zl_17, zl_18, zl_19, zl_20, zl_21, zl_22, zl_23, zl_24, zl_25, zl_26, zl_27, zl_28, zl_29, zl_30, zl_31, zl_32, zl_33, zl_34, zl_35, zl_36, zl_37, zl_38, zl_39, zl_40, zl_41, zl_42, zl_43, zl_44, zl_45, zl_46, zl_47, zl_48, zl_49, zl_50, zl_51, zl_52, zl_53, zl_54, zl_55, zl_56, zl_57, zl_58, zl_59, zl_60, zl_61, zl_62, zl_63, zl_64, zl_97, zl_99, zl_100, zl_126, zl_255, zl_434, zl_496, zl_1000000, zl_100000, z_lt, z_le, z_eq, inB_z, z_div, Int.reduceToNat, Wp_some, Nx_l, Nx_r, cI_i, cV_v, cL_l, ite_t, ite_f, z_nn, toNat_c, bz_e0]
        refine RunP.loop (fun i ls D2 => FM D D2 ∧ D2.1 140 = z 0 ∧ ∃ (m2 : Nat → Nat) (ch : Bool), ls = [z (zb ch), z i] ∧ (∀ j, j < 36 → D2.2.2.1 74 j = z (m2 j)) ∧ Ok v 100000 m2 ∧ (∀ c, c < 36 → m2 c ≤ m c) ∧ (∀ y c, y < 36 → c < i → adj y c → m2 c ≤ m y + v (4 + c)) ∧ ((ch = false ∧ ∀ c, c < 36 → m2 c = m c) ∨ (ch = true ∧ ∃ c, c < 36 ∧ m2 c < m c))) 36 8 (500 * j + 11) ?_ ?_ 0 _ _ (by omega) ⟨hf, ht, m, false, rfl, h0, h1, fun c _ => Nat.le_refl _, fun y c _ h => by omega, Or.inl ⟨rfl, fun c _ => rfl⟩⟩ (by omega)
        · rintro x ls D2 c2 hx ⟨hf2, ht2, m2, ch, rfl, k0, k1, k2, k3, k4⟩ hk2
          have hM2 := hM.fm hf2
          refine RunP.mono (c := (c2 + 7) + 1) ?_ (by omega)
          refine RunP.go ?_
          show Wp (b_X13_tunnelCost_3 _ _ _) _
          unfold b_X13_tunnelCost_3
          simp (disch := omega) only [z_add, z_sub, z_mul, z_neg, ite_T, ite_F, zl_0, zl_1, zl_2, zl_3, zl_4, zl_5, zl_6, zl_7, zl_8, zl_9, zl_10, zl_11, zl_12, zl_13, zl_14, zl_15, zl_16, zl_17, zl_18, zl_19, zl_20, zl_21, zl_22, zl_23, zl_24, zl_25, zl_26, zl_27, zl_28, zl_29, zl_30, zl_31, zl_32, zl_33, zl_34, zl_35, zl_36, zl_37, zl_38, zl_39, zl_40, zl_41, zl_42, zl_43, zl_44, zl_45, zl_46, zl_47, zl_48, zl_49, zl_50, zl_51, zl_52, zl_53, zl_54, zl_55, zl_56, zl_57, zl_58, zl_59, zl_60, zl_61, zl_62, zl_63, zl_64, zl_97, zl_99, zl_100, zl_126, zl_255, zl_434, zl_496, zl_1000000, zl_100000, z_lt, z_le, z_eq, inB_z, z_div, Int.reduceToNat, Wp_some, Nx_l, Nx_r, cI_i, cV_v, cL_l, ite_t, ite_f, z_nn, toNat_c, bz_e0]
          refine RunP.loop (fun d ls D3 => ∃ (g : Nat → Int32) (k : Nat) (ch3 : Bool), D3 = setA D2 74 g ∧ ls = [z (zb ch3), z x, z d] ∧ (∀ j, j < 36 → g j = z ((if j = x then k else m2 j : Nat))) ∧ k ≤ m2 x ∧ (∀ d', d' < d → ∀ y : Nat, y < 36 → nbM x d' = y → k ≤ m2 y + v (4 + x)) ∧ (k = m2 x ∨ (k < m2 x ∧ ∃ y, y < 36 ∧ adj y x ∧ k = m2 y + v (4 + x))) ∧ ((ch3 = ch ∧ k = m2 x) ∨ (ch3 = true ∧ k < m2 x))) 4 1 (c2 + 1) ?_ ?_ 0 _ _ (by omega) ⟨D2.2.2.1 74, m2 x, ch, (setA_self D2 74).symm, rfl, fun j hj => ?_, Nat.le_refl _, fun d h => by omega, Or.inl rfl, Or.inl ⟨rfl, rfl⟩⟩ (by omega)
          · rintro d ls D3 c3 hd ⟨g, k, ch3, rfl, rfl, p0, p1, p2, p3, p4⟩ hk3
            have hM3 : MR (setA D2 74 g) v := MR.setA hM2 (by decide)
            obtain ⟨n1, n2⟩ := nbM_lo hx hd
            have same : (∀ y : Nat, y < 36 → nbM x d = y → k ≤ m2 y + v (4 + x)) → RunP T_X13_tunnelCost c3 4 [z (zb ch3), z x, z ((d + 1 : Nat))] (setA D2 74 g) (fun r => ∃ (D' : DD) (A : Nat), r = (0, some (.int (z A)), D') ∧ FM D D' ∧ D'.1 140 = z 0 ∧ IsMin v A) := by
              intro h
              refine hk3 _ _ ⟨g, k, ch3, rfl, rfl, p0, p1, fun d' hd' y hy e => ?_, p3, p4⟩
              by_cases e2 : d' = d
              · subst e2
                exact h y hy e
              · exact p2 d' (by omega) y hy e
            refine RunP.go ?_
            show Wp (b_X13_tunnelCost_4 _ _ _ _) _
            unfold b_X13_tunnelCost_4
            simp (disch := omega) only [z_add, z_sub, z_mul, z_neg, ite_T, ite_F, zl_0, zl_1, zl_2, zl_3, zl_4, zl_5, zl_6, zl_7, zl_8, zl_9, zl_10, zl_11, zl_12, zl_13, zl_14, zl_15, zl_16, zl_17, zl_18, zl_19, zl_20, zl_21, zl_22, zl_23, zl_24, zl_25, zl_26, zl_27, zl_28, zl_29, zl_30, zl_31, zl_32, zl_33, zl_34, zl_35, zl_36, zl_37, zl_38, zl_39, zl_40, zl_41, zl_42, zl_43, zl_44, zl_45, zl_46, zl_47, zl_48, zl_49, zl_50, zl_51, zl_52, zl_53, zl_54, zl_55, zl_56, zl_57, zl_58, zl_59, zl_60, zl_61, zl_62, zl_63, zl_64, zl_97, zl_99, zl_100, zl_126, zl_255, zl_434, zl_496, zl_1000000, zl_100000, z_lt, z_le, z_eq, inB_z, z_div, Int.reduceToNat, Wp_some, Nx_l, Nx_r, cI_i, cV_v, cL_l, ite_t, ite_f, z_nn, toNat_c, bz_e0, m_beside hx hd]
            split
            · rename_i hneg
              rw [Wp_some, Nx_l]
              exact same (fun y hy e => by omega)
            · rename_i hneg
              obtain ⟨y, hy⟩ := Int.eq_ofNat_of_zero_le (show 0 ≤ nbM x d by omega)
              have hy36 : y < 36 := by omega
              have hadj : adj y x := adj_symm ((nbM_adj hx hy36).mp ⟨d, hd, hy⟩)
              have hyx : y ≠ x := fun e => by
                subst e
                unfold adj at hadj
                omega
              have w1 := hW.1 x hx
              have b1 := k1.2.1 x hx
              have b2 := k1.2.1 y hy36
              have gy : g y = z ((m2 y : Nat)) := by rw [p0 y hy36, if_neg hyx]
              have gx : g x = z ((k : Nat)) := by rw [p0 x hx, if_pos rfl]
              rw [hy]
              simp (disch := omega) only [z_add, z_sub, z_mul, z_neg, ite_T, ite_F, zl_0, zl_1, zl_2, zl_3, zl_4, zl_5, zl_6, zl_7, zl_8, zl_9, zl_10, zl_11, zl_12, zl_13, zl_14, zl_15, zl_16, zl_17, zl_18, zl_19, zl_20, zl_21, zl_22, zl_23, zl_24, zl_25, zl_26, zl_27, zl_28, zl_29, zl_30, zl_31, zl_32, zl_33, zl_34, zl_35, zl_36, zl_37, zl_38, zl_39, zl_40, zl_41, zl_42, zl_43, zl_44, zl_45, zl_46, zl_47, zl_48, zl_49, zl_50, zl_51, zl_52, zl_53, zl_54, zl_55, zl_56, zl_57, zl_58, zl_59, zl_60, zl_61, zl_62, zl_63, zl_64, zl_97, zl_99, zl_100, zl_126, zl_255, zl_434, zl_496, zl_1000000, zl_100000, z_lt, z_le, z_eq, inB_z, z_div, Int.reduceToNat, Wp_some, Nx_l, Nx_r, cI_i, cV_v, cL_l, ite_t, ite_f, z_nn, toNat_c, bz_e0, m_hard hM3 hx, setA_same, gx, gy]
              split
              · rename_i hlt
                rw [Wp_some, Nx_l, setA_two]
                refine hk3 _ _ ⟨_, m2 y + v (4 + x), true, rfl, rfl, fun j hj => ?_, by omega, fun d' hd' y' hy' e => ?_, Or.inr ⟨by omega, y, hy36, hadj, rfl⟩, Or.inr ⟨rfl, by omega⟩⟩
                · show upd g x (z ((m2 y : Int) + v (4 + x))) j = _
                  by_cases e : j = x
                  · rw [e, upd_same, if_pos rfl]
                    rfl
                  · rw [upd_ne _ _ e, p0 j hj, if_neg e, if_neg e]
                · by_cases e2 : d' = d
                  · subst e2
                    have e3 : y' = y := by omega
                    rw [e3]
                    exact Nat.le_refl _
                  · have := p2 d' (by omega) y' hy' e
                    omega
              · rename_i hge
                rw [Wp_some, Nx_l]
                exact same (fun y' hy' e => by
                  have e3 : y' = y := by omega
                  rw [e3]
                  omega)
          · rintro ls D3 ⟨g, k, ch3, rfl, rfl, p0, p1, p2, p3, p4⟩
            refine RunP.go ?_
            show Wp (b_X13_tunnelCost_4 _ _ _ _) _
            unfold b_X13_tunnelCost_4
            simp (disch := omega) only [z_add, z_sub, z_mul, z_neg, ite_T, ite_F, zl_0, zl_1, zl_2, zl_3, zl_4, zl_5, zl_6, zl_7, zl_8, zl_9, zl_10, zl_11, zl_12, zl_13, zl_14, zl_15, zl_16, zl_17, zl_18, zl_19, zl_20, zl_21, zl_22, zl_23, zl_24, zl_25, zl_26, zl_27, zl_28, zl_29, zl_30, zl_31, zl_32, zl_33, zl_34, zl_35, zl_36, zl_37, zl_38, zl_39, zl_40, zl_41, zl_42, zl_43, zl_44, zl_45, zl_46, zl_47, zl_48, zl_49, zl_50, zl_51, zl_52, zl_53, zl_54, zl_55, zl_56, zl_57, zl_58, zl_59, zl_60, zl_61, zl_62, zl_63, zl_64, zl_97, zl_99, zl_100, zl_126, zl_255, zl_434, zl_496, zl_1000000, zl_100000, z_lt, z_le, z_eq, inB_z, z_div, Int.reduceToNat, Wp_some, Nx_l, Nx_r, cI_i, cV_v, cL_l, ite_t, ite_f, z_nn, toNat_c, bz_e0]
            have le2 : ∀ c, c < 36 → (if c = x then k else m2 c) ≤ m2 c := fun c hc => by
              split
              · rename_i e
                rw [e]
                exact p1
              · exact Nat.le_refl _
            refine hk2 _ _ ⟨hf2.sA rfl, ht2, fun j => if j = x then k else m2 j, ch3, rfl, p0, ⟨fun c hc => ?_, fun c hc => Nat.le_trans (le2 c hc) (k1.2.1 c hc), fun c hc e => Nat.le_trans (le2 c hc) (k1.2.2 c hc e)⟩, fun c hc => Nat.le_trans (le2 c hc) (k2 c hc), fun y c hy hc hadj => ?_, ?_⟩
            · show (if c = x then k else m2 c) = 100000 ∨ ∃ n, Rn v n c (if c = x then k else m2 c)
              by_cases e : c = x
              · subst e
                rw [if_pos rfl]
                rcases p3 with p3 | ⟨p3, y, u1, u2, u3⟩
                · rw [p3]
                  exact k1.1 c hc
                · rcases k1.1 y u1 with q | ⟨n, q⟩
                  · have := k1.2.1 c hc
                    omega
                  · exact Or.inr ⟨n + 1, hc, y, m2 y, q, u2, u3⟩
              · rw [if_neg e]
                exact k1.1 c hc
            · show (if c = x then k else m2 c) ≤ _
              by_cases e : c = x
              · subst e
                rw [if_pos rfl]
                obtain ⟨d, u1, u2⟩ := (nbM_adj hx hy).mpr (adj_symm hadj)
                have := p2 d u1 y hy u2
                have := k2 y hy
                omega
              · rw [if_neg e]
                exact k3 y c hy (by omega) hadj
            · rcases p4 with ⟨rfl, p4⟩ | ⟨rfl, p4⟩
              · have e : (fun j => if j = x then k else m2 j) = m2 := by
                  funext j
                  split
                  · rename_i e
                    rw [e, p4]
                  · rfl
                rw [e]
                exact k4
              · refine Or.inr ⟨rfl, x, hx, ?_⟩
                show (if x = x then k else m2 x) < m x
                rw [if_pos rfl]
                have := k2 x hx
                omega
          · rw [k0 j hj]
            split
            · rename_i e
              rw [e]
            · rfl
        · rintro ls D2 ⟨hf2, ht2, m2, ch, rfl, k0, k1, k2, k3, k4⟩
          refine RunP.go ?_
          show Wp (b_X13_tunnelCost_3 _ _ _) _
          unfold b_X13_tunnelCost_3
          simp (disch := omega) only [z_add, z_sub, z_mul, z_neg, ite_T, ite_F, zl_0, zl_1, zl_2, zl_3, zl_4, zl_5, zl_6, zl_7, zl_8, zl_9, zl_10, zl_11, zl_12, zl_13, zl_14, zl_15, zl_16, zl_17, zl_18, zl_19, zl_20, zl_21, zl_22, zl_23, zl_24, zl_25, zl_26, zl_27, zl_28, zl_29, zl_30, zl_31, zl_32, zl_33, zl_34, zl_35, zl_36, zl_37, zl_38, zl_39, zl_40, zl_41, zl_42, zl_43, zl_44, zl_45, zl_46, zl_47, zl_48, zl_49, zl_50, zl_51, zl_52, zl_53, zl_54, zl_55, zl_56, zl_57, zl_58, zl_59, zl_60, zl_61, zl_62, zl_63, zl_64, zl_97, zl_99, zl_100, zl_126, zl_255, zl_434, zl_496, zl_1000000, zl_100000, z_lt, z_le, z_eq, inB_z, z_div, Int.reduceToNat, Wp_some, Nx_l, Nx_r, cI_i, cV_v, cL_l, ite_t, ite_f, z_nn, toNat_c, bz_e0]
          rcases k4 with ⟨rfl, k4⟩ | ⟨rfl, w, k4, k5⟩
          · refine RunP.mono (fin D2 m2 hf2 ht2 k0 k1 (still k1.2.2 (fun x c hx hc hadj => ?_))) (by omega)
            rw [k4 x hx]
            exact k3 x c hx hc hadj
          · have := pass_more hW ho (by decide) h1 k1 ⟨k2, fun x c hx hc hadj => k3 x c hx hc hadj⟩ ⟨w, k4, by
              have := opt_lo hW ho (by decide) k1 k4
              omega⟩
            exact ih D2 m2 (by omega) hf2 ht2 k0 k1
    refine RunP.fin (c := 500 * 37 + 100) ?_ (by decide)
    refine RunP.go ?_
    show Wp (b_X13_tunnelCost_0 _) _
    unfold b_X13_tunnelCost_0
    simp only [Int.reduceToNat, Wp_some, Nx_l, Nx_r, cI_i, cV_v, cL_l, ite_t, ite_f, z_nn, toNat_c, bz_e0, z_add, z_sub, z_mul, z_neg, ite_T, ite_F, zl_0, zl_1, zl_2, zl_3, zl_4, zl_5, zl_6, zl_7, zl_8, zl_9, zl_10, zl_11, zl_12, zl_13, zl_14, zl_15, zl_16, zl_17, zl_18, zl_19, zl_20, zl_21, zl_22, zl_23, zl_24, zl_25, zl_26, zl_27, zl_28, zl_29, zl_30, zl_31, zl_32, zl_33, zl_34, zl_35, zl_36, zl_37, zl_38, zl_39, zl_40, zl_41, zl_42, zl_43, zl_44, zl_45, zl_46, zl_47, zl_48, zl_49, zl_50, zl_51, zl_52, zl_53, zl_54, zl_55, zl_56, zl_57, zl_58, zl_59, zl_60, zl_61, zl_62, zl_63, zl_64, zl_97, zl_99, zl_100, zl_126, zl_255, zl_434, zl_496, zl_1000000, zl_100000]
    refine RunP.loop (fun i ls D' => ∃ g : Nat → Int32, D' = setA (setI D 140 (z 0)) 74 g ∧ ls = [z i] ∧ ∀ j, j < i → g j = z ((if j % 6 = 0 then v (4 + j) else 100000 : Nat))) 36 1 (500 * 37 + 11) ?_ ?_ 0 _ _ (by omega) ⟨D.2.2.1 74, (setA_self (setI D 140 (z 0)) 74).symm, rfl, fun j h => by omega⟩ (by omega)
    · rintro i ls D' c hi ⟨g, rfl, rfl, h0⟩ hk
      have hM' : MR (setA (setI D 140 (z 0)) 74 g) v := MR.setA hM.setI (by decide)
      refine RunP.go ?_
      show Wp (b_X13_tunnelCost_1 _ _) _
      unfold b_X13_tunnelCost_1
      simp (disch := omega) only [z_add, z_sub, z_mul, z_neg, ite_T, ite_F, zl_0, zl_1, zl_2, zl_3, zl_4, zl_5, zl_6, zl_7, zl_8, zl_9, zl_10, zl_11, zl_12, zl_13, zl_14, zl_15, zl_16, zl_17, zl_18, zl_19, zl_20, zl_21, zl_22, zl_23, zl_24, zl_25, zl_26, zl_27, zl_28, zl_29, zl_30, zl_31, zl_32, zl_33, zl_34, zl_35, zl_36, zl_37, zl_38, zl_39, zl_40, zl_41, zl_42, zl_43, zl_44, zl_45, zl_46, zl_47, zl_48, zl_49, zl_50, zl_51, zl_52, zl_53, zl_54, zl_55, zl_56, zl_57, zl_58, zl_59, zl_60, zl_61, zl_62, zl_63, zl_64, zl_97, zl_99, zl_100, zl_126, zl_255, zl_434, zl_496, zl_1000000, zl_100000, z_lt, z_le, z_eq, inB_z, z_div, Int.reduceToNat, Wp_some, Nx_l, Nx_r, cI_i, cV_v, cL_l, ite_t, ite_f, z_nn, toNat_c, bz_e0, m_hard hM' hi, setA_same, setA_two]
      split
      · rename_i e
        rw [Wp_some, Nx_l]
        refine hk _ _ ⟨_, rfl, rfl, fun j hj => ?_⟩
        by_cases e2 : j = i
        · rw [e2, upd_same, if_pos (by omega)]
        · rw [upd_ne _ _ e2]
          exact h0 j (by omega)
      · rename_i e
        rw [Wp_some, Nx_l]
        refine hk _ _ ⟨_, rfl, rfl, fun j hj => ?_⟩
        by_cases e2 : j = i
        · rw [e2, upd_same, if_neg (by omega)]
          rfl
        · rw [upd_ne _ _ e2]
          exact h0 j (by omega)
    · rintro ls D' ⟨g, rfl, rfl, h0⟩
      refine RunP.go ?_
      show Wp (b_X13_tunnelCost_1 _ _) _
      unfold b_X13_tunnelCost_1
      simp (disch := omega) only [z_add, z_sub, z_mul, z_neg, ite_T, ite_F, zl_0, zl_1, zl_2, zl_3, zl_4, zl_5, zl_6, zl_7, zl_8, zl_9, zl_10, zl_11, zl_12, zl_13, zl_14, zl_15, zl_16, zl_17, zl_18, zl_19, zl_20, zl_21, zl_22, zl_23, zl_24, zl_25, zl_26, zl_27, zl_28, zl_29, zl_30, zl_31, zl_32, zl_33, zl_34, zl_35, zl_36, zl_37, zl_38, zl_39, zl_40, zl_41, zl_42, zl_43, zl_44, zl_45, zl_46, zl_47, zl_48, zl_49, zl_50, zl_51, zl_52, zl_53, zl_54, zl_55, zl_56, zl_57, zl_58, zl_59, zl_60, zl_61, zl_62, zl_63, zl_64, zl_97, zl_99, zl_100, zl_126, zl_255, zl_434, zl_496, zl_1000000, zl_100000, z_lt, z_le, z_eq, inB_z, z_div, Int.reduceToNat, Wp_some, Nx_l, Nx_r, cI_i, cV_v, cL_l, ite_t, ite_f, z_nn, toNat_c, bz_e0]
      refine main 37 _ (fun j => if j % 6 = 0 then v (4 + j) else 100000) (by omega) ((FM.rfl.sI rfl).sA rfl) (by show (setI D 140 (z 0)).1 140 = z 0; exact setI_same _ _ _) (fun j hj => h0 j hj) ⟨fun c hc => ?_, fun c hc => ?_, fun c hc e => ?_⟩
      · show (if c % 6 = 0 then v (4 + c) else 100000) = _ ∨ _
        by_cases e : c % 6 = 0
        · right
          exact ⟨0, hc, e, if_pos e⟩
        · exact Or.inl (if_neg e)
      · show (if c % 6 = 0 then v (4 + c) else 100000) ≤ _
        have := hW.1 c hc
        split <;> omega
      · show (if c % 6 = 0 then v (4 + c) else 100000) ≤ _
        rw [if_pos e]
        exact Nat.le_refl _
  obtain ⟨r, h1, D', A, rfl, h2⟩ := key
  exact ⟨D', A, h1, h2⟩
end LL
