/-! pure: slabs cell by cell, the reference's side -/
section LL
variable {D : DD} {v : Nat → Nat}
theorem m_covers (hM : MR D v) (hW : WF v) {f : Nat → Int} (hf : ∀ s, -100000 ≤ f s ∧ f s ≤ 36) (h75 : ∀ j, j < 64 → D.2.2.1 75 j = z (f j)) {c : Nat} (hc : c < 36) : ∃ q g, S_X13_covers (z c) D = some (0, none, setA (setA D 76 g) 75 q) ∧ ∀ j, j < 64 → q j = z (dpK v c f (-100000) 64 j) := by
  have w1 := hW.1 c hc
  have key : ∃ r, run T_X13_covers FUEL 0 [z c] D = some r ∧ ∃ q g, r = (0, none, setA (setA D 76 g) 75 q) ∧ ∀ j, j < 64 → q j = z (dpK v c f (-100000) 64 j) := by
    refine RunP.fin (c := 1000) ?_ (by decide)
    refine RunP.go ?_
    show Wp (b_X13_covers_0 _ _) _
    unfold b_X13_covers_0
    simp only [Int.reduceToNat, Wp_some, Nx_l, Nx_r, cI_i, cV_v, cL_l, ite_t, ite_f, z_nn, toNat_c, bz_e0, z_add, z_sub, z_mul, z_neg, ite_T, ite_F, zl_0, zl_1, zl_2, zl_3, zl_4, zl_5, zl_6, zl_7, zl_8, zl_9, zl_10, zl_11, zl_12, zl_13, zl_14, zl_15, zl_16, zl_17, zl_18, zl_19, zl_20, zl_21, zl_22, zl_23, zl_24, zl_25, zl_26, zl_27, zl_28, zl_29, zl_30, zl_31, zl_32, zl_33, zl_34, zl_35, zl_36, zl_37, zl_38, zl_39, zl_40, zl_41, zl_42, zl_43, zl_44, zl_45, zl_46, zl_47, zl_48, zl_49, zl_50, zl_51, zl_52, zl_53, zl_54, zl_55, zl_56, zl_57, zl_58, zl_59, zl_60, zl_61, zl_62, zl_63, zl_64, zl_97, zl_99, zl_100, zl_126, zl_255, zl_434, zl_496, zl_1000000, zl_100000]
    refine RunP.loop (fun i ls D' => ∃ g : Nat → Int32, D' = setA D 76 g ∧ ls = [z c, z i] ∧ ∀ j, j < i → g j = z (-100000)) 64 1 800 ?_ ?_ 0 _ _ (by omega) ⟨D.2.2.1 76, (setA_self D 76).symm, rfl, fun j h => by omega⟩ (by omega)
    · rintro i ls D' c2 hi ⟨g, rfl, rfl, hg⟩ hk
      refine RunP.go ?_
      show Wp (b_X13_covers_1 _ _ _) _
      unfold b_X13_covers_1
      simp (disch := omega) only [z_add, z_sub, z_mul, z_neg, ite_T, ite_F, zl_0, zl_1, zl_2, zl_3, zl_4, zl_5, zl_6, zl_7, zl_8, zl_9, zl_10, zl_11, zl_12, zl_13, zl_14, zl_15, zl_16, zl_17, zl_18, zl_19, zl_20, zl_21, zl_22, zl_23, zl_24, zl_25, zl_26, zl_27, zl_28, zl_29, zl_30, zl_31, zl_32, zl_33, zl_34, zl_35, zl_36, zl_37, zl_38, zl_39, zl_40, zl_41, zl_42, zl_43, zl_44, zl_45, zl_46, zl_47, zl_48, zl_49, zl_50, zl_51, zl_52, zl_53, zl_54, zl_55, zl_56, zl_57, zl_58, zl_59, zl_60, zl_61, zl_62, zl_63, zl_64, zl_97, zl_99, zl_100, zl_126, zl_255, zl_434, zl_496, zl_1000000, zl_100000, z_lt, z_le, z_eq, inB_z, z_div, Int.reduceToNat, Wp_some, Nx_l, Nx_r, cI_i, cV_v, cL_l, ite_t, ite_f, z_nn, toNat_c, bz_e0, setA_same, setA_two]
      refine hk _ _ ⟨_, rfl, rfl, fun j hj => ?_⟩
      by_cases e : j = i
      · rw [e, upd_same]
      · rw [upd_ne _ _ e]
        exact hg j (by omega)
    · rintro ls D' ⟨g, rfl, rfl, hg⟩
      refine RunP.mono (c := 799 + 1) ?_ (by omega)
      refine RunP.go ?_
      show Wp (b_X13_covers_1 _ _ _) _
      unfold b_X13_covers_1
      simp (disch := omega) only [z_add, z_sub, z_mul, z_neg, ite_T, ite_F, zl_0, zl_1, zl_2, zl_3, zl_4, zl_5, zl_6, zl_7, zl_8, zl_9, zl_10, zl_11, zl_12, zl_13, zl_14, zl_15, zl_16, zl_17, zl_18, zl_19, zl_20, zl_21, zl_22, zl_23, zl_24, zl_25, zl_26, zl_27, zl_28, zl_29, zl_30, zl_31, zl_32, zl_33, zl_34, zl_35, zl_36, zl_37, zl_38, zl_39, zl_40, zl_41, zl_42, zl_43, zl_44, zl_45, zl_46, zl_47, zl_48, zl_49, zl_50, zl_51, zl_52, zl_53, zl_54, zl_55, zl_56, zl_57, zl_58, zl_59, zl_60, zl_61, zl_62, zl_63, zl_64, zl_97, zl_99, zl_100, zl_126, zl_255, zl_434, zl_496, zl_1000000, zl_100000, z_lt, z_le, z_eq, inB_z, z_div, Int.reduceToNat, Wp_some, Nx_l, Nx_r, cI_i, cV_v, cL_l, ite_t, ite_f, z_nn, toNat_c, bz_e0]
      refine RunP.loopE (fun s ls D2 => ∃ q : Nat → Int32, D2 = setA D 76 q ∧ ls = [z c, z s] ∧ ∀ j, j < 64 → q j = z (dpK v c f (-100000) s j)) 64 3 100 ?_ ?_ 0 _ _ (by omega) ⟨g, rfl, rfl, hg⟩ (by omega)
      · rintro s ls D2 c2 hc2 hs ⟨q, rfl, rfl, hq⟩ hk2
        have hM2 : MR (setA D 76 q) v := MR.setA hM (by decide)
        have h75' : ∀ q' : Nat → Int32, (setA D 76 q').2.2.1 75 s = z (f s) := fun q' => by rw [setA_ne _ _ (by decide)]; exact h75 s hs
        have hfs := hf s
        have l1 := b_lt (s / 2) (by omega)
        have hbK : Bd (dpK v c f (-100000) s) := fun j => by
          have := dpK_range (v := v) (c := c) (f := f) (B := -100000) (M := 36) (by omega) (fun s => (hf s).2) s j
          omega
        refine RunP.mono (c := (c2 + 2) + 1) ?_ (by omega)
        refine RunP.go ?_
        show Wp (b_X13_covers_2 _ _ _) _
        unfold b_X13_covers_2
        simp (disch := omega) only [z_add, z_sub, z_mul, z_neg, ite_T, ite_F, zl_0, zl_1, zl_2, zl_3, zl_4, zl_5, zl_6, zl_7, zl_8, zl_9, zl_10, zl_11, zl_12, zl_13, zl_14, zl_15, zl_16, zl_17, zl_18, zl_19, zl_20, zl_21, zl_22, zl_23, zl_24, zl_25, zl_26, zl_27, zl_28, zl_29, zl_30, zl_31, zl_32, zl_33, zl_34, zl_35, zl_36, zl_37, zl_38, zl_39, zl_40, zl_41, zl_42, zl_43, zl_44, zl_45, zl_46, zl_47, zl_48, zl_49, zl_50, zl_51, zl_52, zl_53, zl_54, zl_55, zl_56, zl_57, zl_58, zl_59, zl_60, zl_61, zl_62, zl_63, zl_64, zl_97, zl_99, zl_100, zl_126, zl_255, zl_434, zl_496, zl_1000000, zl_100000, z_lt, z_le, z_eq, inB_z, z_div, Int.reduceToNat, Wp_some, Nx_l, Nx_r, cI_i, cV_v, cL_l, ite_t, ite_f, z_nn, toNat_c, bz_e0, h75']
        by_cases hneg : f s < 0
        · rw [if_neg (by omega), Wp_some, Nx_l]
          exact RunP.mono (hk2 _ _ ⟨q, rfl, rfl, fun j hj => by rw [dpK, if_pos hneg]; exact hq j hj⟩) (by omega)
        · rw [if_pos (by omega)]
          obtain ⟨q1, u1, u2⟩ := m_better (D := setA D 76 q) hbK (fun j hj => by rw [setA_same]; exact hq j hj) (r := s / 2) (by omega) (x := f s) (by omega) (by omega)
          have hg1 := hbK.mx (s / 2) (x := f s) (by omega) (by omega)
          rw [setA_two] at u1
          have hM1 : MR (setA D 76 q1) v := MR.setA hM (by decide)
          simp (disch := omega) only [z_add, z_sub, z_mul, z_neg, ite_T, ite_F, zl_0, zl_1, zl_2, zl_3, zl_4, zl_5, zl_6, zl_7, zl_8, zl_9, zl_10, zl_11, zl_12, zl_13, zl_14, zl_15, zl_16, zl_17, zl_18, zl_19, zl_20, zl_21, zl_22, zl_23, zl_24, zl_25, zl_26, zl_27, zl_28, zl_29, zl_30, zl_31, zl_32, zl_33, zl_34, zl_35, zl_36, zl_37, zl_38, zl_39, zl_40, zl_41, zl_42, zl_43, zl_44, zl_45, zl_46, zl_47, zl_48, zl_49, zl_50, zl_51, zl_52, zl_53, zl_54, zl_55, zl_56, zl_57, zl_58, zl_59, zl_60, zl_61, zl_62, zl_63, zl_64, zl_97, zl_99, zl_100, zl_126, zl_255, zl_434, zl_496, zl_1000000, zl_100000, z_lt, z_le, z_eq, inB_z, z_div, Int.reduceToNat, Wp_some, Nx_l, Nx_r, cI_i, cV_v, cL_l, ite_t, ite_f, z_nn, toNat_c, bz_e0, b_sh1 s hs, u1, b_and1 s hs, m_hard hM1 hc]
          have fin : ∀ q' : Nat → Int32, (∀ j, j < 64 → q' j = z (dp1 v c f s (dpK v c f (-100000) s) j)) → ∀ c3, c2 ≤ c3 → RunP T_X13_covers c3 2 [z c, z ((s + 1 : Nat))] (setA D 76 q') (fun r => ∃ q g, r = (0, none, setA (setA D 76 g) 75 q) ∧ ∀ j, j < 64 → q j = z (dpK v c f (-100000) 64 j)) := by
            intro q' hq' c3 h3
            exact RunP.mono (hk2 _ _ ⟨q', rfl, rfl, fun j hj => by rw [dpK, if_neg hneg]; exact hq' j hj⟩) h3
          by_cases hs2 : s % 2 = 1
          · rw [if_pos (by omega), Wp_some, Nx_l]
            exact fin q1 (fun j hj => by unfold dp1; rw [if_pos (Or.inl hs2)]; exact u2 j hj) _ (by omega)
          · rw [if_neg (by omega)]
            by_cases ho : v (4 + c) = 0
            · rw [if_pos (by omega)]
              have last : ∀ (q2 : Nat → Int32) (g2 : Nat → Int), Bd g2 → (∀ j, j < 64 → q2 j = z (g2 j)) → dp1 v c f s (dpK v c f (-100000) s) = (if c + 6 < 36 ∧ v (4 + (c + 6)) = 0 then mx g2 (s / 2 ||| 32) (f s + 1) else g2) → RunP T_X13_covers (c2 + 2) 3 [z c, z s] (setA D 76 q2) (fun r => ∃ q g, r = (0, none, setA (setA D 76 g) 75 q) ∧ ∀ j, j < 64 → q j = z (dpK v c f (-100000) 64 j)) := by
                intro q2 g2 hg2 hq2 hd
                have hM2' : MR (setA D 76 q2) v := MR.setA hM (by decide)
                refine RunP.mono (c := (c2 + 1) + 1) ?_ (by omega)
                refine RunP.go ?_
                show Wp (b_X13_covers_3 _ _ _) _
                unfold b_X13_covers_3
                by_cases h6 : c + 6 < 36
                · have w6 := hW.1 (c + 6) h6
                  have so := m_hard hM2' h6
                  rw [show ((c + 6 : Nat) : Int) = (c : Int) + 6 by omega] at so
                  simp (disch := omega) only [z_add, z_sub, z_mul, z_neg, ite_T, ite_F, zl_0, zl_1, zl_2, zl_3, zl_4, zl_5, zl_6, zl_7, zl_8, zl_9, zl_10, zl_11, zl_12, zl_13, zl_14, zl_15, zl_16, zl_17, zl_18, zl_19, zl_20, zl_21, zl_22, zl_23, zl_24, zl_25, zl_26, zl_27, zl_28, zl_29, zl_30, zl_31, zl_32, zl_33, zl_34, zl_35, zl_36, zl_37, zl_38, zl_39, zl_40, zl_41, zl_42, zl_43, zl_44, zl_45, zl_46, zl_47, zl_48, zl_49, zl_50, zl_51, zl_52, zl_53, zl_54, zl_55, zl_56, zl_57, zl_58, zl_59, zl_60, zl_61, zl_62, zl_63, zl_64, zl_97, zl_99, zl_100, zl_126, zl_255, zl_434, zl_496, zl_1000000, zl_100000, z_lt, z_le, z_eq, inB_z, z_div, Int.reduceToNat, Wp_some, Nx_l, Nx_r, cI_i, cV_v, cL_l, ite_t, ite_f, z_nn, toNat_c, bz_e0, so, h75']
                  by_cases ho6 : v (4 + (c + 6)) = 0
                  · rw [if_pos (by omega)]
                    obtain ⟨q3, t1, t2⟩ := m_better (D := setA D 76 q2) hg2 (fun j hj => by rw [setA_same]; exact hq2 j hj) (r := s / 2 ||| 32) l1.2 (x := f s + 1) (by omega) (by omega)
                    rw [b_sh1 s hs, b_or32 (s / 2) (by omega), t1, cV_v, Wp_some, Nx_l, setA_two]
                    exact fin q3 (fun j hj => by rw [hd, if_pos ⟨h6, ho6⟩]; exact t2 j hj) _ (by omega)
                  · rw [if_neg (by omega), Wp_some, Nx_l]
                    exact fin q2 (fun j hj => by rw [hd, if_neg (fun q => ho6 q.2)]; exact hq2 j hj) _ (by omega)
                · simp (disch := omega) only [z_add, z_sub, z_mul, z_neg, ite_T, ite_F, zl_0, zl_1, zl_2, zl_3, zl_4, zl_5, zl_6, zl_7, zl_8, zl_9, zl_10, zl_11, zl_12, zl_13, zl_14, zl_15, zl_16, zl_17, zl_18, zl_19, zl_20, zl_21, zl_22, zl_23, zl_24, zl_25, zl_26, zl_27, zl_28, zl_29, zl_30, zl_31, zl_32, zl_33, zl_34, zl_35, zl_36, zl_37, zl_38, zl_39, zl_40, zl_41, zl_42, zl_43, zl_44, zl_45, zl_46, zl_47, zl_48, zl_49, zl_50, zl_51, zl_52, zl_53, zl_54, zl_55, zl_56, zl_57, zl_58, zl_59, zl_60, zl_61, zl_62, zl_63, zl_64, zl_97, zl_99, zl_100, zl_126, zl_255, zl_434, zl_496, zl_1000000, zl_100000, z_lt, z_le, z_eq, inB_z, z_div, Int.reduceToNat, Wp_some, Nx_l, Nx_r, cI_i, cV_v, cL_l, ite_t, ite_f, z_nn, toNat_c, bz_e0]
                  exact fin q2 (fun j hj => by rw [hd, if_neg (fun q => h6 q.1)]; exact hq2 j hj) _ (by omega)
              have done : ∀ (g2 : Nat → Int), g2 = (if c % 6 < 5 ∧ v (4 + (c + 1)) = 0 ∧ s / 2 % 2 = 0 then mx (mx (dpK v c f (-100000) s) (s / 2) (f s)) (s / 2 ||| 1) (f s + 1) else mx (dpK v c f (-100000) s) (s / 2) (f s)) → dp1 v c f s (dpK v c f (-100000) s) = (if c + 6 < 36 ∧ v (4 + (c + 6)) = 0 then mx g2 (s / 2 ||| 32) (f s + 1) else g2) := by
                intro g2 e
                unfold dp1
                rw [if_neg (by omega), ← e]
              split
              · rename_i h5
                rw [Wp_some, Nx_l]
                exact last q1 _ hg1 u2 (done _ (by rw [if_neg (by omega)]))
              · rename_i h5
                have w5 := hW.1 (c + 1) (by omega)
                have so := m_hard hM1 (show c + 1 < 36 by omega)
                rw [show ((c + 1 : Nat) : Int) = (c : Int) + 1 by omega] at so
                by_cases hb : s / 2 % 2 = 0
                · rw [if_pos ((b_and2 s hs).mpr hb)]
                  simp (disch := omega) only [z_add, z_sub, z_mul, z_neg, ite_T, ite_F, zl_0, zl_1, zl_2, zl_3, zl_4, zl_5, zl_6, zl_7, zl_8, zl_9, zl_10, zl_11, zl_12, zl_13, zl_14, zl_15, zl_16, zl_17, zl_18, zl_19, zl_20, zl_21, zl_22, zl_23, zl_24, zl_25, zl_26, zl_27, zl_28, zl_29, zl_30, zl_31, zl_32, zl_33, zl_34, zl_35, zl_36, zl_37, zl_38, zl_39, zl_40, zl_41, zl_42, zl_43, zl_44, zl_45, zl_46, zl_47, zl_48, zl_49, zl_50, zl_51, zl_52, zl_53, zl_54, zl_55, zl_56, zl_57, zl_58, zl_59, zl_60, zl_61, zl_62, zl_63, zl_64, zl_97, zl_99, zl_100, zl_126, zl_255, zl_434, zl_496, zl_1000000, zl_100000, z_lt, z_le, z_eq, inB_z, z_div, Int.reduceToNat, Wp_some, Nx_l, Nx_r, cI_i, cV_v, cL_l, ite_t, ite_f, z_nn, toNat_c, bz_e0, so, h75']
                  by_cases ho1 : v (4 + (c + 1)) = 0
                  · rw [if_pos (by omega)]
                    obtain ⟨q3, t1, t2⟩ := m_better (D := setA D 76 q1) hg1 (fun j hj => by rw [setA_same]; exact u2 j hj) (r := s / 2 ||| 1) l1.1 (x := f s + 1) (by omega) (by omega)
                    rw [b_or1 (s / 2) (by omega), t1, cV_v, Wp_some, Nx_l, setA_two]
                    exact last q3 _ (hg1.mx _ (by omega) (by omega)) t2 (done _ (by rw [if_pos ⟨by omega, ho1, hb⟩]))
                  · rw [if_neg (by omega), Wp_some, Nx_l]
                    exact last q1 _ hg1 u2 (done _ (by rw [if_neg (fun q => ho1 q.2.1)]))
                · rw [if_neg (fun q => hb ((b_and2 s hs).mp q)), Wp_some, Nx_l]
                  exact last q1 _ hg1 u2 (done _ (by rw [if_neg (fun q => hb q.2.2)]))
            · rw [if_neg (by omega), Wp_some, Nx_l]
              exact fin q1 (fun j hj => by unfold dp1; rw [if_pos (Or.inr ho)]; exact u2 j hj) _ (by omega)
      · rintro ls D2 ⟨q, rfl, rfl, hq⟩
        refine RunP.mono (c := 99 + 1) ?_ (by omega)
        refine RunP.go ?_
        show Wp (b_X13_covers_2 _ _ _) _
        unfold b_X13_covers_2
        simp (disch := omega) only [z_add, z_sub, z_mul, z_neg, ite_T, ite_F, zl_0, zl_1, zl_2, zl_3, zl_4, zl_5, zl_6, zl_7, zl_8, zl_9, zl_10, zl_11, zl_12, zl_13, zl_14, zl_15, zl_16, zl_17, zl_18, zl_19, zl_20, zl_21, zl_22, zl_23, zl_24, zl_25, zl_26, zl_27, zl_28, zl_29, zl_30, zl_31, zl_32, zl_33, zl_34, zl_35, zl_36, zl_37, zl_38, zl_39, zl_40, zl_41, zl_42, zl_43, zl_44, zl_45, zl_46, zl_47, zl_48, zl_49, zl_50, zl_51, zl_52, zl_53, zl_54, zl_55, zl_56, zl_57, zl_58, zl_59, zl_60, zl_61, zl_62, zl_63, zl_64, zl_97, zl_99, zl_100, zl_126, zl_255, zl_434, zl_496, zl_1000000, zl_100000, z_lt, z_le, z_eq, inB_z, z_div, Int.reduceToNat, Wp_some, Nx_l, Nx_r, cI_i, cV_v, cL_l, ite_t, ite_f, z_nn, toNat_c, bz_e0]
        refine RunP.loop (fun i ls D' => ∃ g : Nat → Int32, D' = setA (setA D 76 q) 75 g ∧ ls = [z i] ∧ ∀ j, j < i → g j = q j) 64 1 1 ?_ ?_ 0 _ _ (by omega) ⟨D.2.2.1 75, (setA_self (setA D 76 q) 75).symm, rfl, fun j h => by omega⟩ (by omega)
        · rintro i ls D' c2 hi ⟨g, rfl, rfl, hg⟩ hk
          have e76 : ∀ g' : Nat → Int32, (setA (setA D 76 q) 75 g').2.2.1 76 = q := fun g' => by rw [setA_ne _ _ (by decide), setA_same]
          refine RunP.go ?_
          show Wp (b_X13_covers_4 _ _) _
          unfold b_X13_covers_4
          simp (disch := omega) only [z_add, z_sub, z_mul, z_neg, ite_T, ite_F, zl_0, zl_1, zl_2, zl_3, zl_4, zl_5, zl_6, zl_7, zl_8, zl_9, zl_10, zl_11, zl_12, zl_13, zl_14, zl_15, zl_16, zl_17, zl_18, zl_19, zl_20, zl_21, zl_22, zl_23, zl_24, zl_25, zl_26, zl_27, zl_28, zl_29, zl_30, zl_31, zl_32, zl_33, zl_34, zl_35, zl_36, zl_37, zl_38, zl_39, zl_40, zl_41, zl_42, zl_43, zl_44, zl_45, zl_46, zl_47, zl_48, zl_49, zl_50, zl_51, zl_52, zl_53, zl_54, zl_55, zl_56, zl_57, zl_58, zl_59, zl_60, zl_61, zl_62, zl_63, zl_64, zl_97, zl_99, zl_100, zl_126, zl_255, zl_434, zl_496, zl_1000000, zl_100000, z_lt, z_le, z_eq, inB_z, z_div, Int.reduceToNat, Wp_some, Nx_l, Nx_r, cI_i, cV_v, cL_l, ite_t, ite_f, z_nn, toNat_c, bz_e0, setA_same, setA_two, e76]
          refine hk _ _ ⟨_, rfl, rfl, fun j hj => ?_⟩
          by_cases e : j = i
          · rw [e, upd_same]
          · rw [upd_ne _ _ e]
            exact hg j (by omega)
        · rintro ls D' ⟨g, rfl, rfl, hg⟩
          refine RunP.go ?_
          show Wp (b_X13_covers_4 _ _) _
          unfold b_X13_covers_4
          simp (disch := omega) only [z_add, z_sub, z_mul, z_neg, ite_T, ite_F, zl_0, zl_1, zl_2, zl_3, zl_4, zl_5, zl_6, zl_7, zl_8, zl_9, zl_10, zl_11, zl_12, zl_13, zl_14, zl_15, zl_16, zl_17, zl_18, zl_19, zl_20, zl_21, zl_22, zl_23, zl_24, zl_25, zl_26, zl_27, zl_28, zl_29, zl_30, zl_31, zl_32, zl_33, zl_34, zl_35, zl_36, zl_37, zl_38, zl_39, zl_40, zl_41, zl_42, zl_43, zl_44, zl_45, zl_46, zl_47, zl_48, zl_49, zl_50, zl_51, zl_52, zl_53, zl_54, zl_55, zl_56, zl_57, zl_58, zl_59, zl_60, zl_61, zl_62, zl_63, zl_64, zl_97, zl_99, zl_100, zl_126, zl_255, zl_434, zl_496, zl_1000000, zl_100000, z_lt, z_le, z_eq, inB_z, z_div, Int.reduceToNat, Wp_some, Nx_l, Nx_r, cI_i, cV_v, cL_l, ite_t, ite_f, z_nn, toNat_c, bz_e0]
          exact ⟨g, q, rfl, fun j hj => by rw [hg j hj]; exact hq j hj⟩
  obtain ⟨r, h1, q, g, rfl, h2⟩ := key
  exact ⟨q, g, h1, h2⟩
theorem m_mostSlabs (hM : MR D v) (hW : WF v) {K : Nat} (hK : IsK v K) : ∃ D', S_X13_mostSlabs D = some (0, some (.int (z K)), D') ∧ FM D D' ∧ D'.1 140 = z 0 := by
  have key : ∃ r, run T_X13_mostSlabs FUEL 0 [] D = some r ∧ ∃ D', r = (0, some (.int (z K)), D') ∧ FM D D' ∧ D'.1 140 = z 0 := by
    refine RunP.fin (c := 500) ?_ (by decide)
    refine RunP.go ?_
    show Wp (b_X13_mostSlabs_0 _) _
    unfold b_X13_mostSlabs_0
    simp only [z_add, z_sub, z_mul, z_neg, ite_T, ite_F, zl_0, zl_1, zl_2, zl_3, zl_4, zl_5, zl_6, zl_7, zl_8, zl_9, zl_10, zl_11, zl_12, zl_13, zl_14, zl_15, zl_16, zl_17, zl_18, zl_19, zl_20, zl_21, zl_22, zl_23, zl_24, zl_25, zl_26, zl_27, zl_28, zl_29, zl_30, zl_31, zl_32, zl_33, zl_34, zl_35, zl_36, zl_37, zl_38, zl_39, zl_40, zl_41, zl_42, zl_43, zl_44, zl_45, zl_46, zl_47, zl_48, zl_49, zl_50, zl_51, zl_52, zl_53, zl_54, zl_55, zl_56, zl_57, zl_58, zl_59, zl_60, zl_61, zl_62, zl_63, zl_64, zl_97, zl_99, zl_100, zl_126, zl_255, zl_434, zl_496, zl_1000000, zl_100000, Int.reduceToNat, Wp_some, Nx_l, Nx_r, cI_i, cV_v, cL_l, ite_t, ite_f, z_nn, toNat_c, bz_e0]
    refine RunP.loop (fun i ls D' => ∃ g : Nat → Int32, D' = setA (setI D 140 (z 0)) 75 g ∧ ls = [z i] ∧ ∀ j, j < i → g j = z (dpT v (-100000) 0 j)) 64 1 200 ?_ ?_ 0 _ _ (by omega) ⟨D.2.2.1 75, (setA_self (setI D 140 (z 0)) 75).symm, rfl, fun j h => by omega⟩ (by omega)
    · rintro i ls D' c2 hi ⟨g, rfl, rfl, hg⟩ hk
      refine RunP.go ?_
      show Wp (b_X13_mostSlabs_1 _ _) _
      unfold b_X13_mostSlabs_1
      simp (disch := omega) only [z_add, z_sub, z_mul, z_neg, ite_T, ite_F, zl_0, zl_1, zl_2, zl_3, zl_4, zl_5, zl_6, zl_7, zl_8, zl_9, zl_10, zl_11, zl_12, zl_13, zl_14, zl_15, zl_16, zl_17, zl_18, zl_19, zl_20, zl_21, zl_22, zl_23, zl_24, zl_25, zl_26, zl_27, zl_28, zl_29, zl_30, zl_31, zl_32, zl_33, zl_34, zl_35, zl_36, zl_37, zl_38, zl_39, zl_40, zl_41, zl_42, zl_43, zl_44, zl_45, zl_46, zl_47, zl_48, zl_49, zl_50, zl_51, zl_52, zl_53, zl_54, zl_55, zl_56, zl_57, zl_58, zl_59, zl_60, zl_61, zl_62, zl_63, zl_64, zl_97, zl_99, zl_100, zl_126, zl_255, zl_434, zl_496, zl_1000000, zl_100000, z_lt, z_le, z_eq, inB_z, z_div, Int.reduceToNat, Wp_some, Nx_l, Nx_r, cI_i, cV_v, cL_l, ite_t, ite_f, z_nn, toNat_c, bz_e0, setA_same, setA_two]
      split
      · rename_i e0
        rw [Wp_some, Nx_l]
        refine hk _ _ ⟨_, rfl, rfl, fun j hj => ?_⟩
        by_cases e : j = i
        · rw [e, upd_same]
          show z 0 = z (if i = 0 then 0 else -100000)
          rw [if_pos (by omega)]
        · rw [upd_ne _ _ e]
          exact hg j (by omega)
      · rename_i e0
        rw [Wp_some, Nx_l]
        refine hk _ _ ⟨_, rfl, rfl, fun j hj => ?_⟩
        by_cases e : j = i
        · rw [e, upd_same]
          show z (-100000) = z (if i = 0 then 0 else -100000)
          rw [if_neg (by omega)]
        · rw [upd_ne _ _ e]
          exact hg j (by omega)
    · rintro ls D' ⟨g, rfl, rfl, hg⟩
      refine RunP.mono (c := 199 + 1) ?_ (by omega)
      refine RunP.go ?_
      show Wp (b_X13_mostSlabs_1 _ _) _
      unfold b_X13_mostSlabs_1
      simp (disch := omega) only [z_add, z_sub, z_mul, z_neg, ite_T, ite_F, zl_0, zl_1, zl_2, zl_3, zl_4, zl_5, zl_6, zl_7, zl_8, zl_9, zl_10, zl_11, zl_12, zl_13, zl_14, zl_15, zl_16, zl_17, zl_18, zl_19, zl_20, zl_21, zl_22, zl_23, zl_24, zl_25, zl_26, zl_27, zl_28, zl_29, zl_30, zl_31, zl_32, zl_33, zl_34, zl_35, zl_36, zl_37, zl_38, zl_39, zl_40, zl_41, zl_42, zl_43, zl_44, zl_45, zl_46, zl_47, zl_48, zl_49, zl_50, zl_51, zl_52, zl_53, zl_54, zl_55, zl_56, zl_57, zl_58, zl_59, zl_60, zl_61, zl_62, zl_63, zl_64, zl_97, zl_99, zl_100, zl_126, zl_255, zl_434, zl_496, zl_1000000, zl_100000, z_lt, z_le, z_eq, inB_z, z_div, Int.reduceToNat, Wp_some, Nx_l, Nx_r, cI_i, cV_v, cL_l, ite_t, ite_f, z_nn, toNat_c, bz_e0]
      refine RunP.loop (fun i ls D' => ls = [z i] ∧ FM D D' ∧ D'.1 140 = z 0 ∧ ∀ j, j < 64 → D'.2.2.1 75 j = z (dpT v (-100000) i j)) 36 1 100 ?_ ?_ 0 _ _ (by omega) ⟨rfl, (FM.rfl.sI rfl).sA rfl, by show (setI D 140 (z 0)).1 140 = z 0; exact setI_same _ _ _, fun j hj => by rw [setA_same]; exact hg j hj⟩ (by omega)
      · rintro i ls D' c2 hi ⟨rfl, hf, ht, h75⟩ hk
        obtain ⟨q, g', u1, u2⟩ := m_covers (hM.fm hf) hW (f := dpT v (-100000) i) (fun s => by
          have := dpT_range (v := v) (B := -100000) (by omega) i s
          omega) h75 hi
        refine RunP.go ?_
        show Wp (b_X13_mostSlabs_2 _ _) _
        unfold b_X13_mostSlabs_2
        simp (disch := omega) only [z_add, z_sub, z_mul, z_neg, ite_T, ite_F, zl_0, zl_1, zl_2, zl_3, zl_4, zl_5, zl_6, zl_7, zl_8, zl_9, zl_10, zl_11, zl_12, zl_13, zl_14, zl_15, zl_16, zl_17, zl_18, zl_19, zl_20, zl_21, zl_22, zl_23, zl_24, zl_25, zl_26, zl_27, zl_28, zl_29, zl_30, zl_31, zl_32, zl_33, zl_34, zl_35, zl_36, zl_37, zl_38, zl_39, zl_40, zl_41, zl_42, zl_43, zl_44, zl_45, zl_46, zl_47, zl_48, zl_49, zl_50, zl_51, zl_52, zl_53, zl_54, zl_55, zl_56, zl_57, zl_58, zl_59, zl_60, zl_61, zl_62, zl_63, zl_64, zl_97, zl_99, zl_100, zl_126, zl_255, zl_434, zl_496, zl_1000000, zl_100000, z_lt, z_le, z_eq, inB_z, z_div, Int.reduceToNat, Wp_some, Nx_l, Nx_r, cI_i, cV_v, cL_l, ite_t, ite_f, z_nn, toNat_c, bz_e0, u1]
        exact hk _ _ ⟨rfl, (hf.sA rfl).sA rfl, ht, fun j hj => by rw [setA_same, dpT]; exact u2 j hj⟩
      · rintro ls D' ⟨rfl, hf, ht, h75⟩
        obtain ⟨e1, e2⟩ := dp_end hK (B := -100000) (by omega)
        have rng := dpT_range (v := v) (B := -100000) (by omega) 36
        refine RunP.mono (c := 99 + 1) ?_ (by omega)
        refine RunP.go ?_
        show Wp (b_X13_mostSlabs_2 _ _) _
        unfold b_X13_mostSlabs_2
        simp (disch := omega) only [z_add, z_sub, z_mul, z_neg, ite_T, ite_F, zl_0, zl_1, zl_2, zl_3, zl_4, zl_5, zl_6, zl_7, zl_8, zl_9, zl_10, zl_11, zl_12, zl_13, zl_14, zl_15, zl_16, zl_17, zl_18, zl_19, zl_20, zl_21, zl_22, zl_23, zl_24, zl_25, zl_26, zl_27, zl_28, zl_29, zl_30, zl_31, zl_32, zl_33, zl_34, zl_35, zl_36, zl_37, zl_38, zl_39, zl_40, zl_41, zl_42, zl_43, zl_44, zl_45, zl_46, zl_47, zl_48, zl_49, zl_50, zl_51, zl_52, zl_53, zl_54, zl_55, zl_56, zl_57, zl_58, zl_59, zl_60, zl_61, zl_62, zl_63, zl_64, zl_97, zl_99, zl_100, zl_126, zl_255, zl_434, zl_496, zl_1000000, zl_100000, z_lt, z_le, z_eq, inB_z, z_div, Int.reduceToNat, Wp_some, Nx_l, Nx_r, cI_i, cV_v, cL_l, ite_t, ite_f, z_nn, toNat_c, bz_e0]
        refine RunP.loop (fun s ls D2 => D2 = D' ∧ ls = [z (if s = 0 then 0 else (K : Int)), z s]) 64 1 1 ?_ ?_ 0 _ _ (by omega) ⟨rfl, rfl⟩ (by omega)
        · rintro s ls D2 c2 hs ⟨rfl, rfl⟩ hk
          have rs := rng s
          have r0 := rng 0
          refine RunP.go ?_
          show Wp (b_X13_mostSlabs_3 _ _ _) _
          unfold b_X13_mostSlabs_3
          by_cases e : s = 0
          · subst e
            simp (disch := omega) only [z_add, z_sub, z_mul, z_neg, ite_T, ite_F, zl_0, zl_1, zl_2, zl_3, zl_4, zl_5, zl_6, zl_7, zl_8, zl_9, zl_10, zl_11, zl_12, zl_13, zl_14, zl_15, zl_16, zl_17, zl_18, zl_19, zl_20, zl_21, zl_22, zl_23, zl_24, zl_25, zl_26, zl_27, zl_28, zl_29, zl_30, zl_31, zl_32, zl_33, zl_34, zl_35, zl_36, zl_37, zl_38, zl_39, zl_40, zl_41, zl_42, zl_43, zl_44, zl_45, zl_46, zl_47, zl_48, zl_49, zl_50, zl_51, zl_52, zl_53, zl_54, zl_55, zl_56, zl_57, zl_58, zl_59, zl_60, zl_61, zl_62, zl_63, zl_64, zl_97, zl_99, zl_100, zl_126, zl_255, zl_434, zl_496, zl_1000000, zl_100000, z_lt, z_le, z_eq, inB_z, z_div, Int.reduceToNat, Wp_some, Nx_l, Nx_r, cI_i, cV_v, cL_l, ite_t, ite_f, z_nn, toNat_c, bz_e0, h75 0 (by omega), e1]
            split
            · rename_i hle
              rw [Wp_some, Nx_l]
              refine hk _ _ ⟨rfl, ?_⟩
              have : K = 0 := by omega
              subst this
              rfl
            · rw [Wp_some, Nx_l]
              exact hk _ _ ⟨rfl, rfl⟩
          · have := e2 s hs e
            rw [if_neg e]
            simp (disch := omega) only [z_add, z_sub, z_mul, z_neg, ite_T, ite_F, zl_0, zl_1, zl_2, zl_3, zl_4, zl_5, zl_6, zl_7, zl_8, zl_9, zl_10, zl_11, zl_12, zl_13, zl_14, zl_15, zl_16, zl_17, zl_18, zl_19, zl_20, zl_21, zl_22, zl_23, zl_24, zl_25, zl_26, zl_27, zl_28, zl_29, zl_30, zl_31, zl_32, zl_33, zl_34, zl_35, zl_36, zl_37, zl_38, zl_39, zl_40, zl_41, zl_42, zl_43, zl_44, zl_45, zl_46, zl_47, zl_48, zl_49, zl_50, zl_51, zl_52, zl_53, zl_54, zl_55, zl_56, zl_57, zl_58, zl_59, zl_60, zl_61, zl_62, zl_63, zl_64, zl_97, zl_99, zl_100, zl_126, zl_255, zl_434, zl_496, zl_1000000, zl_100000, z_lt, z_le, z_eq, inB_z, z_div, Int.reduceToNat, Wp_some, Nx_l, Nx_r, cI_i, cV_v, cL_l, ite_t, ite_f, z_nn, toNat_c, bz_e0, h75 s hs]
            exact hk _ _ ⟨rfl, by rw [if_neg (by omega)]; rfl⟩
        · rintro ls D2 ⟨rfl, rfl⟩
          refine RunP.go ?_
          show Wp (b_X13_mostSlabs_3 _ _ _) _
          unfold b_X13_mostSlabs_3
          simp (disch := omega) only [z_add, z_sub, z_mul, z_neg, ite_T, ite_F, zl_0, zl_1, zl_2, zl_3, zl_4, zl_5, zl_6, zl_7, zl_8, zl_9, zl_10, zl_11, zl_12, zl_13, zl_14, zl_15, zl_16, zl_17, zl_18, zl_19, zl_20, zl_21, zl_22, zl_23, zl_24, zl_25, zl_26, zl_27, zl_28, zl_29, zl_30, zl_31, zl_32, zl_33, zl_34, zl_35, zl_36, zl_37, zl_38, zl_39, zl_40, zl_41, zl_42, zl_43, zl_44, zl_45, zl_46, zl_47, zl_48, zl_49, zl_50, zl_51, zl_52, zl_53, zl_54, zl_55, zl_56, zl_57, zl_58, zl_59, zl_60, zl_61, zl_62, zl_63, zl_64, zl_97, zl_99, zl_100, zl_126, zl_255, zl_434, zl_496, zl_1000000, zl_100000, z_lt, z_le, z_eq, inB_z, z_div, Int.reduceToNat, Wp_some, Nx_l, Nx_r, cI_i, cV_v, cL_l, ite_t, ite_f, z_nn, toNat_c, bz_e0]
          exact ⟨D2, rfl, hf, ht⟩
  obtain ⟨r, h1, D', rfl, h2⟩ := key
  exact ⟨D', h1, h2⟩
end LL
