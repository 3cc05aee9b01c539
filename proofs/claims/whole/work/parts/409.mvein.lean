/-! pure: veins, the reference's side -/
def smI (k : Nat) : Bool := k == 140
def smA (k : Nat) : Bool := decide (74 ≤ k) && decide (k ≤ 78)
/-- only the reference's workings change -/
def FM (D D' : DD) : Prop := (∀ k, smI k = false → D'.1 k = D.1 k) ∧ D'.2.1 = D.2.1 ∧ (∀ k, smA k = false → D'.2.2.1 k = D.2.2.1 k) ∧ D'.2.2.2 = D.2.2.2
theorem FM.rfl {D : DD} : FM D D := ⟨fun _ _ => _root_.rfl, _root_.rfl, fun _ _ => _root_.rfl, _root_.rfl⟩
theorem FM.trans {D E F : DD} (h : FM D E) (g : FM E F) : FM D F := ⟨fun k hk => (g.1 k hk).trans (h.1 k hk), g.2.1.trans h.2.1, fun k hk => (g.2.2.1 k hk).trans (h.2.2.1 k hk), g.2.2.2.trans h.2.2.2⟩
theorem FM.sI {D E : DD} {k : Nat} {x : Int32} (h : FM D E) (hk : smI k = true) : FM D (setI E k x) := ⟨fun j hj => by
  rw [setI_1, if_neg (fun e => by rw [e, hk] at hj; cases hj)]
  exact h.1 j hj, h.2.1, h.2.2.1, h.2.2.2⟩
theorem FM.sA {D E : DD} {k : Nat} {f : Nat → Int32} (h : FM D E) (hk : smA k = true) : FM D (setA E k f) := ⟨h.1, h.2.1, fun j hj => by
  rw [setA_a, if_neg (fun e => by rw [e, hk] at hj; cases hj)]
  exact h.2.2.1 j hj, h.2.2.2⟩
theorem CS.fm {D E : DD} {v : Nat → Nat} (h : CS D v) (g : FM D E) : CS E v := by
  obtain ⟨h1, h2, h3, h4, h5, h6, h7, h8, h9⟩ := h
  have r0 := g.2.2.1 0 rfl
  have r1 := g.2.2.1 1 rfl
  have r2 := g.2.2.1 2 rfl
  have r3 := g.2.2.1 3 rfl
  exact ⟨by rw [r0]; exact h1, by rw [r1]; exact h2, by rw [r2]; exact h3, by rw [r3]; exact h4, by rw [g.1 0 rfl]; exact h5, by rw [g.1 1 rfl]; exact h6, by rw [g.1 2 rfl]; exact h7, by rw [g.1 3 rfl]; exact h8, by rw [g.2.1]; exact h9⟩
theorem MR.fm {D E : DD} {v : Nat → Nat} (h : MR D v) (g : FM D E) : MR E v := by
  unfold MR
  rw [g.2.2.1 70 rfl]
  exact h
theorem MR.fc {D E : DD} {v : Nat → Nat} (h : MR D v) (g : FC D E) : MR E v := by
  unfold MR
  rw [g.2.2.1 70 rfl]
  exact h
section LL
variable {D : DD} {v : Nat → Nat}
theorem MR.setA {g : Nat → Int32} {k : Nat} (h : MR D v) (hk : k ≠ 70) : MR (setA D k g) v := by
  unfold MR
  rw [setA_ne _ _ (Ne.symm hk)]
  exact h
theorem MR.setI {x : Int32} {k : Nat} (h : MR D v) : MR (setI D k x) v := h
theorem m_vein (hM : MR D v) (hW : WF v) {a : Nat} (ha : a < 36) : ∃ g, S_X13_vein (z a) D = some (0, some (.int (z (cnt (vnB v a) 36))), setA D 74 g) ∧ ∀ j, j < 36 → g j = z (zb (vnB v a j)) := by
  have wa := hW.1 a ha
  have key : ∃ r, run T_X13_vein FUEL 0 [z a] D = some r ∧ ∃ g, r = (0, some (.int (z (cnt (vnB v a) 36))), setA D 74 g) ∧ ∀ j, j < 36 → g j = z (zb (vnB v a j)) := by
    refine RunP.fin (c := 500 * 40 + 100) ?_ (by decide)
    refine RunP.go ?_
    show Wp (b_X13_vein_0 _ _) _
    unfold b_X13_vein_0
    simp only [Int.reduceToNat, Wp_some, Nx_l, Nx_r, cI_i, cV_v, cL_l, ite_t, ite_f, z_nn, toNat_c, bz_e0, z_add, z_sub, z_mul, z_neg, ite_T, ite_F, zl_0, zl_1, zl_2, zl_3, zl_4, zl_5, zl_6, zl_7, zl_8, zl_9, zl_10, zl_11, zl_12, zl_13, zl_14, zl_15, zl_16, zl_17, zl_18, zl_19, zl_20, zl_21, zl_22, zl_23, zl_24, zl_25, zl_26, zl_27, zl_28, zl_29, zl_30, zl_31, zl_32, zl_33, zl_34, zl_35, zl_36, zl_37, zl_38, zl_39, zl_40, zl_41, zl_42, zl_43, zl_44, zl_45, zl_46, zl_47, zl_48, zl_49, zl_50, zl_51, zl_52, zl_53, zl_54, zl_55, zl_56, zl_57, zl_58, zl_59, zl_60, zl_61, zl_62, zl_63, zl_64, zl_97, zl_99, zl_100, zl_126, zl_255, zl_434, zl_496, zl_1000000, zl_100000]
    have fin : ∀ (M : Nat → Bool) (g : Nat → Int32), (∀ j, j < 36 → g j = z (zb (M j))) → M a = true → (∀ b, b < 36 → M b = true → Vn v a b) → (∀ x y, x < 36 → y < 36 → M x = true → adj x y → v (4 + y) = v (4 + a) → M y = true) → ∃ g', ((0, some (.int (z (cnt M 36))), setA D 74 g) : RT) = (0, some (.int (z (cnt (vnB v a) 36))), setA D 74 g') ∧ ∀ j, j < 36 → g' j = z (zb (vnB v a j)) := by
      intro M g h0 h1 h2 h3
      have e : ∀ b, b < 36 → M b = vnB v a b := fun b hb => bool_iff ⟨fun h => vnB_iff.mpr ⟨hb, h2 b hb h⟩, fun h => by
        obtain ⟨g1, g2⟩ := vnB_iff.mp h
        refine ((g2 (fun o => o < 36 → (M o = true ∧ v (4 + o) = v (4 + a))) (fun _ => ⟨h1, rfl⟩) (fun x y hx hy hS hadj heq _ => ?_)) hb).1
        obtain ⟨s1, s2⟩ := hS hx
        exact ⟨h3 x y hx hy s1 hadj (heq.trans s2), heq.trans s2⟩⟩
      exact ⟨g, by rw [cnt_congr 36 e], fun j hj => by rw [h0 j hj, e j hj]⟩
    have main : ∀ j (M : Nat → Bool) (g : Nat → Int32) (w : Nat), 37 ≤ cnt M 36 + j → w < cnt M 36 → (∀ j, j < 36 → g j = z (zb (M j))) → M a = true → (∀ b, b < 36 → M b = true → Vn v a b) → RunP T_X13_vein (500 * j + 1) 2 [z a, z (cnt M 36), z w] (setA D 74 g) (fun r => ∃ g, r = (0, some (.int (z (cnt (vnB v a) 36))), setA D 74 g) ∧ ∀ j, j < 36 → g j = z (zb (vnB v a j))) := by
      intro j
      induction j with
      | zero =>
        intro M g w h
        have : cnt M 36 ≤ 36 := cnt_le _ _
        omega
      | succ j ih =>
        intro M0 g0 w hj hw h0 h1 h2
        have hle0 : cnt M0 36 ≤ 36 := cnt_le _ _
        refine RunP.mono (c := (500 * j + 1) + 400 + 1) ?_ (by omega)
        refine RunP.go ?_
        show Wp (b_X13_vein_2 _ _ _ _) _
        unfold b_X13_vein_2
        simp (disch := omega) only [z_add, z_sub, z_mul, z_neg, ite_T, ite_F, zl_0, zl_1, zl_2, zl_3, zl_4, zl_5, zl_6, zl_7, zl_8, zl_9, zl_10, zl_11, zl_12, zl_13, zl_14, zl_15, zl_16, zl_17, zl_18, zl_19, zl_20, zl_21, zl_22, zl_23, zl_24, zl_25, zl_26, zl_27, zl_28, zl_29, zl_30, zl_31, zl_32, zl_33, zl_34, zl_35, zl_36, zl_37, zl_38, zl_39, zl_40, zl_41, zl_42, zl_43, zl_44, zl_45, zl_46, zl_47, zl_48, zl_49, zl_50, zl_51, zl_52, zl_53, zl_54, zl_55, zl_56, zl_57, zl_58, zl_59, zl_60, zl_61, zl_62, zl_63, zl_64, zl_97, zl_99, zl_100, zl_126, zl_255, zl_434, zl_496, zl_1000000, zl_100000, z_lt, z_le, z_eq, inB_z, z_div, Int.reduceToNat, Wp_some, Nx_l, Nx_r, cI_i, cV_v, cL_l, ite_t, ite_f, z_nn, toNat_c, bz_e0]
        refine RunP.loop (fun i ls D' => ∃ (M : Nat → Bool) (g : Nat → Int32), D' = setA D 74 g ∧ ls = [z a, z (cnt M 36), z (cnt M0 36), z i] ∧ (∀ j, j < 36 → g j = z (zb (M j))) ∧ (∀ b, M0 b = true → M b = true) ∧ (∀ b, b < 36 → M b = true → Vn v a b) ∧ (∀ y, y < i → v (4 + y) = v (4 + a) → (∃ x, x < 36 ∧ adj y x ∧ M0 x = true) → M y = true)) 36 8 (500 * j + 3) ?_ ?_ 0 _ _ (by omega) ⟨M0, g0, rfl, rfl, h0, fun b h => h, h2, fun y hy => by omega⟩ (by omega)
        · rintro i ls D' c hi ⟨M, g, rfl, rfl, k0, k1, k2, k3⟩ hkk
          have hM' : MR (setA D 74 g) v := MR.setA hM (by decide)
          have wi := hW.1 i hi
          have hleM : cnt M 36 ≤ 36 := cnt_le _ _
          have same : (M i = true ∨ v (4 + i) ≠ v (4 + a) ∨ ∀ x, x < 36 → adj i x → M x = false) → RunP T_X13_vein c 3 [z a, z (cnt M 36), z (cnt M0 36), z ((i + 1 : Nat))] (setA D 74 g) (fun r => ∃ g, r = (0, some (.int (z (cnt (vnB v a) 36))), setA D 74 g) ∧ ∀ j, j < 36 → g j = z (zb (vnB v a j))) := by
            intro h
            refine hkk _ _ ⟨M, g, rfl, rfl, k0, k1, k2, fun y hy e hx => ?_⟩
            by_cases e2 : y = i
            · subst e2
              rcases h with h | h | h
              · exact h
              · exact absurd e h
              · obtain ⟨x, u1, u2, u3⟩ := hx
                have := h x u1 u2
                rw [k1 x u3] at this
                cases this
            · exact k3 y (by omega) e hx
          refine RunP.mono (c := (c + 7) + 1) ?_ (by omega)
          refine RunP.go ?_
          show Wp (b_X13_vein_3 _ _ _ _ _) _
          unfold b_X13_vein_3
          simp (disch := omega) only [z_add, z_sub, z_mul, z_neg, ite_T, ite_F, zl_0, zl_1, zl_2, zl_3, zl_4, zl_5, zl_6, zl_7, zl_8, zl_9, zl_10, zl_11, zl_12, zl_13, zl_14, zl_15, zl_16, zl_17, zl_18, zl_19, zl_20, zl_21, zl_22, zl_23, zl_24, zl_25, zl_26, zl_27, zl_28, zl_29, zl_30, zl_31, zl_32, zl_33, zl_34, zl_35, zl_36, zl_37, zl_38, zl_39, zl_40, zl_41, zl_42, zl_43, zl_44, zl_45, zl_46, zl_47, zl_48, zl_49, zl_50, zl_51, zl_52, zl_53, zl_54, zl_55, zl_56, zl_57, zl_58, zl_59, zl_60, zl_61, zl_62, zl_63, zl_64, zl_97, zl_99, zl_100, zl_126, zl_255, zl_434, zl_496, zl_1000000, zl_100000, z_lt, z_le, z_eq, inB_z, z_div, Int.reduceToNat, Wp_some, Nx_l, Nx_r, cI_i, cV_v, cL_l, ite_t, ite_f, z_nn, toNat_c, bz_e0]
          refine RunP.loopE (fun d ls D2 => D2 = setA D 74 g ∧ ls = [z a, z (cnt M 36), z (cnt M0 36), z i, z d] ∧ ∀ d', d' < d → ∀ x : Nat, x < 36 → nbM i d' = x → M x = false) 4 1 (c + 3) ?_ ?_ 0 _ _ (by omega) ⟨rfl, rfl, fun d' h => by omega⟩ (by omega)
          · rintro d ls D2 c2 hc2 hd ⟨rfl, rfl, hn⟩ hk2
            obtain ⟨n1, n2⟩ := nbM_lo hi hd
            refine RunP.go ?_
            show Wp (b_X13_vein_4 _ _ _ _ _ _) _
            unfold b_X13_vein_4
            simp (disch := omega) only [z_add, z_sub, z_mul, z_neg, ite_T, ite_F, zl_0, zl_1, zl_2, zl_3, zl_4, zl_5, zl_6, zl_7, zl_8, zl_9, zl_10, zl_11, zl_12, zl_13, zl_14, zl_15, zl_16, zl_17, zl_18, zl_19, zl_20, zl_21, zl_22, zl_23, zl_24, zl_25, zl_26, zl_27, zl_28, zl_29, zl_30, zl_31, zl_32, zl_33, zl_34, zl_35, zl_36, zl_37, zl_38, zl_39, zl_40, zl_41, zl_42, zl_43, zl_44, zl_45, zl_46, zl_47, zl_48, zl_49, zl_50, zl_51, zl_52, zl_53, zl_54, zl_55, zl_56, zl_57, zl_58, zl_59, zl_60, zl_61, zl_62, zl_63, zl_64, zl_97, zl_99, zl_100, zl_126, zl_255, zl_434, zl_496, zl_1000000, zl_100000, z_lt, z_le, z_eq, inB_z, z_div, Int.reduceToNat, Wp_some, Nx_l, Nx_r, cI_i, cV_v, cL_l, ite_t, ite_f, z_nn, toNat_c, bz_e0, setA_same, k0 i hi, zb_0]
            cases hMi : M i with
            | true =>
              rw [if_neg (by simp), Wp_some, Nx_l]
              exact RunP.mono (same (Or.inl hMi)) (by omega)
            | false =>
              rw [if_pos rfl]
              simp (disch := omega) only [z_add, z_sub, z_mul, z_neg, ite_T, ite_F, zl_0, zl_1, zl_2, zl_3, zl_4, zl_5, zl_6, zl_7, zl_8, zl_9, zl_10, zl_11, zl_12, zl_13, zl_14, zl_15, zl_16, zl_17, zl_18, zl_19, zl_20, zl_21, zl_22, zl_23, zl_24, zl_25, zl_26, zl_27, zl_28, zl_29, zl_30, zl_31, zl_32, zl_33, zl_34, zl_35, zl_36, zl_37, zl_38, zl_39, zl_40, zl_41, zl_42, zl_43, zl_44, zl_45, zl_46, zl_47, zl_48, zl_49, zl_50, zl_51, zl_52, zl_53, zl_54, zl_55, zl_56, zl_57, zl_58, zl_59, zl_60, zl_61, zl_62, zl_63, zl_64, zl_97, zl_99, zl_100, zl_126, zl_255, zl_434, zl_496, zl_1000000, zl_100000, z_lt, z_le, z_eq, inB_z, z_div, Int.reduceToNat, Wp_some, Nx_l, Nx_r, cI_i, cV_v, cL_l, ite_t, ite_f, z_nn, toNat_c, bz_e0, m_hard hM' hi, m_hard hM' ha, m_beside hi hd]
              split
              · rename_i heq
                split
                · rename_i hneg
                  rw [Wp_some, Nx_l]
                  refine hk2 _ _ ⟨rfl, rfl, fun d' h x hx e => ?_⟩
                  by_cases e2 : d' = d
                  · subst e2
                    omega
                  · exact hn d' (by omega) x hx e
                · rename_i hneg
                  obtain ⟨y, hy⟩ := Int.eq_ofNat_of_zero_le (show 0 ≤ nbM i d by omega)
                  have hy36 : y < 36 := by omega
                  rw [hy]
                  simp (disch := omega) only [z_add, z_sub, z_mul, z_neg, ite_T, ite_F, zl_0, zl_1, zl_2, zl_3, zl_4, zl_5, zl_6, zl_7, zl_8, zl_9, zl_10, zl_11, zl_12, zl_13, zl_14, zl_15, zl_16, zl_17, zl_18, zl_19, zl_20, zl_21, zl_22, zl_23, zl_24, zl_25, zl_26, zl_27, zl_28, zl_29, zl_30, zl_31, zl_32, zl_33, zl_34, zl_35, zl_36, zl_37, zl_38, zl_39, zl_40, zl_41, zl_42, zl_43, zl_44, zl_45, zl_46, zl_47, zl_48, zl_49, zl_50, zl_51, zl_52, zl_53, zl_54, zl_55, zl_56, zl_57, zl_58, zl_59, zl_60, zl_61, zl_62, zl_63, zl_64, zl_97, zl_99, zl_100, zl_126, zl_255, zl_434, zl_496, zl_1000000, zl_100000, z_lt, z_le, z_eq, inB_z, z_div, Int.reduceToNat, Wp_some, Nx_l, Nx_r, cI_i, cV_v, cL_l, ite_t, ite_f, z_nn, toNat_c, bz_e0, setA_same, k0 y hy36, zb_0]
                  cases hMy : M y with
                  | false =>
                    rw [if_pos rfl, Wp_some, Nx_l]
                    refine hk2 _ _ ⟨rfl, rfl, fun d' h x hx e => ?_⟩
                    by_cases e2 : d' = d
                    · subst e2
                      have e3 : x = y := by omega
                      rw [e3]
                      exact hMy
                    · exact hn d' (by omega) x hx e
                  | true =>
                    rw [if_neg (by simp), Wp_some, Nx_l, setA_two]
                    have hu : ∀ j, j < 36 → upd g i (z 1) j = z (zb (ub M i j)) := fun j hj => by
                      by_cases e : j = i
                      · rw [e, upd_same, ub_self]
                        rfl
                      · rw [upd_ne _ _ e, ub_ne _ e]
                        exact k0 j hj
                    have hcu := cnt_ub hi hMi
                    have hleu : cnt (ub M i) 36 ≤ 36 := cnt_le _ _
                    have go : RunP T_X13_vein c 3 [z a, z ((cnt M 36 : Int) + 1), z (cnt M0 36), z ((i + 1 : Nat))] (setA D 74 (upd g i (z 1))) (fun r => ∃ g, r = (0, some (.int (z (cnt (vnB v a) 36))), setA D 74 g) ∧ ∀ j, j < 36 → g j = z (zb (vnB v a j))) := by
                      refine hkk _ _ ⟨ub M i, upd g i (z 1), rfl, by rw [hcu]; rfl, hu, fun b h => by unfold ub; rw [k1 b h]; rfl, fun b hb h => ?_, fun y' hy' e hx => ?_⟩
                      · by_cases e : b = i
                        · subst e
                          exact (k2 y hy36 hMy).next hy36 hi (adj_symm ((nbM_adj hi hy36).mp ⟨d, hd, hy⟩)) (by rw [(k2 y hy36 hMy).hard]; omega)
                        · rw [ub_ne _ e] at h
                          exact k2 b hb h
                      · by_cases e2 : y' = i
                        · rw [e2]
                          exact ub_self _ _
                        · rw [ub_ne _ e2]
                          exact k3 y' (by omega) e hx
                    refine RunP.mono (c := (c + 2) + 1) ?_ (by omega)
                    refine RunP.go ?_
                    show Wp (b_X13_vein_4 _ _ _ _ _ _) _
                    unfold b_X13_vein_4
                    simp (disch := omega) only [z_add, z_sub, z_mul, z_neg, ite_T, ite_F, zl_0, zl_1, zl_2, zl_3, zl_4, zl_5, zl_6, zl_7, zl_8, zl_9, zl_10, zl_11, zl_12, zl_13, zl_14, zl_15, zl_16, zl_17, zl_18, zl_19, zl_20, zl_21, zl_22, zl_23, zl_24, zl_25, zl_26, zl_27, zl_28, zl_29, zl_30, zl_31, zl_32, zl_33, zl_34, zl_35, zl_36, zl_37, zl_38, zl_39, zl_40, zl_41, zl_42, zl_43, zl_44, zl_45, zl_46, zl_47, zl_48, zl_49, zl_50, zl_51, zl_52, zl_53, zl_54, zl_55, zl_56, zl_57, zl_58, zl_59, zl_60, zl_61, zl_62, zl_63, zl_64, zl_97, zl_99, zl_100, zl_126, zl_255, zl_434, zl_496, zl_1000000, zl_100000, z_lt, z_le, z_eq, inB_z, z_div, Int.reduceToNat, Wp_some, Nx_l, Nx_r, cI_i, cV_v, cL_l, ite_t, ite_f, z_nn, toNat_c, bz_e0, setA_same, hu i hi, ub_self, zb_0]
                    split
                    · rw [Wp_some, Nx_l]
                      exact RunP.mono go (by omega)
                    · rw [if_neg (by simp), Wp_some, Nx_l]
                      exact RunP.mono go (by omega)
              · rename_i heq
                rw [Wp_some, Nx_l]
                exact RunP.mono (same (Or.inr (Or.inl (by omega)))) (by omega)
          · rintro ls D2 ⟨rfl, rfl, hn⟩
            refine RunP.mono (c := (c + 2) + 1) ?_ (by omega)
            refine RunP.go ?_
            show Wp (b_X13_vein_4 _ _ _ _ _ _) _
            unfold b_X13_vein_4
            simp (disch := omega) only [z_add, z_sub, z_mul, z_neg, ite_T, ite_F, zl_0, zl_1, zl_2, zl_3, zl_4, zl_5, zl_6, zl_7, zl_8, zl_9, zl_10, zl_11, zl_12, zl_13, zl_14, zl_15, zl_16, zl_17, zl_18, zl_19, zl_20, zl_21, zl_22, zl_23, zl_24, zl_25, zl_26, zl_27, zl_28, zl_29, zl_30, zl_31, zl_32, zl_33, zl_34, zl_35, zl_36, zl_37, zl_38, zl_39, zl_40, zl_41, zl_42, zl_43, zl_44, zl_45, zl_46, zl_47, zl_48, zl_49, zl_50, zl_51, zl_52, zl_53, zl_54, zl_55, zl_56, zl_57, zl_58, zl_59, zl_60, zl_61, zl_62, zl_63, zl_64, zl_97, zl_99, zl_100, zl_126, zl_255, zl_434, zl_496, zl_1000000, zl_100000, z_lt, z_le, z_eq, inB_z, z_div, Int.reduceToNat, Wp_some, Nx_l, Nx_r, cI_i, cV_v, cL_l, ite_t, ite_f, z_nn, toNat_c, bz_e0]
            refine RunP.mono (same (Or.inr (Or.inr (fun x hx hadj => ?_)))) (by omega)
            obtain ⟨d, u1, u2⟩ := (nbM_adj hi hx).mpr hadj
            exact hn d u1 x hx u2
        · rintro ls D' ⟨M, g, rfl, rfl, k0, k1, k2, k3⟩
          have hleM : cnt M 36 ≤ 36 := cnt_le _ _
          have hm2 : cnt M0 36 ≤ cnt M 36 := cnt_mono 36 (fun b _ h => k1 b h)
          refine RunP.go ?_
          show Wp (b_X13_vein_3 _ _ _ _ _) _
          unfold b_X13_vein_3
          simp (disch := omega) only [z_add, z_sub, z_mul, z_neg, ite_T, ite_F, zl_0, zl_1, zl_2, zl_3, zl_4, zl_5, zl_6, zl_7, zl_8, zl_9, zl_10, zl_11, zl_12, zl_13, zl_14, zl_15, zl_16, zl_17, zl_18, zl_19, zl_20, zl_21, zl_22, zl_23, zl_24, zl_25, zl_26, zl_27, zl_28, zl_29, zl_30, zl_31, zl_32, zl_33, zl_34, zl_35, zl_36, zl_37, zl_38, zl_39, zl_40, zl_41, zl_42, zl_43, zl_44, zl_45, zl_46, zl_47, zl_48, zl_49, zl_50, zl_51, zl_52, zl_53, zl_54, zl_55, zl_56, zl_57, zl_58, zl_59, zl_60, zl_61, zl_62, zl_63, zl_64, zl_97, zl_99, zl_100, zl_126, zl_255, zl_434, zl_496, zl_1000000, zl_100000, z_lt, z_le, z_eq, inB_z, z_div, Int.reduceToNat, Wp_some, Nx_l, Nx_r, cI_i, cV_v, cL_l, ite_t, ite_f, z_nn, toNat_c, bz_e0]
          by_cases e2 : cnt M0 36 = cnt M 36
          · have e3 : ∀ b, b < 36 → M0 b = M b := fun b hb => cnt_eq_of 36 (fun b _ h => k1 b h) e2 b hb
            refine RunP.go ?_
            show Wp (b_X13_vein_2 _ _ _ _) _
            unfold b_X13_vein_2
            simp (disch := omega) only [z_add, z_sub, z_mul, z_neg, ite_T, ite_F, zl_0, zl_1, zl_2, zl_3, zl_4, zl_5, zl_6, zl_7, zl_8, zl_9, zl_10, zl_11, zl_12, zl_13, zl_14, zl_15, zl_16, zl_17, zl_18, zl_19, zl_20, zl_21, zl_22, zl_23, zl_24, zl_25, zl_26, zl_27, zl_28, zl_29, zl_30, zl_31, zl_32, zl_33, zl_34, zl_35, zl_36, zl_37, zl_38, zl_39, zl_40, zl_41, zl_42, zl_43, zl_44, zl_45, zl_46, zl_47, zl_48, zl_49, zl_50, zl_51, zl_52, zl_53, zl_54, zl_55, zl_56, zl_57, zl_58, zl_59, zl_60, zl_61, zl_62, zl_63, zl_64, zl_97, zl_99, zl_100, zl_126, zl_255, zl_434, zl_496, zl_1000000, zl_100000, z_lt, z_le, z_eq, inB_z, z_div, Int.reduceToNat, Wp_some, Nx_l, Nx_r, cI_i, cV_v, cL_l, ite_t, ite_f, z_nn, toNat_c, bz_e0]
            exact fin M g k0 (k1 a h1) k2 (fun x y hx hy g1 g2 g3 => k3 y hy g3 ⟨x, hx, adj_symm g2, by rw [e3 x hx]; exact g1⟩)
          · exact RunP.mono (ih M g (cnt M0 36) (by omega) (by omega) k0 (k1 a h1) k2) (by omega)
    refine RunP.loop (fun i ls D' => ∃ g, D' = setA D 74 g ∧ ls = [z a, z i] ∧ ∀ j, j < i → g j = z (zb (decide (j = a)))) 36 1 (500 * 37 + 2) ?_ ?_ 0 _ _ (by omega) ⟨D.2.2.1 74, (setA_self D 74).symm, rfl, fun j h => by omega⟩ (by omega)
    · rintro i ls D' c hi ⟨g, rfl, rfl, hg⟩ hk
      refine RunP.go ?_
      show Wp (b_X13_vein_1 _ _ _) _
      unfold b_X13_vein_1
      simp (disch := omega) only [z_add, z_sub, z_mul, z_neg, ite_T, ite_F, zl_0, zl_1, zl_2, zl_3, zl_4, zl_5, zl_6, zl_7, zl_8, zl_9, zl_10, zl_11, zl_12, zl_13, zl_14, zl_15, zl_16, zl_17, zl_18, zl_19, zl_20, zl_21, zl_22, zl_23, zl_24, zl_25, zl_26, zl_27, zl_28, zl_29, zl_30, zl_31, zl_32, zl_33, zl_34, zl_35, zl_36, zl_37, zl_38, zl_39, zl_40, zl_41, zl_42, zl_43, zl_44, zl_45, zl_46, zl_47, zl_48, zl_49, zl_50, zl_51, zl_52, zl_53, zl_54, zl_55, zl_56, zl_57, zl_58, zl_59, zl_60, zl_61, zl_62, zl_63, zl_64, zl_97, zl_99, zl_100, zl_126, zl_255, zl_434, zl_496, zl_1000000, zl_100000, z_lt, z_le, z_eq, inB_z, z_div, Int.reduceToNat, Wp_some, Nx_l, Nx_r, cI_i, cV_v, cL_l, ite_t, ite_f, z_nn, toNat_c, bz_e0, setA_two, setA_same]
      split
      · rename_i e
        rw [Wp_some, Nx_l]
        refine hk _ _ ⟨_, rfl, rfl, fun j h => ?_⟩
        by_cases e2 : j = i
        · rw [e2, upd_same, show decide (i = a) = true from decide_eq_true (by omega)]
          rfl
        · rw [upd_ne _ _ e2]
          exact hg j (by omega)
      · rename_i e
        rw [Wp_some, Nx_l]
        refine hk _ _ ⟨_, rfl, rfl, fun j h => ?_⟩
        by_cases e2 : j = i
        · rw [e2, upd_same, show decide (i = a) = false from decide_eq_false (by omega)]
          rfl
        · rw [upd_ne _ _ e2]
          exact hg j (by omega)
    · rintro ls D' ⟨g, rfl, rfl, hg⟩
      refine RunP.go ?_
      show Wp (b_X13_vein_1 _ _ _) _
      unfold b_X13_vein_1
      simp (disch := omega) only [z_add, z_sub, z_mul, z_neg, ite_T, ite_F, zl_0, zl_1, zl_2, zl_3, zl_4, zl_5, zl_6, zl_7, zl_8, zl_9, zl_10, zl_11, zl_12, zl_13, zl_14, zl_15, zl_16, zl_17, zl_18, zl_19, zl_20, zl_21, zl_22, zl_23, zl_24, zl_25, zl_26, zl_27, zl_28, zl_29, zl_30, zl_31, zl_32, zl_33, zl_34, zl_35, zl_36, zl_37, zl_38, zl_39, zl_40, zl_41, zl_42, zl_43, zl_44, zl_45, zl_46, zl_47, zl_48, zl_49, zl_50, zl_51, zl_52, zl_53, zl_54, zl_55, zl_56, zl_57, zl_58, zl_59, zl_60, zl_61, zl_62, zl_63, zl_64, zl_97, zl_99, zl_100, zl_126, zl_255, zl_434, zl_496, zl_1000000, zl_100000, z_lt, z_le, z_eq, inB_z, z_div, Int.reduceToNat, Wp_some, Nx_l, Nx_r, cI_i, cV_v, cL_l, ite_t, ite_f, z_nn, toNat_c, bz_e0]
      have c1 : cnt (fun j => decide (j = a)) 36 = 1 := by
        have h1 := cnt_ub (p := fun _ => false) ha rfl
        have h2 : cnt (fun j => decide (j = a)) 36 = cnt (ub (fun _ => false) a) 36 := cnt_congr 36 (fun b _ => by unfold ub; simp)
        have h3 : cnt (fun _ => false) 36 = 0 := by decide
        omega
      have m := main 37 (fun j => decide (j = a)) g 0 (by omega) (by omega) hg (by simp) (fun b _ h => by
        rw [decide_eq_true_eq] at h
        subst h
        exact Vn.self)
      rw [c1] at m
      exact RunP.mono m (by omega)
  obtain ⟨r, h1, g, rfl, h2⟩ := key
  exact ⟨g, h1, h2⟩
theorem m_veinSize_in (hM : MR D v) (hW : WF v) {a b : Int} (h1 : -2147483648 ≤ a) (h2 : a < 2147483648) (h3 : -2147483648 ≤ b) (h4 : b < 2147483648) (hc : 0 ≤ cellZ a b) (h0 : v (4 + (cellZ a b).toNat) ≠ 0) : ∃ D', S_X13_veinSize (z a) (z b) D = some (0, some (.int (z (cnt (vnB v (cellZ a b).toNat) 36))), D') ∧ FM D D' ∧ D'.1 140 = z 0 := by
  have hhi := cellZ_hi a b
  obtain ⟨c, hcc⟩ := Int.eq_ofNat_of_zero_le hc
  rw [hcc] at h0 hhi ⊢
  rw [toNat_c] at h0
  have hc36 : c < 36 := by omega
  have w := hW.1 c hc36
  obtain ⟨g, q1, q2⟩ := m_vein (D := setI D 140 (z 0)) hM.setI hW hc36
  have mc : ∀ E : DD, S_X13_cell (z a) (z b) E = some (0, some (.int (z c)), E) := fun E => by rw [m_cell (by omega), hcc]
  refine ⟨_, ?_, (FM.rfl.sI (k := 140) (x := z 0) rfl).sA (k := 74) (f := g) rfl, by show (setI D 140 (z 0)).1 140 = z 0; exact setI_same _ _ _⟩
  unfold S_X13_veinSize
  simp (disch := omega) only [z_add, z_sub, z_mul, z_neg, ite_T, ite_F, zl_0, zl_1, zl_2, zl_3, zl_4, zl_5, zl_6, zl_7, zl_8, zl_9, zl_10, zl_11, zl_12, zl_13, zl_14, zl_15, zl_16, zl_17, zl_18, zl_19, zl_20, zl_21, zl_22, zl_23, zl_24, zl_25, zl_26, zl_27, zl_28, zl_29, zl_30, zl_31, zl_32, zl_33, zl_34, zl_35, zl_36, zl_37, zl_38, zl_39, zl_40, zl_41, zl_42, zl_43, zl_44, zl_45, zl_46, zl_47, zl_48, zl_49, zl_50, zl_51, zl_52, zl_53, zl_54, zl_55, zl_56, zl_57, zl_58, zl_59, zl_60, zl_61, zl_62, zl_63, zl_64, zl_97, zl_99, zl_100, zl_126, zl_255, zl_434, zl_496, zl_1000000, zl_100000, z_lt, z_le, z_eq, inB_z, z_div, Int.reduceToNat, Wp_some, Nx_l, Nx_r, cI_i, cV_v, cL_l, ite_t, ite_f, z_nn, toNat_c, bz_e0, m_isCell, hcc, mc, m_hard hM hc36, q1]
theorem m_veinCount_in (hM : MR D v) (hW : WF v) {H : Nat} (h1 : 1 ≤ H) (h2 : H ≤ 9) : ∃ D', S_X13_veinCount (z H) D = some (0, some (.int (z (cnt (vcB v H) 36))), D') ∧ FM D D' ∧ D'.1 140 = z 0 := by
  have key : ∃ r, run T_X13_veinCount FUEL 0 [z H] D = some r ∧ ∃ D', r = (0, some (.int (z (cnt (vcB v H) 36))), D') ∧ FM D D' ∧ D'.1 140 = z 0 := by
    refine RunP.fin (c := 100 * 36 + 10) ?_ (by decide)
    refine RunP.go ?_
    show Wp (b_X13_veinCount_0 _ _) _
    unfold b_X13_veinCount_0
    simp (disch := omega) only [Int.reduceToNat, Wp_some, Nx_l, Nx_r, cI_i, cV_v, cL_l, ite_t, ite_f, z_nn, toNat_c, bz_e0, z_add, z_sub, z_mul, z_neg, ite_T, ite_F, zl_0, zl_1, zl_2, zl_3, zl_4, zl_5, zl_6, zl_7, zl_8, zl_9, zl_10, zl_11, zl_12, zl_13, zl_14, zl_15, zl_16, zl_17, zl_18, zl_19, zl_20, zl_21, zl_22, zl_23, zl_24, zl_25, zl_26, zl_27, zl_28, zl_29, zl_30, zl_31, zl_32, zl_33, zl_34, zl_35, zl_36, zl_37, zl_38, zl_39, zl_40, zl_41, zl_42, zl_43, zl_44, zl_45, zl_46, zl_47, zl_48, zl_49, zl_50, zl_51, zl_52, zl_53, zl_54, zl_55, zl_56, zl_57, zl_58, zl_59, zl_60, zl_61, zl_62, zl_63, zl_64, zl_97, zl_99, zl_100, zl_126, zl_255, zl_434, zl_496, zl_1000000, zl_100000, z_lt, z_le, z_eq, inB_z, z_div, m_isIn]
    refine RunP.loop (fun i ls D' => ls = [z H, z (cnt (vcB v H) i), z i] ∧ FM D D' ∧ D'.1 140 = z 0) 36 60 1 ?_ ?_ 0 _ _ (by omega) ⟨rfl, FM.rfl.sI (k := 140) rfl, setI_same _ _ _⟩ (by omega)
    · rintro i ls D' c hi ⟨rfl, hf, ht⟩ hk
      have hM' := hM.fm hf
      have wi := hW.1 i hi
      refine RunP.mono (c := (c + 59) + 1) ?_ (by omega)
      refine RunP.go ?_
      show Wp (b_X13_veinCount_1 _ _ _ _) _
      unfold b_X13_veinCount_1
      simp (disch := omega) only [z_add, z_sub, z_mul, z_neg, ite_T, ite_F, zl_0, zl_1, zl_2, zl_3, zl_4, zl_5, zl_6, zl_7, zl_8, zl_9, zl_10, zl_11, zl_12, zl_13, zl_14, zl_15, zl_16, zl_17, zl_18, zl_19, zl_20, zl_21, zl_22, zl_23, zl_24, zl_25, zl_26, zl_27, zl_28, zl_29, zl_30, zl_31, zl_32, zl_33, zl_34, zl_35, zl_36, zl_37, zl_38, zl_39, zl_40, zl_41, zl_42, zl_43, zl_44, zl_45, zl_46, zl_47, zl_48, zl_49, zl_50, zl_51, zl_52, zl_53, zl_54, zl_55, zl_56, zl_57, zl_58, zl_59, zl_60, zl_61, zl_62, zl_63, zl_64, zl_97, zl_99, zl_100, zl_126, zl_255, zl_434, zl_496, zl_1000000, zl_100000, z_lt, z_le, z_eq, inB_z, z_div, Int.reduceToNat, Wp_some, Nx_l, Nx_r, cI_i, cV_v, cL_l, ite_t, ite_f, z_nn, toNat_c, bz_e0, m_hard hM' hi]
      by_cases hHi : v (4 + i) = H
      · rw [if_pos (by omega)]
        obtain ⟨g, q1, q2⟩ := m_vein hM' hW hi
        rw [q1, cI_i, Wp_some, Nx_l]
        have hf2 : FM D (setA D' 74 g) := hf.sA rfl
        have ht2 : (setA D' 74 g).1 140 = z 0 := ht
        refine RunP.loopE (fun l ls D2 => D2 = setA D' 74 g ∧ ls = [z H, z (cnt (vcB v H) i), z i, z l] ∧ ∀ j, j < l → vnB v i j = false) i 1 (c + 1) ?_ ?_ 0 _ _ (by omega) ⟨rfl, rfl, fun j h => by omega⟩ (by omega)
        · rintro l ls D2 c2 hc2 hl ⟨rfl, rfl, hn⟩ hk2
          refine RunP.go ?_
          show Wp (b_X13_veinCount_2 _ _ _ _ _) _
          unfold b_X13_veinCount_2
          simp (disch := omega) only [z_add, z_sub, z_mul, z_neg, ite_T, ite_F, zl_0, zl_1, zl_2, zl_3, zl_4, zl_5, zl_6, zl_7, zl_8, zl_9, zl_10, zl_11, zl_12, zl_13, zl_14, zl_15, zl_16, zl_17, zl_18, zl_19, zl_20, zl_21, zl_22, zl_23, zl_24, zl_25, zl_26, zl_27, zl_28, zl_29, zl_30, zl_31, zl_32, zl_33, zl_34, zl_35, zl_36, zl_37, zl_38, zl_39, zl_40, zl_41, zl_42, zl_43, zl_44, zl_45, zl_46, zl_47, zl_48, zl_49, zl_50, zl_51, zl_52, zl_53, zl_54, zl_55, zl_56, zl_57, zl_58, zl_59, zl_60, zl_61, zl_62, zl_63, zl_64, zl_97, zl_99, zl_100, zl_126, zl_255, zl_434, zl_496, zl_1000000, zl_100000, z_lt, z_le, z_eq, inB_z, z_div, Int.reduceToNat, Wp_some, Nx_l, Nx_r, cI_i, cV_v, cL_l, ite_t, ite_f, z_nn, toNat_c, bz_e0, setA_same, q2 l (by omega), zb_0]
          cases hv : vnB v i l with
          | false =>
            rw [if_pos rfl, Wp_some, Nx_l]
            refine hk2 _ _ ⟨rfl, rfl, fun j h => ?_⟩
            by_cases e : j = l
            · rw [e]
              exact hv
            · exact hn j (by omega)
          | true =>
            rw [if_neg (by simp), Wp_some, Nx_l]
            have e : vcB v H i = false := by
              unfold vcB
              rw [Bool.and_eq_false_iff]
              right
              cases hw : lowB v i
              · rfl
              · exact absurd (vnB_iff.mp hv).2 (lowB_iff.mp hw l hl)
            exact RunP.mono (hk _ _ ⟨by rw [cnt, e]; simp, hf2, ht2⟩) (by omega)
        · rintro ls D2 ⟨rfl, rfl, hn⟩
          have hv : vnB v i i = true := vnB_iff.mpr ⟨hi, Vn.self⟩
          have e : vcB v H i = true := by
            unfold vcB
            rw [Bool.and_eq_true, decide_eq_true_eq]
            refine ⟨hHi, lowB_iff.mpr (fun b hb g => ?_)⟩
            have := hn b hb
            rw [vnB_iff.mpr ⟨by omega, g⟩] at this
            cases this
          refine RunP.go ?_
          show Wp (b_X13_veinCount_2 _ _ _ _ _) _
          unfold b_X13_veinCount_2
          simp (disch := omega) only [z_add, z_sub, z_mul, z_neg, ite_T, ite_F, zl_0, zl_1, zl_2, zl_3, zl_4, zl_5, zl_6, zl_7, zl_8, zl_9, zl_10, zl_11, zl_12, zl_13, zl_14, zl_15, zl_16, zl_17, zl_18, zl_19, zl_20, zl_21, zl_22, zl_23, zl_24, zl_25, zl_26, zl_27, zl_28, zl_29, zl_30, zl_31, zl_32, zl_33, zl_34, zl_35, zl_36, zl_37, zl_38, zl_39, zl_40, zl_41, zl_42, zl_43, zl_44, zl_45, zl_46, zl_47, zl_48, zl_49, zl_50, zl_51, zl_52, zl_53, zl_54, zl_55, zl_56, zl_57, zl_58, zl_59, zl_60, zl_61, zl_62, zl_63, zl_64, zl_97, zl_99, zl_100, zl_126, zl_255, zl_434, zl_496, zl_1000000, zl_100000, z_lt, z_le, z_eq, inB_z, z_div, Int.reduceToNat, Wp_some, Nx_l, Nx_r, cI_i, cV_v, cL_l, ite_t, ite_f, z_nn, toNat_c, bz_e0, setA_same, q2 i hi, zb_0, hv]
          rw [if_neg (by simp), Wp_some, Nx_l]
          exact hk _ _ ⟨by rw [cnt, e]; rfl, hf2, ht2⟩
      · rw [if_neg (by omega), Wp_some, Nx_l]
        have e : vcB v H i = false := by
          unfold vcB
          simp [hHi]
        exact RunP.mono (hk _ _ ⟨by rw [cnt, e]; simp, hf, ht⟩) (by omega)
    · rintro ls D' ⟨rfl, hf, ht⟩
      refine RunP.go ?_
      show Wp (b_X13_veinCount_1 _ _ _ _) _
      unfold b_X13_veinCount_1
      simp (disch := omega) only [z_add, z_sub, z_mul, z_neg, ite_T, ite_F, zl_0, zl_1, zl_2, zl_3, zl_4, zl_5, zl_6, zl_7, zl_8, zl_9, zl_10, zl_11, zl_12, zl_13, zl_14, zl_15, zl_16, zl_17, zl_18, zl_19, zl_20, zl_21, zl_22, zl_23, zl_24, zl_25, zl_26, zl_27, zl_28, zl_29, zl_30, zl_31, zl_32, zl_33, zl_34, zl_35, zl_36, zl_37, zl_38, zl_39, zl_40, zl_41, zl_42, zl_43, zl_44, zl_45, zl_46, zl_47, zl_48, zl_49, zl_50, zl_51, zl_52, zl_53, zl_54, zl_55, zl_56, zl_57, zl_58, zl_59, zl_60, zl_61, zl_62, zl_63, zl_64, zl_97, zl_99, zl_100, zl_126, zl_255, zl_434, zl_496, zl_1000000, zl_100000, z_lt, z_le, z_eq, inB_z, z_div, Int.reduceToNat, Wp_some, Nx_l, Nx_r, cI_i, cV_v, cL_l, ite_t, ite_f, z_nn, toNat_c, bz_e0]
      exact ⟨D', rfl, hf, ht⟩
  obtain ⟨r, h1, D', rfl, h2⟩ := key
  exact ⟨D', h1, h2⟩
end LL
