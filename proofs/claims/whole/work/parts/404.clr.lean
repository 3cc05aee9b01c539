/-! pure: what a method may write besides its answer; rows cleared and filled -/
def scI (k : Nat) : Bool := k == 125 || k == 126 || k == 127
def scA (k : Nat) : Bool := decide (50 ≤ k) && decide (k ≤ 63)
/-- only the workings of the quarry's own parts change -/
def FC (D D' : DD) : Prop := (∀ k, scI k = false → D'.1 k = D.1 k) ∧ D'.2.1 = D.2.1 ∧ (∀ k, scA k = false → D'.2.2.1 k = D.2.2.1 k) ∧ D'.2.2.2 = D.2.2.2
theorem FC.rfl {D : DD} : FC D D := ⟨fun _ _ => _root_.rfl, _root_.rfl, fun _ _ => _root_.rfl, _root_.rfl⟩
theorem FC.trans {D E F : DD} (h : FC D E) (g : FC E F) : FC D F := ⟨fun k hk => (g.1 k hk).trans (h.1 k hk), g.2.1.trans h.2.1, fun k hk => (g.2.2.1 k hk).trans (h.2.2.1 k hk), g.2.2.2.trans h.2.2.2⟩
theorem FC.sI {D E : DD} {k : Nat} {x : Int32} (h : FC D E) (hk : scI k = true) : FC D (setI E k x) := ⟨fun j hj => by
  rw [setI_1, if_neg (fun e => by rw [e, hk] at hj; cases hj)]
  exact h.1 j hj, h.2.1, h.2.2.1, h.2.2.2⟩
theorem FC.sA {D E : DD} {k : Nat} {f : Nat → Int32} (h : FC D E) (hk : scA k = true) : FC D (setA E k f) := ⟨h.1, h.2.1, fun j hj => by
  rw [setA_a, if_neg (fun e => by rw [e, hk] at hj; cases hj)]
  exact h.2.2.1 j hj, h.2.2.2⟩
theorem CS.fc {D E : DD} {v : Nat → Nat} (h : CS D v) (g : FC D E) : CS E v := by
  obtain ⟨h1, h2, h3, h4, h5, h6, h7, h8, h9⟩ := h
  have r0 := g.2.2.1 0 rfl
  have r1 := g.2.2.1 1 rfl
  have r2 := g.2.2.1 2 rfl
  have r3 := g.2.2.1 3 rfl
  exact ⟨by rw [r0]; exact h1, by rw [r1]; exact h2, by rw [r2]; exact h3, by rw [r3]; exact h4, by rw [g.1 0 rfl]; exact h5, by rw [g.1 1 rfl]; exact h6, by rw [g.1 2 rfl]; exact h7, by rw [g.1 3 rfl]; exact h8, by rw [g.2.1]; exact h9⟩
theorem up_self {α : Type} (f : Nat → α) (k : Nat) : va_up f k (f k) = f := by
  funext j
  unfold va_up
  split
  · rename_i h
    rw [h]
  · rfl
theorem up_two {α : Type} (f : Nat → α) (k : Nat) (x y : α) : va_up (va_up f k x) k y = va_up f k y := by
  funext j
  unfold va_up
  split <;> rfl
theorem setA_self (D : DD) (k : Nat) : setA D k (D.2.2.1 k) = D := by
  unfold setA
  rw [up_self]
theorem setA_two (D : DD) (k : Nat) (f g : Nat → Int32) : setA (setA D k f) k g = setA D k g := by
  unfold setA
  rw [up_two]
theorem setA_same (D : DD) (k : Nat) (f : Nat → Int32) : (setA D k f).2.2.1 k = f := if_pos rfl
theorem setA_ne (D : DD) {k j : Nat} (f : Nat → Int32) (h : j ≠ k) : (setA D k f).2.2.1 j = D.2.2.1 j := if_neg h
theorem setI_same (D : DD) (k : Nat) (x : Int32) : (setI D k x).1 k = x := if_pos rfl
theorem setI_ne (D : DD) {k j : Nat} (x : Int32) (h : j ≠ k) : (setI D k x).1 j = D.1 j := if_neg h
theorem upd_same (f : Nat → Int32) (i : Nat) (x : Int32) : upd f i x i = x := if_pos rfl
theorem upd_ne (f : Nat → Int32) {i j : Nat} (x : Int32) (h : j ≠ i) : upd f i x j = f j := if_neg h
theorem X12_clear_blast_exploded_ok (D : DD) : ∃ g, S_X12_clear_blast_exploded D = some (0, none, setA D 52 g) ∧ ∀ j, j < 6 → g j = z 0 := by
  have key : ∃ r, run T_X12_clear_blast_exploded FUEL 0 [] D = some r ∧ ∃ g, r = (0, none, setA D 52 g) ∧ ∀ j, j < 6 → g j = z 0 := by
    refine RunP.fin (c := 100) ?_ (by decide)
    refine RunP.go ?_
    show Wp (b_X12_clear_blast_exploded_0 _) _
    unfold b_X12_clear_blast_exploded_0
    simp only [Int.reduceToNat, Wp_some, Nx_l, Nx_r, cI_i, cV_v, cL_l, ite_t, ite_f, z_nn, toNat_c, bz_e0, z_add, z_sub, z_mul, z_neg, ite_T, ite_F, zl_0, zl_1, zl_2, zl_3, zl_4, zl_5, zl_6, zl_7, zl_8, zl_9, zl_10, zl_11, zl_12, zl_13, zl_14, zl_15, zl_16, zl_17, zl_18, zl_19, zl_20, zl_21, zl_22, zl_23, zl_24, zl_25, zl_26, zl_27, zl_28, zl_29, zl_30, zl_31, zl_32, zl_33, zl_34, zl_35, zl_36, zl_37, zl_38, zl_39, zl_40, zl_41, zl_42, zl_43, zl_44, zl_45, zl_46, zl_47, zl_48, zl_49, zl_50, zl_51, zl_52, zl_53, zl_54, zl_55, zl_56, zl_57, zl_58, zl_59, zl_60, zl_61, zl_62, zl_63, zl_64, zl_97, zl_99, zl_100, zl_126, zl_255, zl_434, zl_496, zl_1000000, zl_100000]
    refine RunP.loop (fun i ls D' => ls = [z i] ∧ ∃ g, D' = setA D 52 g ∧ ∀ j, j < i → g j = z 0) 6 1 1 ?_ ?_ 0 _ _ (by omega) ⟨rfl, D.2.2.1 52, (setA_self D 52).symm, fun j h => by omega⟩ (by omega)
    · rintro i ls D' c hi ⟨rfl, g, rfl, hg⟩ hk
      refine RunP.go ?_
      show Wp (b_X12_clear_blast_exploded_1 _ _) _
      unfold b_X12_clear_blast_exploded_1
      simp (disch := omega) only [z_add, z_sub, z_mul, z_neg, ite_T, ite_F, zl_0, zl_1, zl_2, zl_3, zl_4, zl_5, zl_6, zl_7, zl_8, zl_9, zl_10, zl_11, zl_12, zl_13, zl_14, zl_15, zl_16, zl_17, zl_18, zl_19, zl_20, zl_21, zl_22, zl_23, zl_24, zl_25, zl_26, zl_27, zl_28, zl_29, zl_30, zl_31, zl_32, zl_33, zl_34, zl_35, zl_36, zl_37, zl_38, zl_39, zl_40, zl_41, zl_42, zl_43, zl_44, zl_45, zl_46, zl_47, zl_48, zl_49, zl_50, zl_51, zl_52, zl_53, zl_54, zl_55, zl_56, zl_57, zl_58, zl_59, zl_60, zl_61, zl_62, zl_63, zl_64, zl_97, zl_99, zl_100, zl_126, zl_255, zl_434, zl_496, zl_1000000, zl_100000, z_lt, z_le, z_eq, inB_z, z_div, Int.reduceToNat, Wp_some, Nx_l, Nx_r, cI_i, cV_v, cL_l, ite_t, ite_f, z_nn, toNat_c, bz_e0, setA_two, setA_same, na_0]
      refine hk _ _ ⟨rfl, _, rfl, fun j h => ?_⟩
      by_cases e : j = i
      · subst e
        exact upd_same _ _ _
      · rw [upd_ne _ _ e]
        exact hg j (by omega)
    · rintro ls D' ⟨rfl, g, rfl, hg⟩
      refine RunP.go ?_
      show Wp (b_X12_clear_blast_exploded_1 _ _) _
      unfold b_X12_clear_blast_exploded_1
      simp (disch := omega) only [z_add, z_sub, z_mul, z_neg, ite_T, ite_F, zl_0, zl_1, zl_2, zl_3, zl_4, zl_5, zl_6, zl_7, zl_8, zl_9, zl_10, zl_11, zl_12, zl_13, zl_14, zl_15, zl_16, zl_17, zl_18, zl_19, zl_20, zl_21, zl_22, zl_23, zl_24, zl_25, zl_26, zl_27, zl_28, zl_29, zl_30, zl_31, zl_32, zl_33, zl_34, zl_35, zl_36, zl_37, zl_38, zl_39, zl_40, zl_41, zl_42, zl_43, zl_44, zl_45, zl_46, zl_47, zl_48, zl_49, zl_50, zl_51, zl_52, zl_53, zl_54, zl_55, zl_56, zl_57, zl_58, zl_59, zl_60, zl_61, zl_62, zl_63, zl_64, zl_97, zl_99, zl_100, zl_126, zl_255, zl_434, zl_496, zl_1000000, zl_100000, z_lt, z_le, z_eq, inB_z, z_div, Int.reduceToNat, Wp_some, Nx_l, Nx_r, cI_i, cV_v, cL_l, ite_t, ite_f, z_nn, toNat_c, bz_e0]
      exact ⟨g, rfl, hg⟩
  obtain ⟨r, h1, g, rfl, h2⟩ := key
  exact ⟨g, h1, h2⟩
theorem X12_clear_blast_opened_ok (D : DD) : ∃ g, S_X12_clear_blast_opened D = some (0, none, setA D 53 g) ∧ ∀ j, j < 36 → g j = z 0 := by
  have key : ∃ r, run T_X12_clear_blast_opened FUEL 0 [] D = some r ∧ ∃ g, r = (0, none, setA D 53 g) ∧ ∀ j, j < 36 → g j = z 0 := by
    refine RunP.fin (c := 100) ?_ (by decide)
    refine RunP.go ?_
    show Wp (b_X12_clear_blast_opened_0 _) _
    unfold b_X12_clear_blast_opened_0
    simp only [Int.reduceToNat, Wp_some, Nx_l, Nx_r, cI_i, cV_v, cL_l, ite_t, ite_f, z_nn, toNat_c, bz_e0, z_add, z_sub, z_mul, z_neg, ite_T, ite_F, zl_0, zl_1, zl_2, zl_3, zl_4, zl_5, zl_6, zl_7, zl_8, zl_9, zl_10, zl_11, zl_12, zl_13, zl_14, zl_15, zl_16, zl_17, zl_18, zl_19, zl_20, zl_21, zl_22, zl_23, zl_24, zl_25, zl_26, zl_27, zl_28, zl_29, zl_30, zl_31, zl_32, zl_33, zl_34, zl_35, zl_36, zl_37, zl_38, zl_39, zl_40, zl_41, zl_42, zl_43, zl_44, zl_45, zl_46, zl_47, zl_48, zl_49, zl_50, zl_51, zl_52, zl_53, zl_54, zl_55, zl_56, zl_57, zl_58, zl_59, zl_60, zl_61, zl_62, zl_63, zl_64, zl_97, zl_99, zl_100, zl_126, zl_255, zl_434, zl_496, zl_1000000, zl_100000]
    refine RunP.loop (fun i ls D' => ls = [z i] ∧ ∃ g, D' = setA D 53 g ∧ ∀ j, j < i → g j = z 0) 36 1 1 ?_ ?_ 0 _ _ (by omega) ⟨rfl, D.2.2.1 53, (setA_self D 53).symm, fun j h => by omega⟩ (by omega)
    · rintro i ls D' c hi ⟨rfl, g, rfl, hg⟩ hk
      refine RunP.go ?_
      show Wp (b_X12_clear_blast_opened_1 _ _) _
      unfold b_X12_clear_blast_opened_1
      simp (disch := omega) only [z_add, z_sub, z_mul, z_neg, ite_T, ite_F, zl_0, zl_1, zl_2, zl_3, zl_4, zl_5, zl_6, zl_7, zl_8, zl_9, zl_10, zl_11, zl_12, zl_13, zl_14, zl_15, zl_16, zl_17, zl_18, zl_19, zl_20, zl_21, zl_22, zl_23, zl_24, zl_25, zl_26, zl_27, zl_28, zl_29, zl_30, zl_31, zl_32, zl_33, zl_34, zl_35, zl_36, zl_37, zl_38, zl_39, zl_40, zl_41, zl_42, zl_43, zl_44, zl_45, zl_46, zl_47, zl_48, zl_49, zl_50, zl_51, zl_52, zl_53, zl_54, zl_55, zl_56, zl_57, zl_58, zl_59, zl_60, zl_61, zl_62, zl_63, zl_64, zl_97, zl_99, zl_100, zl_126, zl_255, zl_434, zl_496, zl_1000000, zl_100000, z_lt, z_le, z_eq, inB_z, z_div, Int.reduceToNat, Wp_some, Nx_l, Nx_r, cI_i, cV_v, cL_l, ite_t, ite_f, z_nn, toNat_c, bz_e0, setA_two, setA_same, na_0]
      refine hk _ _ ⟨rfl, _, rfl, fun j h => ?_⟩
      by_cases e : j = i
      · subst e
        exact upd_same _ _ _
      · rw [upd_ne _ _ e]
        exact hg j (by omega)
    · rintro ls D' ⟨rfl, g, rfl, hg⟩
      refine RunP.go ?_
      show Wp (b_X12_clear_blast_opened_1 _ _) _
      unfold b_X12_clear_blast_opened_1
      simp (disch := omega) only [z_add, z_sub, z_mul, z_neg, ite_T, ite_F, zl_0, zl_1, zl_2, zl_3, zl_4, zl_5, zl_6, zl_7, zl_8, zl_9, zl_10, zl_11, zl_12, zl_13, zl_14, zl_15, zl_16, zl_17, zl_18, zl_19, zl_20, zl_21, zl_22, zl_23, zl_24, zl_25, zl_26, zl_27, zl_28, zl_29, zl_30, zl_31, zl_32, zl_33, zl_34, zl_35, zl_36, zl_37, zl_38, zl_39, zl_40, zl_41, zl_42, zl_43, zl_44, zl_45, zl_46, zl_47, zl_48, zl_49, zl_50, zl_51, zl_52, zl_53, zl_54, zl_55, zl_56, zl_57, zl_58, zl_59, zl_60, zl_61, zl_62, zl_63, zl_64, zl_97, zl_99, zl_100, zl_126, zl_255, zl_434, zl_496, zl_1000000, zl_100000, z_lt, z_le, z_eq, inB_z, z_div, Int.reduceToNat, Wp_some, Nx_l, Nx_r, cI_i, cV_v, cL_l, ite_t, ite_f, z_nn, toNat_c, bz_e0]
      exact ⟨g, rfl, hg⟩
  obtain ⟨r, h1, g, rfl, h2⟩ := key
  exact ⟨g, h1, h2⟩
theorem X12_clear_slabs_asked_ok (D : DD) : ∃ g, S_X12_clear_slabs_asked D = some (0, none, setA D 58 g) ∧ ∀ j, j < 36 → g j = z 0 := by
  have key : ∃ r, run T_X12_clear_slabs_asked FUEL 0 [] D = some r ∧ ∃ g, r = (0, none, setA D 58 g) ∧ ∀ j, j < 36 → g j = z 0 := by
    refine RunP.fin (c := 100) ?_ (by decide)
    refine RunP.go ?_
    show Wp (b_X12_clear_slabs_asked_0 _) _
    unfold b_X12_clear_slabs_asked_0
    simp only [Int.reduceToNat, Wp_some, Nx_l, Nx_r, cI_i, cV_v, cL_l, ite_t, ite_f, z_nn, toNat_c, bz_e0, z_add, z_sub, z_mul, z_neg, ite_T, ite_F, zl_0, zl_1, zl_2, zl_3, zl_4, zl_5, zl_6, zl_7, zl_8, zl_9, zl_10, zl_11, zl_12, zl_13, zl_14, zl_15, zl_16, zl_17, zl_18, zl_19, zl_20, zl_21, zl_22, zl_23, zl_24, zl_25, zl_26, zl_27, zl_28, zl_29, zl_30, zl_31, zl_32, zl_33, zl_34, zl_35, zl_36, zl_37, zl_38, zl_39, zl_40, zl_41, zl_42, zl_43, zl_44, zl_45, zl_46, zl_47, zl_48, zl_49, zl_50, zl_51, zl_52, zl_53, zl_54, zl_55, zl_56, zl_57, zl_58, zl_59, zl_60, zl_61, zl_62, zl_63, zl_64, zl_97, zl_99, zl_100, zl_126, zl_255, zl_434, zl_496, zl_1000000, zl_100000]
    refine RunP.loop (fun i ls D' => ls = [z i] ∧ ∃ g, D' = setA D 58 g ∧ ∀ j, j < i → g j = z 0) 36 1 1 ?_ ?_ 0 _ _ (by omega) ⟨rfl, D.2.2.1 58, (setA_self D 58).symm, fun j h => by omega⟩ (by omega)
    · rintro i ls D' c hi ⟨rfl, g, rfl, hg⟩ hk
      refine RunP.go ?_
      show Wp (b_X12_clear_slabs_asked_1 _ _) _
      unfold b_X12_clear_slabs_asked_1
      simp (disch := omega) only [z_add, z_sub, z_mul, z_neg, ite_T, ite_F, zl_0, zl_1, zl_2, zl_3, zl_4, zl_5, zl_6, zl_7, zl_8, zl_9, zl_10, zl_11, zl_12, zl_13, zl_14, zl_15, zl_16, zl_17, zl_18, zl_19, zl_20, zl_21, zl_22, zl_23, zl_24, zl_25, zl_26, zl_27, zl_28, zl_29, zl_30, zl_31, zl_32, zl_33, zl_34, zl_35, zl_36, zl_37, zl_38, zl_39, zl_40, zl_41, zl_42, zl_43, zl_44, zl_45, zl_46, zl_47, zl_48, zl_49, zl_50, zl_51, zl_52, zl_53, zl_54, zl_55, zl_56, zl_57, zl_58, zl_59, zl_60, zl_61, zl_62, zl_63, zl_64, zl_97, zl_99, zl_100, zl_126, zl_255, zl_434, zl_496, zl_1000000, zl_100000, z_lt, z_le, z_eq, inB_z, z_div, Int.reduceToNat, Wp_some, Nx_l, Nx_r, cI_i, cV_v, cL_l, ite_t, ite_f, z_nn, toNat_c, bz_e0, setA_two, setA_same, na_0]
      refine hk _ _ ⟨rfl, _, rfl, fun j h => ?_⟩
      by_cases e : j = i
      · subst e
        exact upd_same _ _ _
      · rw [upd_ne _ _ e]
        exact hg j (by omega)
    · rintro ls D' ⟨rfl, g, rfl, hg⟩
      refine RunP.go ?_
      show Wp (b_X12_clear_slabs_asked_1 _ _) _
      unfold b_X12_clear_slabs_asked_1
      simp (disch := omega) only [z_add, z_sub, z_mul, z_neg, ite_T, ite_F, zl_0, zl_1, zl_2, zl_3, zl_4, zl_5, zl_6, zl_7, zl_8, zl_9, zl_10, zl_11, zl_12, zl_13, zl_14, zl_15, zl_16, zl_17, zl_18, zl_19, zl_20, zl_21, zl_22, zl_23, zl_24, zl_25, zl_26, zl_27, zl_28, zl_29, zl_30, zl_31, zl_32, zl_33, zl_34, zl_35, zl_36, zl_37, zl_38, zl_39, zl_40, zl_41, zl_42, zl_43, zl_44, zl_45, zl_46, zl_47, zl_48, zl_49, zl_50, zl_51, zl_52, zl_53, zl_54, zl_55, zl_56, zl_57, zl_58, zl_59, zl_60, zl_61, zl_62, zl_63, zl_64, zl_97, zl_99, zl_100, zl_126, zl_255, zl_434, zl_496, zl_1000000, zl_100000, z_lt, z_le, z_eq, inB_z, z_div, Int.reduceToNat, Wp_some, Nx_l, Nx_r, cI_i, cV_v, cL_l, ite_t, ite_f, z_nn, toNat_c, bz_e0]
      exact ⟨g, rfl, hg⟩
  obtain ⟨r, h1, g, rfl, h2⟩ := key
  exact ⟨g, h1, h2⟩
theorem X12_clear_tunnels_settled_ok (D : DD) : ∃ g, S_X12_clear_tunnels_settled D = some (0, none, setA D 56 g) ∧ ∀ j, j < 36 → g j = z 0 := by
  have key : ∃ r, run T_X12_clear_tunnels_settled FUEL 0 [] D = some r ∧ ∃ g, r = (0, none, setA D 56 g) ∧ ∀ j, j < 36 → g j = z 0 := by
    refine RunP.fin (c := 100) ?_ (by decide)
    refine RunP.go ?_
    show Wp (b_X12_clear_tunnels_settled_0 _) _
    unfold b_X12_clear_tunnels_settled_0
    simp only [Int.reduceToNat, Wp_some, Nx_l, Nx_r, cI_i, cV_v, cL_l, ite_t, ite_f, z_nn, toNat_c, bz_e0, z_add, z_sub, z_mul, z_neg, ite_T, ite_F, zl_0, zl_1, zl_2, zl_3, zl_4, zl_5, zl_6, zl_7, zl_8, zl_9, zl_10, zl_11, zl_12, zl_13, zl_14, zl_15, zl_16, zl_17, zl_18, zl_19, zl_20, zl_21, zl_22, zl_23, zl_24, zl_25, zl_26, zl_27, zl_28, zl_29, zl_30, zl_31, zl_32, zl_33, zl_34, zl_35, zl_36, zl_37, zl_38, zl_39, zl_40, zl_41, zl_42, zl_43, zl_44, zl_45, zl_46, zl_47, zl_48, zl_49, zl_50, zl_51, zl_52, zl_53, zl_54, zl_55, zl_56, zl_57, zl_58, zl_59, zl_60, zl_61, zl_62, zl_63, zl_64, zl_97, zl_99, zl_100, zl_126, zl_255, zl_434, zl_496, zl_1000000, zl_100000]
    refine RunP.loop (fun i ls D' => ls = [z i] ∧ ∃ g, D' = setA D 56 g ∧ ∀ j, j < i → g j = z 0) 36 1 1 ?_ ?_ 0 _ _ (by omega) ⟨rfl, D.2.2.1 56, (setA_self D 56).symm, fun j h => by omega⟩ (by omega)
    · rintro i ls D' c hi ⟨rfl, g, rfl, hg⟩ hk
      refine RunP.go ?_
      show Wp (b_X12_clear_tunnels_settled_1 _ _) _
      unfold b_X12_clear_tunnels_settled_1
      simp (disch := omega) only [z_add, z_sub, z_mul, z_neg, ite_T, ite_F, zl_0, zl_1, zl_2, zl_3, zl_4, zl_5, zl_6, zl_7, zl_8, zl_9, zl_10, zl_11, zl_12, zl_13, zl_14, zl_15, zl_16, zl_17, zl_18, zl_19, zl_20, zl_21, zl_22, zl_23, zl_24, zl_25, zl_26, zl_27, zl_28, zl_29, zl_30, zl_31, zl_32, zl_33, zl_34, zl_35, zl_36, zl_37, zl_38, zl_39, zl_40, zl_41, zl_42, zl_43, zl_44, zl_45, zl_46, zl_47, zl_48, zl_49, zl_50, zl_51, zl_52, zl_53, zl_54, zl_55, zl_56, zl_57, zl_58, zl_59, zl_60, zl_61, zl_62, zl_63, zl_64, zl_97, zl_99, zl_100, zl_126, zl_255, zl_434, zl_496, zl_1000000, zl_100000, z_lt, z_le, z_eq, inB_z, z_div, Int.reduceToNat, Wp_some, Nx_l, Nx_r, cI_i, cV_v, cL_l, ite_t, ite_f, z_nn, toNat_c, bz_e0, setA_two, setA_same, na_0]
      refine hk _ _ ⟨rfl, _, rfl, fun j h => ?_⟩
      by_cases e : j = i
      · subst e
        exact upd_same _ _ _
      · rw [upd_ne _ _ e]
        exact hg j (by omega)
    · rintro ls D' ⟨rfl, g, rfl, hg⟩
      refine RunP.go ?_
      show Wp (b_X12_clear_tunnels_settled_1 _ _) _
      unfold b_X12_clear_tunnels_settled_1
      simp (disch := omega) only [z_add, z_sub, z_mul, z_neg, ite_T, ite_F, zl_0, zl_1, zl_2, zl_3, zl_4, zl_5, zl_6, zl_7, zl_8, zl_9, zl_10, zl_11, zl_12, zl_13, zl_14, zl_15, zl_16, zl_17, zl_18, zl_19, zl_20, zl_21, zl_22, zl_23, zl_24, zl_25, zl_26, zl_27, zl_28, zl_29, zl_30, zl_31, zl_32, zl_33, zl_34, zl_35, zl_36, zl_37, zl_38, zl_39, zl_40, zl_41, zl_42, zl_43, zl_44, zl_45, zl_46, zl_47, zl_48, zl_49, zl_50, zl_51, zl_52, zl_53, zl_54, zl_55, zl_56, zl_57, zl_58, zl_59, zl_60, zl_61, zl_62, zl_63, zl_64, zl_97, zl_99, zl_100, zl_126, zl_255, zl_434, zl_496, zl_1000000, zl_100000, z_lt, z_le, z_eq, inB_z, z_div, Int.reduceToNat, Wp_some, Nx_l, Nx_r, cI_i, cV_v, cL_l, ite_t, ite_f, z_nn, toNat_c, bz_e0]
      exact ⟨g, rfl, hg⟩
  obtain ⟨r, h1, g, rfl, h2⟩ := key
  exact ⟨g, h1, h2⟩
theorem X12_clear_veins_found_ok (D : DD) : ∃ g, S_X12_clear_veins_found D = some (0, none, setA D 50 g) ∧ ∀ j, j < 36 → g j = z 0 := by
  have key : ∃ r, run T_X12_clear_veins_found FUEL 0 [] D = some r ∧ ∃ g, r = (0, none, setA D 50 g) ∧ ∀ j, j < 36 → g j = z 0 := by
    refine RunP.fin (c := 100) ?_ (by decide)
    refine RunP.go ?_
    show Wp (b_X12_clear_veins_found_0 _) _
    unfold b_X12_clear_veins_found_0
    simp only [Int.reduceToNat, Wp_some, Nx_l, Nx_r, cI_i, cV_v, cL_l, ite_t, ite_f, z_nn, toNat_c, bz_e0, z_add, z_sub, z_mul, z_neg, ite_T, ite_F, zl_0, zl_1, zl_2, zl_3, zl_4, zl_5, zl_6, zl_7, zl_8, zl_9, zl_10, zl_11, zl_12, zl_13, zl_14, zl_15, zl_16, zl_17, zl_18, zl_19, zl_20, zl_21, zl_22, zl_23, zl_24, zl_25, zl_26, zl_27, zl_28, zl_29, zl_30, zl_31, zl_32, zl_33, zl_34, zl_35, zl_36, zl_37, zl_38, zl_39, zl_40, zl_41, zl_42, zl_43, zl_44, zl_45, zl_46, zl_47, zl_48, zl_49, zl_50, zl_51, zl_52, zl_53, zl_54, zl_55, zl_56, zl_57, zl_58, zl_59, zl_60, zl_61, zl_62, zl_63, zl_64, zl_97, zl_99, zl_100, zl_126, zl_255, zl_434, zl_496, zl_1000000, zl_100000]
    refine RunP.loop (fun i ls D' => ls = [z i] ∧ ∃ g, D' = setA D 50 g ∧ ∀ j, j < i → g j = z 0) 36 1 1 ?_ ?_ 0 _ _ (by omega) ⟨rfl, D.2.2.1 50, (setA_self D 50).symm, fun j h => by omega⟩ (by omega)
    · rintro i ls D' c hi ⟨rfl, g, rfl, hg⟩ hk
      refine RunP.go ?_
      show Wp (b_X12_clear_veins_found_1 _ _) _
      unfold b_X12_clear_veins_found_1
      simp (disch := omega) only [z_add, z_sub, z_mul, z_neg, ite_T, ite_F, zl_0, zl_1, zl_2, zl_3, zl_4, zl_5, zl_6, zl_7, zl_8, zl_9, zl_10, zl_11, zl_12, zl_13, zl_14, zl_15, zl_16, zl_17, zl_18, zl_19, zl_20, zl_21, zl_22, zl_23, zl_24, zl_25, zl_26, zl_27, zl_28, zl_29, zl_30, zl_31, zl_32, zl_33, zl_34, zl_35, zl_36, zl_37, zl_38, zl_39, zl_40, zl_41, zl_42, zl_43, zl_44, zl_45, zl_46, zl_47, zl_48, zl_49, zl_50, zl_51, zl_52, zl_53, zl_54, zl_55, zl_56, zl_57, zl_58, zl_59, zl_60, zl_61, zl_62, zl_63, zl_64, zl_97, zl_99, zl_100, zl_126, zl_255, zl_434, zl_496, zl_1000000, zl_100000, z_lt, z_le, z_eq, inB_z, z_div, Int.reduceToNat, Wp_some, Nx_l, Nx_r, cI_i, cV_v, cL_l, ite_t, ite_f, z_nn, toNat_c, bz_e0, setA_two, setA_same, na_0]
      refine hk _ _ ⟨rfl, _, rfl, fun j h => ?_⟩
      by_cases e : j = i
      · subst e
        exact upd_same _ _ _
      · rw [upd_ne _ _ e]
        exact hg j (by omega)
    · rintro ls D' ⟨rfl, g, rfl, hg⟩
      refine RunP.go ?_
      show Wp (b_X12_clear_veins_found_1 _ _) _
      unfold b_X12_clear_veins_found_1
      simp (disch := omega) only [z_add, z_sub, z_mul, z_neg, ite_T, ite_F, zl_0, zl_1, zl_2, zl_3, zl_4, zl_5, zl_6, zl_7, zl_8, zl_9, zl_10, zl_11, zl_12, zl_13, zl_14, zl_15, zl_16, zl_17, zl_18, zl_19, zl_20, zl_21, zl_22, zl_23, zl_24, zl_25, zl_26, zl_27, zl_28, zl_29, zl_30, zl_31, zl_32, zl_33, zl_34, zl_35, zl_36, zl_37, zl_38, zl_39, zl_40, zl_41, zl_42, zl_43, zl_44, zl_45, zl_46, zl_47, zl_48, zl_49, zl_50, zl_51, zl_52, zl_53, zl_54, zl_55, zl_56, zl_57, zl_58, zl_59, zl_60, zl_61, zl_62, zl_63, zl_64, zl_97, zl_99, zl_100, zl_126, zl_255, zl_434, zl_496, zl_1000000, zl_100000, z_lt, z_le, z_eq, inB_z, z_div, Int.reduceToNat, Wp_some, Nx_l, Nx_r, cI_i, cV_v, cL_l, ite_t, ite_f, z_nn, toNat_c, bz_e0]
      exact ⟨g, rfl, hg⟩
  obtain ⟨r, h1, g, rfl, h2⟩ := key
  exact ⟨g, h1, h2⟩
theorem J7_fill_53178_blocks_heights_ok (D : DD) (x : Int32) : ∃ g, S_J7_fill_53178_blocks_heights x D = some (0, none, setA D 61 g) ∧ ∀ j, j < 6 → g j = x := by
  have key : ∃ r, run T_J7_fill_53178_blocks_heights FUEL 0 [x] D = some r ∧ ∃ g, r = (0, none, setA D 61 g) ∧ ∀ j, j < 6 → g j = x := by
    refine RunP.fin (c := 100) ?_ (by decide)
    refine RunP.go ?_
    show Wp (b_J7_fill_53178_blocks_heights_0 _ _) _
    unfold b_J7_fill_53178_blocks_heights_0
    simp only [Int.reduceToNat, Wp_some, Nx_l, Nx_r, cI_i, cV_v, cL_l, ite_t, ite_f, z_nn, toNat_c, bz_e0, z_add, z_sub, z_mul, z_neg, ite_T, ite_F, zl_0, zl_1, zl_2, zl_3, zl_4, zl_5, zl_6, zl_7, zl_8, zl_9, zl_10, zl_11, zl_12, zl_13, zl_14, zl_15, zl_16, zl_17, zl_18, zl_19, zl_20, zl_21, zl_22, zl_23, zl_24, zl_25, zl_26, zl_27, zl_28, zl_29, zl_30, zl_31, zl_32, zl_33, zl_34, zl_35, zl_36, zl_37, zl_38, zl_39, zl_40, zl_41, zl_42, zl_43, zl_44, zl_45, zl_46, zl_47, zl_48, zl_49, zl_50, zl_51, zl_52, zl_53, zl_54, zl_55, zl_56, zl_57, zl_58, zl_59, zl_60, zl_61, zl_62, zl_63, zl_64, zl_97, zl_99, zl_100, zl_126, zl_255, zl_434, zl_496, zl_1000000, zl_100000]
    refine RunP.loop (fun i ls D' => ls = [x, z i, z 6] ∧ ∃ g, D' = setA D 61 g ∧ ∀ j, j < i → g j = x) 6 1 1 ?_ ?_ 0 _ _ (by omega) ⟨rfl, D.2.2.1 61, (setA_self D 61).symm, fun j h => by omega⟩ (by omega)
    · rintro i ls D' c hi ⟨rfl, g, rfl, hg⟩ hk
      refine RunP.go ?_
      show Wp (b_J7_fill_53178_blocks_heights_1 _ _ _ _) _
      unfold b_J7_fill_53178_blocks_heights_1
      simp (disch := omega) only [z_add, z_sub, z_mul, z_neg, ite_T, ite_F, zl_0, zl_1, zl_2, zl_3, zl_4, zl_5, zl_6, zl_7, zl_8, zl_9, zl_10, zl_11, zl_12, zl_13, zl_14, zl_15, zl_16, zl_17, zl_18, zl_19, zl_20, zl_21, zl_22, zl_23, zl_24, zl_25, zl_26, zl_27, zl_28, zl_29, zl_30, zl_31, zl_32, zl_33, zl_34, zl_35, zl_36, zl_37, zl_38, zl_39, zl_40, zl_41, zl_42, zl_43, zl_44, zl_45, zl_46, zl_47, zl_48, zl_49, zl_50, zl_51, zl_52, zl_53, zl_54, zl_55, zl_56, zl_57, zl_58, zl_59, zl_60, zl_61, zl_62, zl_63, zl_64, zl_97, zl_99, zl_100, zl_126, zl_255, zl_434, zl_496, zl_1000000, zl_100000, z_lt, z_le, z_eq, inB_z, z_div, Int.reduceToNat, Wp_some, Nx_l, Nx_r, cI_i, cV_v, cL_l, ite_t, ite_f, z_nn, toNat_c, bz_e0, setA_two, setA_same]
      refine hk _ _ ⟨rfl, _, rfl, fun j h => ?_⟩
      by_cases e : j = i
      · subst e
        exact upd_same _ _ _
      · rw [upd_ne _ _ e]
        exact hg j (by omega)
    · rintro ls D' ⟨rfl, g, rfl, hg⟩
      refine RunP.go ?_
      show Wp (b_J7_fill_53178_blocks_heights_1 _ _ _ _) _
      unfold b_J7_fill_53178_blocks_heights_1
      simp (disch := omega) only [z_add, z_sub, z_mul, z_neg, ite_T, ite_F, zl_0, zl_1, zl_2, zl_3, zl_4, zl_5, zl_6, zl_7, zl_8, zl_9, zl_10, zl_11, zl_12, zl_13, zl_14, zl_15, zl_16, zl_17, zl_18, zl_19, zl_20, zl_21, zl_22, zl_23, zl_24, zl_25, zl_26, zl_27, zl_28, zl_29, zl_30, zl_31, zl_32, zl_33, zl_34, zl_35, zl_36, zl_37, zl_38, zl_39, zl_40, zl_41, zl_42, zl_43, zl_44, zl_45, zl_46, zl_47, zl_48, zl_49, zl_50, zl_51, zl_52, zl_53, zl_54, zl_55, zl_56, zl_57, zl_58, zl_59, zl_60, zl_61, zl_62, zl_63, zl_64, zl_97, zl_99, zl_100, zl_126, zl_255, zl_434, zl_496, zl_1000000, zl_100000, z_lt, z_le, z_eq, inB_z, z_div, Int.reduceToNat, Wp_some, Nx_l, Nx_r, cI_i, cV_v, cL_l, ite_t, ite_f, z_nn, toNat_c, bz_e0]
      exact ⟨g, rfl, hg⟩
  obtain ⟨r, h1, g, rfl, h2⟩ := key
  exact ⟨g, h1, h2⟩
theorem J7_fill_53178_slabs_partner_ok (D : DD) (x : Int32) : ∃ g, S_J7_fill_53178_slabs_partner x D = some (0, none, setA D 57 g) ∧ ∀ j, j < 36 → g j = x := by
  have key : ∃ r, run T_J7_fill_53178_slabs_partner FUEL 0 [x] D = some r ∧ ∃ g, r = (0, none, setA D 57 g) ∧ ∀ j, j < 36 → g j = x := by
    refine RunP.fin (c := 100) ?_ (by decide)
    refine RunP.go ?_
    show Wp (b_J7_fill_53178_slabs_partner_0 _ _) _
    unfold b_J7_fill_53178_slabs_partner_0
    simp only [Int.reduceToNat, Wp_some, Nx_l, Nx_r, cI_i, cV_v, cL_l, ite_t, ite_f, z_nn, toNat_c, bz_e0, z_add, z_sub, z_mul, z_neg, ite_T, ite_F, zl_0, zl_1, zl_2, zl_3, zl_4, zl_5, zl_6, zl_7, zl_8, zl_9, zl_10, zl_11, zl_12, zl_13, zl_14, zl_15, zl_16, zl_17, zl_18, zl_19, zl_20, zl_21, zl_22, zl_23, zl_24, zl_25, zl_26, zl_27, zl_28, zl_29, zl_30, zl_31, zl_32, zl_33, zl_34, zl_35, zl_36, zl_37, zl_38, zl_39, zl_40, zl_41, zl_42, zl_43, zl_44, zl_45, zl_46, zl_47, zl_48, zl_49, zl_50, zl_51, zl_52, zl_53, zl_54, zl_55, zl_56, zl_57, zl_58, zl_59, zl_60, zl_61, zl_62, zl_63, zl_64, zl_97, zl_99, zl_100, zl_126, zl_255, zl_434, zl_496, zl_1000000, zl_100000]
    refine RunP.loop (fun i ls D' => ls = [x, z i, z 36] ∧ ∃ g, D' = setA D 57 g ∧ ∀ j, j < i → g j = x) 36 1 1 ?_ ?_ 0 _ _ (by omega) ⟨rfl, D.2.2.1 57, (setA_self D 57).symm, fun j h => by omega⟩ (by omega)
    · rintro i ls D' c hi ⟨rfl, g, rfl, hg⟩ hk
      refine RunP.go ?_
      show Wp (b_J7_fill_53178_slabs_partner_1 _ _ _ _) _
      unfold b_J7_fill_53178_slabs_partner_1
      simp (disch := omega) only [z_add, z_sub, z_mul, z_neg, ite_T, ite_F, zl_0, zl_1, zl_2, zl_3, zl_4, zl_5, zl_6, zl_7, zl_8, zl_9, zl_10, zl_11, zl_12, zl_13, zl_14, zl_15, zl_16, zl_17, zl_18, zl_19, zl_20, zl_21, zl_22, zl_23, zl_24, zl_25, zl_26, zl_27, zl_28, zl_29, zl_30, zl_31, zl_32, zl_33, zl_34, zl_35, zl_36, zl_37, zl_38, zl_39, zl_40, zl_41, zl_42, zl_43, zl_44, zl_45, zl_46, zl_47, zl_48, zl_49, zl_50, zl_51, zl_52, zl_53, zl_54, zl_55, zl_56, zl_57, zl_58, zl_59, zl_60, zl_61, zl_62, zl_63, zl_64, zl_97, zl_99, zl_100, zl_126, zl_255, zl_434, zl_496, zl_1000000, zl_100000, z_lt, z_le, z_eq, inB_z, z_div, Int.reduceToNat, Wp_some, Nx_l, Nx_r, cI_i, cV_v, cL_l, ite_t, ite_f, z_nn, toNat_c, bz_e0, setA_two, setA_same]
      refine hk _ _ ⟨rfl, _, rfl, fun j h => ?_⟩
      by_cases e : j = i
      · subst e
        exact upd_same _ _ _
      · rw [upd_ne _ _ e]
        exact hg j (by omega)
    · rintro ls D' ⟨rfl, g, rfl, hg⟩
      refine RunP.go ?_
      show Wp (b_J7_fill_53178_slabs_partner_1 _ _ _ _) _
      unfold b_J7_fill_53178_slabs_partner_1
      simp (disch := omega) only [z_add, z_sub, z_mul, z_neg, ite_T, ite_F, zl_0, zl_1, zl_2, zl_3, zl_4, zl_5, zl_6, zl_7, zl_8, zl_9, zl_10, zl_11, zl_12, zl_13, zl_14, zl_15, zl_16, zl_17, zl_18, zl_19, zl_20, zl_21, zl_22, zl_23, zl_24, zl_25, zl_26, zl_27, zl_28, zl_29, zl_30, zl_31, zl_32, zl_33, zl_34, zl_35, zl_36, zl_37, zl_38, zl_39, zl_40, zl_41, zl_42, zl_43, zl_44, zl_45, zl_46, zl_47, zl_48, zl_49, zl_50, zl_51, zl_52, zl_53, zl_54, zl_55, zl_56, zl_57, zl_58, zl_59, zl_60, zl_61, zl_62, zl_63, zl_64, zl_97, zl_99, zl_100, zl_126, zl_255, zl_434, zl_496, zl_1000000, zl_100000, z_lt, z_le, z_eq, inB_z, z_div, Int.reduceToNat, Wp_some, Nx_l, Nx_r, cI_i, cV_v, cL_l, ite_t, ite_f, z_nn, toNat_c, bz_e0]
      exact ⟨g, rfl, hg⟩
  obtain ⟨r, h1, g, rfl, h2⟩ := key
  exact ⟨g, h1, h2⟩
theorem J7_fill_53178_slabs_most_ok (D : DD) (x : Int32) : ∃ g, S_J7_fill_53178_slabs_most x D = some (0, none, setA D 59 g) ∧ ∀ j, j < 64 → g j = x := by
  have key : ∃ r, run T_J7_fill_53178_slabs_most FUEL 0 [x] D = some r ∧ ∃ g, r = (0, none, setA D 59 g) ∧ ∀ j, j < 64 → g j = x := by
    refine RunP.fin (c := 100) ?_ (by decide)
    refine RunP.go ?_
    show Wp (b_J7_fill_53178_slabs_most_0 _ _) _
    unfold b_J7_fill_53178_slabs_most_0
    simp only [Int.reduceToNat, Wp_some, Nx_l, Nx_r, cI_i, cV_v, cL_l, ite_t, ite_f, z_nn, toNat_c, bz_e0, z_add, z_sub, z_mul, z_neg, ite_T, ite_F, zl_0, zl_1, zl_2, zl_3, zl_4, zl_5, zl_6, zl_7, zl_8, zl_9, zl_10, zl_11, zl_12, zl_13, zl_14, zl_15, zl_16, zl_17, zl_18, zl_19, zl_20, zl_21, zl_22, zl_23, zl_24, zl_25, zl_26, zl_27, zl_28, zl_29, zl_30, zl_31, zl_32, zl_33, zl_34, zl_35, zl_36, zl_37, zl_38, zl_39, zl_40, zl_41, zl_42, zl_43, zl_44, zl_45, zl_46, zl_47, zl_48, zl_49, zl_50, zl_51, zl_52, zl_53, zl_54, zl_55, zl_56, zl_57, zl_58, zl_59, zl_60, zl_61, zl_62, zl_63, zl_64, zl_97, zl_99, zl_100, zl_126, zl_255, zl_434, zl_496, zl_1000000, zl_100000]
    refine RunP.loop (fun i ls D' => ls = [x, z i, z 64] ∧ ∃ g, D' = setA D 59 g ∧ ∀ j, j < i → g j = x) 64 1 1 ?_ ?_ 0 _ _ (by omega) ⟨rfl, D.2.2.1 59, (setA_self D 59).symm, fun j h => by omega⟩ (by omega)
    · rintro i ls D' c hi ⟨rfl, g, rfl, hg⟩ hk
      refine RunP.go ?_
      show Wp (b_J7_fill_53178_slabs_most_1 _ _ _ _) _
      unfold b_J7_fill_53178_slabs_most_1
      simp (disch := omega) only [z_add, z_sub, z_mul, z_neg, ite_T, ite_F, zl_0, zl_1, zl_2, zl_3, zl_4, zl_5, zl_6, zl_7, zl_8, zl_9, zl_10, zl_11, zl_12, zl_13, zl_14, zl_15, zl_16, zl_17, zl_18, zl_19, zl_20, zl_21, zl_22, zl_23, zl_24, zl_25, zl_26, zl_27, zl_28, zl_29, zl_30, zl_31, zl_32, zl_33, zl_34, zl_35, zl_36, zl_37, zl_38, zl_39, zl_40, zl_41, zl_42, zl_43, zl_44, zl_45, zl_46, zl_47, zl_48, zl_49, zl_50, zl_51, zl_52, zl_53, zl_54, zl_55, zl_56, zl_57, zl_58, zl_59, zl_60, zl_61, zl_62, zl_63, zl_64, zl_97, zl_99, zl_100, zl_126, zl_255, zl_434, zl_496, zl_1000000, zl_100000, z_lt, z_le, z_eq, inB_z, z_div, Int.reduceToNat, Wp_some, Nx_l, Nx_r, cI_i, cV_v, cL_l, ite_t, ite_f, z_nn, toNat_c, bz_e0, setA_two, setA_same]
      refine hk _ _ ⟨rfl, _, rfl, fun j h => ?_⟩
      by_cases e : j = i
      · subst e
        exact upd_same _ _ _
      · rw [upd_ne _ _ e]
        exact hg j (by omega)
    · rintro ls D' ⟨rfl, g, rfl, hg⟩
      refine RunP.go ?_
      show Wp (b_J7_fill_53178_slabs_most_1 _ _ _ _) _
      unfold b_J7_fill_53178_slabs_most_1
      simp (disch := omega) only [z_add, z_sub, z_mul, z_neg, ite_T, ite_F, zl_0, zl_1, zl_2, zl_3, zl_4, zl_5, zl_6, zl_7, zl_8, zl_9, zl_10, zl_11, zl_12, zl_13, zl_14, zl_15, zl_16, zl_17, zl_18, zl_19, zl_20, zl_21, zl_22, zl_23, zl_24, zl_25, zl_26, zl_27, zl_28, zl_29, zl_30, zl_31, zl_32, zl_33, zl_34, zl_35, zl_36, zl_37, zl_38, zl_39, zl_40, zl_41, zl_42, zl_43, zl_44, zl_45, zl_46, zl_47, zl_48, zl_49, zl_50, zl_51, zl_52, zl_53, zl_54, zl_55, zl_56, zl_57, zl_58, zl_59, zl_60, zl_61, zl_62, zl_63, zl_64, zl_97, zl_99, zl_100, zl_126, zl_255, zl_434, zl_496, zl_1000000, zl_100000, z_lt, z_le, z_eq, inB_z, z_div, Int.reduceToNat, Wp_some, Nx_l, Nx_r, cI_i, cV_v, cL_l, ite_t, ite_f, z_nn, toNat_c, bz_e0]
      exact ⟨g, rfl, hg⟩
  obtain ⟨r, h1, g, rfl, h2⟩ := key
  exact ⟨g, h1, h2⟩
theorem J7_fill_53178_slabs_mostNext_ok (D : DD) (x : Int32) : ∃ g, S_J7_fill_53178_slabs_mostNext x D = some (0, none, setA D 60 g) ∧ ∀ j, j < 64 → g j = x := by
  have key : ∃ r, run T_J7_fill_53178_slabs_mostNext FUEL 0 [x] D = some r ∧ ∃ g, r = (0, none, setA D 60 g) ∧ ∀ j, j < 64 → g j = x := by
    refine RunP.fin (c := 100) ?_ (by decide)
    refine RunP.go ?_
    show Wp (b_J7_fill_53178_slabs_mostNext_0 _ _) _
    unfold b_J7_fill_53178_slabs_mostNext_0
    simp only [Int.reduceToNat, Wp_some, Nx_l, Nx_r, cI_i, cV_v, cL_l, ite_t, ite_f, z_nn, toNat_c, bz_e0, z_add, z_sub, z_mul, z_neg, ite_T, ite_F, zl_0, zl_1, zl_2, zl_3, zl_4, zl_5, zl_6, zl_7, zl_8, zl_9, zl_10, zl_11, zl_12, zl_13, zl_14, zl_15, zl_16, zl_17, zl_18, zl_19, zl_20, zl_21, zl_22, zl_23, zl_24, zl_25, zl_26, zl_27, zl_28, zl_29, zl_30, zl_31, zl_32, zl_33, zl_34, zl_35, zl_36, zl_37, zl_38, zl_39, zl_40, zl_41, zl_42, zl_43, zl_44, zl_45, zl_46, zl_47, zl_48, zl_49, zl_50, zl_51, zl_52, zl_53, zl_54, zl_55, zl_56, zl_57, zl_58, zl_59, zl_60, zl_61, zl_62, zl_63, zl_64, zl_97, zl_99, zl_100, zl_126, zl_255, zl_434, zl_496, zl_1000000, zl_100000]
    refine RunP.loop (fun i ls D' => ls = [x, z i, z 64] ∧ ∃ g, D' = setA D 60 g ∧ ∀ j, j < i → g j = x) 64 1 1 ?_ ?_ 0 _ _ (by omega) ⟨rfl, D.2.2.1 60, (setA_self D 60).symm, fun j h => by omega⟩ (by omega)
    · rintro i ls D' c hi ⟨rfl, g, rfl, hg⟩ hk
      refine RunP.go ?_
      show Wp (b_J7_fill_53178_slabs_mostNext_1 _ _ _ _) _
      unfold b_J7_fill_53178_slabs_mostNext_1
      simp (disch := omega) only [z_add, z_sub, z_mul, z_neg, ite_T, ite_F, zl_0, zl_1, zl_2, zl_3, zl_4, zl_5, zl_6, zl_7, zl_8, zl_9, zl_10, zl_11, zl_12, zl_13, zl_14, zl_15, zl_16, zl_17, zl_18, zl_19, zl_20, zl_21, zl_22, zl_23, zl_24, zl_25, zl_26, zl_27, zl_28, zl_29, zl_30, zl_31, zl_32, zl_33, zl_34, zl_35, zl_36, zl_37, zl_38, zl_39, zl_40, zl_41, zl_42, zl_43, zl_44, zl_45, zl_46, zl_47, zl_48, zl_49, zl_50, zl_51, zl_52, zl_53, zl_54, zl_55, zl_56, zl_57, zl_58, zl_59, zl_60, zl_61, zl_62, zl_63, zl_64, zl_97, zl_99, zl_100, zl_126, zl_255, zl_434, zl_496, zl_1000000, zl_100000, z_lt, z_le, z_eq, inB_z, z_div, Int.reduceToNat, Wp_some, Nx_l, Nx_r, cI_i, cV_v, cL_l, ite_t, ite_f, z_nn, toNat_c, bz_e0, setA_two, setA_same]
      refine hk _ _ ⟨rfl, _, rfl, fun j h => ?_⟩
      by_cases e : j = i
      · subst e
        exact upd_same _ _ _
      · rw [upd_ne _ _ e]
        exact hg j (by omega)
    · rintro ls D' ⟨rfl, g, rfl, hg⟩
      refine RunP.go ?_
      show Wp (b_J7_fill_53178_slabs_mostNext_1 _ _ _ _) _
      unfold b_J7_fill_53178_slabs_mostNext_1
      simp (disch := omega) only [z_add, z_sub, z_mul, z_neg, ite_T, ite_F, zl_0, zl_1, zl_2, zl_3, zl_4, zl_5, zl_6, zl_7, zl_8, zl_9, zl_10, zl_11, zl_12, zl_13, zl_14, zl_15, zl_16, zl_17, zl_18, zl_19, zl_20, zl_21, zl_22, zl_23, zl_24, zl_25, zl_26, zl_27, zl_28, zl_29, zl_30, zl_31, zl_32, zl_33, zl_34, zl_35, zl_36, zl_37, zl_38, zl_39, zl_40, zl_41, zl_42, zl_43, zl_44, zl_45, zl_46, zl_47, zl_48, zl_49, zl_50, zl_51, zl_52, zl_53, zl_54, zl_55, zl_56, zl_57, zl_58, zl_59, zl_60, zl_61, zl_62, zl_63, zl_64, zl_97, zl_99, zl_100, zl_126, zl_255, zl_434, zl_496, zl_1000000, zl_100000, z_lt, z_le, z_eq, inB_z, z_div, Int.reduceToNat, Wp_some, Nx_l, Nx_r, cI_i, cV_v, cL_l, ite_t, ite_f, z_nn, toNat_c, bz_e0]
      exact ⟨g, rfl, hg⟩
  obtain ⟨r, h1, g, rfl, h2⟩ := key
  exact ⟨g, h1, h2⟩
