/-! pure: blocks -/
def Rc (v : Nat → Nat) (t l b r : Nat) : Prop := ∀ i j, t ≤ i → i ≤ b → l ≤ j → j ≤ r → v (4 + (6 * i + j)) = 0
def sz4 (t l b r : Nat) : Nat := (b - t + 1) * (r - l + 1)
theorem sz4_le {t l b r : Nat} (hb : b < 6) (hr : r < 6) : sz4 t l b r ≤ 36 := by
  have := Nat.mul_le_mul (show b - t + 1 ≤ 6 by omega) (show r - l + 1 ≤ 6 by omega)
  exact this
theorem sz4_z {t l b r : Nat} (h1 : t ≤ b) (h2 : l ≤ r) : ((b : Int) - t + 1) * ((r : Int) - l + 1) = ((sz4 t l b r : Nat) : Int) := by
  unfold sz4
  rw [Int.natCast_mul, show ((b - t + 1 : Nat) : Int) = (b : Int) - t + 1 by omega, show ((r - l + 1 : Nat) : Int) = (r : Int) - l + 1 by omega]
/-- the largest open rectangle among those of a kind -/
def Acc (v : Nat → Nat) (S : Nat → Nat → Nat → Nat → Prop) (A : Nat) : Prop := (A = 0 ∨ ∃ t l b r, t ≤ b ∧ b < 6 ∧ l ≤ r ∧ r < 6 ∧ Rc v t l b r ∧ A = sz4 t l b r) ∧ ∀ t l b r, t ≤ b → b < 6 → l ≤ r → r < 6 → S t l b r → Rc v t l b r → sz4 t l b r ≤ A
def IsBlk (v : Nat → Nat) (A : Nat) : Prop := Acc v (fun _ _ _ _ => True) A
theorem Acc.le {v : Nat → Nat} {S : Nat → Nat → Nat → Nat → Prop} {A : Nat} (h : Acc v S A) : A ≤ 36 := by
  rcases h.1 with e | ⟨t, l, b, r, -, h1, -, h2, -, e⟩
  · omega
  · rw [e]
    exact sz4_le h1 h2
theorem IsBlk.uniq {v : Nat → Nat} {A B : Nat} (h : IsBlk v A) (g : IsBlk v B) : A = B := by
  have h1 : A ≤ B := by
    rcases h.1 with e | ⟨t, l, b, r, a1, a2, a3, a4, a5, e⟩
    · omega
    · rw [e]
      exact g.2 t l b r a1 a2 a3 a4 trivial a5
  have h2 : B ≤ A := by
    rcases g.1 with e | ⟨t, l, b, r, a1, a2, a3, a4, a5, e⟩
    · omega
    · rw [e]
      exact h.2 t l b r a1 a2 a3 a4 trivial a5
  omega
theorem Acc.sub {v : Nat → Nat} {S T : Nat → Nat → Nat → Nat → Prop} {A : Nat} (h : Acc v S A) (hs : ∀ t l b r, t ≤ b → b < 6 → l ≤ r → r < 6 → T t l b r → S t l b r) : Acc v T A := ⟨h.1, fun t l b r a1 a2 a3 a4 a5 a6 => h.2 t l b r a1 a2 a3 a4 (hs t l b r a1 a2 a3 a4 a5) a6⟩
/-- one more rectangle looked at -/
theorem Acc.more {v : Nat → Nat} {S T : Nat → Nat → Nat → Nat → Prop} {A B t0 l0 b0 r0 : Nat} (h : Acc v S A) (hs : ∀ t l b r, t ≤ b → b < 6 → l ≤ r → r < 6 → T t l b r → S t l b r ∨ (t = t0 ∧ l = l0 ∧ b = b0 ∧ r = r0)) (hB : (B = A ∧ (Rc v t0 l0 b0 r0 → sz4 t0 l0 b0 r0 ≤ A)) ∨ (B = sz4 t0 l0 b0 r0 ∧ A ≤ B ∧ t0 ≤ b0 ∧ b0 < 6 ∧ l0 ≤ r0 ∧ r0 < 6 ∧ Rc v t0 l0 b0 r0)) : Acc v T B := by
  rcases hB with ⟨rfl, hB⟩ | ⟨hB, hAB, h1, h2, h3, h4, h5⟩
  · refine ⟨h.1, fun t l b r a1 a2 a3 a4 a5 a6 => ?_⟩
    rcases hs t l b r a1 a2 a3 a4 a5 with q | ⟨rfl, rfl, rfl, rfl⟩
    · exact h.2 t l b r a1 a2 a3 a4 q a6
    · exact hB a6
  · refine ⟨Or.inr ⟨t0, l0, b0, r0, h1, h2, h3, h4, h5, hB⟩, fun t l b r a1 a2 a3 a4 a5 a6 => ?_⟩
    rcases hs t l b r a1 a2 a3 a4 a5 with q | ⟨rfl, rfl, rfl, rfl⟩
    · exact Nat.le_trans (h.2 t l b r a1 a2 a3 a4 q a6) hAB
    · omega
theorem Acc.max {v : Nat → Nat} {S T U : Nat → Nat → Nat → Nat → Prop} {A B C : Nat} (h : Acc v S A) (g : Acc v T B) (hs : ∀ t l b r, t ≤ b → b < 6 → l ≤ r → r < 6 → U t l b r → S t l b r ∨ T t l b r) (hC : (C = A ∧ B ≤ A) ∨ (C = B ∧ A ≤ B)) : Acc v U C := by
  refine ⟨?_, fun t l b r a1 a2 a3 a4 a5 a6 => ?_⟩
  · rcases hC with ⟨rfl, -⟩ | ⟨rfl, -⟩
    · exact h.1
    · exact g.1
  · rcases hs t l b r a1 a2 a3 a4 a5 with q | q
    · have := h.2 t l b r a1 a2 a3 a4 q a6
      omega
    · have := g.2 t l b r a1 a2 a3 a4 q a6
      omega
section LL
variable {D : DD} {v : Nat → Nat}
theorem cellZ_in {i j : Nat} (hi : i < 6) (hj : j < 6) : cellZ i j = ((6 * i + j : Nat) : Int) := by
  unfold cellZ
  rw [if_pos (by omega)]
  omega
theorem s_cellAtN {i j : Nat} (hi : i < 6) (hj : j < 6) : S_X12_cellAt (z i) (z j) D = some (0, some (.int (z ((6 * i + j : Nat)))), D) := by rw [s_cellAt (by omega) (by omega) (by omega) (by omega), cellZ_in hi hj]
theorem m_cellN {i j : Nat} (hi : i < 6) (hj : j < 6) : S_X13_cell (z i) (z j) D = some (0, some (.int (z ((6 * i + j : Nat)))), D) := by
  have e := cellZ_in hi hj
  rw [m_cell (by omega), e]
theorem s_allOpen (hC : CS D v) (hW : WF v) {t l b r : Nat} (htb : t ≤ b) (hb : b < 6) (hlr : l ≤ r) (hr : r < 6) : ∃ ok : Bool, S_X2_allOpen (z t) (z l) (z b) (z r) D = some (0, some (.int (z (zb ok))), D) ∧ (ok = true ↔ Rc v t l b r) := by
  have key : ∃ q, run T_X2_allOpen FUEL 0 [z t, z l, z b, z r] D = some q ∧ ∃ ok : Bool, q = (0, some (.int (z (zb ok))), D) ∧ (ok = true ↔ Rc v t l b r) := by
    refine RunP.fin (c := 200) ?_ (by decide)
    refine RunP.go ?_
    show Wp (b_X2_allOpen_0 _ _ _ _ _) _
    unfold b_X2_allOpen_0
    simp only [Int.reduceToNat, Wp_some, Nx_l, Nx_r, cI_i, cV_v, cL_l, ite_t, ite_f, z_nn, toNat_c, bz_e0, z_add, z_sub, z_mul, z_neg, ite_T, ite_F, zl_0, zl_1, zl_2, zl_3, zl_4, zl_5, zl_6, zl_7, zl_8, zl_9, zl_10, zl_11, zl_12, zl_13, zl_14, zl_15, zl_16, zl_17, zl_18, zl_19, zl_20, zl_21, zl_22, zl_23, zl_24, zl_25, zl_26, zl_27, zl_28, zl_29, zl_30, zl_31, zl_32, zl_33, zl_34, zl_35, zl_36, zl_37, zl_38, zl_39, zl_40, zl_41, zl_42, zl_43, zl_44, zl_45, zl_46, zl_47, zl_48, zl_49, zl_50, zl_51, zl_52, zl_53, zl_54, zl_55, zl_56, zl_57, zl_58, zl_59, zl_60, zl_61, zl_62, zl_63, zl_64, zl_97, zl_99, zl_100, zl_126, zl_255, zl_434, zl_496, zl_1000000, zl_100000]
    refine RunP.loop (fun i ls D' => D' = D ∧ ls = [z l, z b, z r, z i] ∧ t ≤ i ∧ ∀ x y, t ≤ x → x < i → l ≤ y → y ≤ r → v (4 + (6 * x + y)) = 0) (b + 1) 10 1 ?_ ?_ t _ _ (by omega) ⟨rfl, rfl, Nat.le_refl _, fun x y h1 h2 => by omega⟩ (by omega)
    · rintro i ls D' c hi ⟨rfl, rfl, hti, hn⟩ hk
      refine RunP.mono (c := (c + 9) + 1) ?_ (by omega)
      refine RunP.go ?_
      show Wp (b_X2_allOpen_1 _ _ _ _ _) _
      unfold b_X2_allOpen_1
      simp (disch := omega) only [z_add, z_sub, z_mul, z_neg, ite_T, ite_F, zl_0, zl_1, zl_2, zl_3, zl_4, zl_5, zl_6, zl_7, zl_8, zl_9, zl_10, zl_11, zl_12, zl_13, zl_14, zl_15, zl_16, zl_17, zl_18, zl_19, zl_20, zl_21, zl_22, zl_23, zl_24, zl_25, zl_26, zl_27, zl_28, zl_29, zl_30, zl_31, zl_32, zl_33, zl_34, zl_35, zl_36, zl_37, zl_38, zl_39, zl_40, zl_41, zl_42, zl_43, zl_44, zl_45, zl_46, zl_47, zl_48, zl_49, zl_50, zl_51, zl_52, zl_53, zl_54, zl_55, zl_56, zl_57, zl_58, zl_59, zl_60, zl_61, zl_62, zl_63, zl_64, zl_97, zl_99, zl_100, zl_126, zl_255, zl_434, zl_496, zl_1000000, zl_100000, z_lt, z_le, z_eq, inB_z, z_div, Int.reduceToNat, Wp_some, Nx_l, Nx_r, cI_i, cV_v, cL_l, ite_t, ite_f, z_nn, toNat_c, bz_e0]
      refine RunP.loop (fun j ls D2 => D2 = D' ∧ ls = [z l, z b, z r, z i, z j] ∧ l ≤ j ∧ ∀ y, l ≤ y → y < j → v (4 + (6 * i + y)) = 0) (r + 1) 1 (c + 1) ?_ ?_ l _ _ (by omega) ⟨rfl, rfl, Nat.le_refl _, fun y h1 h2 => by omega⟩ (by omega)
      · rintro j ls D2 c2 hj ⟨rfl, rfl, hlj, hm⟩ hk2
        have w := hW.1 (6 * i + j) (by omega)
        refine RunP.go ?_
        show Wp (b_X2_allOpen_2 _ _ _ _ _ _) _
        unfold b_X2_allOpen_2
        simp (disch := omega) only [z_add, z_sub, z_mul, z_neg, ite_T, ite_F, zl_0, zl_1, zl_2, zl_3, zl_4, zl_5, zl_6, zl_7, zl_8, zl_9, zl_10, zl_11, zl_12, zl_13, zl_14, zl_15, zl_16, zl_17, zl_18, zl_19, zl_20, zl_21, zl_22, zl_23, zl_24, zl_25, zl_26, zl_27, zl_28, zl_29, zl_30, zl_31, zl_32, zl_33, zl_34, zl_35, zl_36, zl_37, zl_38, zl_39, zl_40, zl_41, zl_42, zl_43, zl_44, zl_45, zl_46, zl_47, zl_48, zl_49, zl_50, zl_51, zl_52, zl_53, zl_54, zl_55, zl_56, zl_57, zl_58, zl_59, zl_60, zl_61, zl_62, zl_63, zl_64, zl_97, zl_99, zl_100, zl_126, zl_255, zl_434, zl_496, zl_1000000, zl_100000, z_lt, z_le, z_eq, inB_z, z_div, Int.reduceToNat, Wp_some, Nx_l, Nx_r, cI_i, cV_v, cL_l, ite_t, ite_f, z_nn, toNat_c, bz_e0, s_cellAtN (show i < 6 by omega) (show j < 6 by omega), s_openAt hC hW (show 6 * i + j < 36 by omega)]
        by_cases ho : v (4 + (6 * i + j)) = 0
        · rw [if_neg (by simpa using ho), Wp_some, Nx_l]
          refine hk2 _ _ ⟨rfl, rfl, by omega, fun y h1 h2 => ?_⟩
          by_cases e : y = j
          · rw [e]
            exact ho
          · exact hm y h1 (by omega)
        · rw [if_pos (by simpa using ho), Wp_some, Nx_r]
          exact ⟨false, rfl, ⟨fun h => (by cases h), fun h => absurd (h i j hti (by omega) hlj (by omega)) ho⟩⟩
      · rintro ls D2 ⟨rfl, rfl, hlj, hm⟩
        refine RunP.go ?_
        show Wp (b_X2_allOpen_2 _ _ _ _ _ _) _
        unfold b_X2_allOpen_2
        simp (disch := omega) only [z_add, z_sub, z_mul, z_neg, ite_T, ite_F, zl_0, zl_1, zl_2, zl_3, zl_4, zl_5, zl_6, zl_7, zl_8, zl_9, zl_10, zl_11, zl_12, zl_13, zl_14, zl_15, zl_16, zl_17, zl_18, zl_19, zl_20, zl_21, zl_22, zl_23, zl_24, zl_25, zl_26, zl_27, zl_28, zl_29, zl_30, zl_31, zl_32, zl_33, zl_34, zl_35, zl_36, zl_37, zl_38, zl_39, zl_40, zl_41, zl_42, zl_43, zl_44, zl_45, zl_46, zl_47, zl_48, zl_49, zl_50, zl_51, zl_52, zl_53, zl_54, zl_55, zl_56, zl_57, zl_58, zl_59, zl_60, zl_61, zl_62, zl_63, zl_64, zl_97, zl_99, zl_100, zl_126, zl_255, zl_434, zl_496, zl_1000000, zl_100000, z_lt, z_le, z_eq, inB_z, z_div, Int.reduceToNat, Wp_some, Nx_l, Nx_r, cI_i, cV_v, cL_l, ite_t, ite_f, z_nn, toNat_c, bz_e0]
        refine hk _ _ ⟨rfl, rfl, by omega, fun x y h1 h2 h3 h4 => ?_⟩
        by_cases e : x = i
        · rw [e]
          exact hm y h3 (by omega)
        · exact hn x y h1 (by omega) h3 h4
    · rintro ls D' ⟨rfl, rfl, hti, hn⟩
      refine RunP.go ?_
      show Wp (b_X2_allOpen_1 _ _ _ _ _) _
      unfold b_X2_allOpen_1
      simp (disch := omega) only [z_add, z_sub, z_mul, z_neg, ite_T, ite_F, zl_0, zl_1, zl_2, zl_3, zl_4, zl_5, zl_6, zl_7, zl_8, zl_9, zl_10, zl_11, zl_12, zl_13, zl_14, zl_15, zl_16, zl_17, zl_18, zl_19, zl_20, zl_21, zl_22, zl_23, zl_24, zl_25, zl_26, zl_27, zl_28, zl_29, zl_30, zl_31, zl_32, zl_33, zl_34, zl_35, zl_36, zl_37, zl_38, zl_39, zl_40, zl_41, zl_42, zl_43, zl_44, zl_45, zl_46, zl_47, zl_48, zl_49, zl_50, zl_51, zl_52, zl_53, zl_54, zl_55, zl_56, zl_57, zl_58, zl_59, zl_60, zl_61, zl_62, zl_63, zl_64, zl_97, zl_99, zl_100, zl_126, zl_255, zl_434, zl_496, zl_1000000, zl_100000, z_lt, z_le, z_eq, inB_z, z_div, Int.reduceToNat, Wp_some, Nx_l, Nx_r, cI_i, cV_v, cL_l, ite_t, ite_f, z_nn, toNat_c, bz_e0]
      exact ⟨true, rfl, ⟨fun _ i j h1 h2 h3 h4 => hn i j h1 (by omega) h3 h4, fun _ => rfl⟩⟩
  obtain ⟨q, h1, ok, rfl, h2⟩ := key
  exact ⟨ok, h1, h2⟩
theorem m_isWhole (hM : MR D v) (hW : WF v) {t l b r : Nat} (htb : t ≤ b) (hb : b < 6) (hlr : l ≤ r) (hr : r < 6) : ∃ ok : Bool, S_X13_isWhole (z t) (z l) (z b) (z r) D = some (0, some (.int (z (zb ok))), D) ∧ (ok = true ↔ Rc v t l b r) := by
  have key : ∃ q, run T_X13_isWhole FUEL 0 [z t, z l, z b, z r] D = some q ∧ ∃ ok : Bool, q = (0, some (.int (z (zb ok))), D) ∧ (ok = true ↔ Rc v t l b r) := by
    refine RunP.fin (c := 200) ?_ (by decide)
    refine RunP.go ?_
    show Wp (b_X13_isWhole_0 _ _ _ _ _) _
    unfold b_X13_isWhole_0
    simp only [Int.reduceToNat, Wp_some, Nx_l, Nx_r, cI_i, cV_v, cL_l, ite_t, ite_f, z_nn, toNat_c, bz_e0, z_add, z_sub, z_mul, z_neg, ite_T, ite_F, zl_0, zl_1, zl_2, zl_3, zl_4, zl_5, zl_6, zl_7, zl_8, zl_9, zl_10, zl_11, zl_12, zl_13, zl_14, zl_15, zl_16, zl_17, zl_18, zl_19, zl_20, zl_21, zl_22, zl_23, zl_24, zl_25, zl_26, zl_27, zl_28, zl_29, zl_30, zl_31, zl_32, zl_33, zl_34, zl_35, zl_36, zl_37, zl_38, zl_39, zl_40, zl_41, zl_42, zl_43, zl_44, zl_45, zl_46, zl_47, zl_48, zl_49, zl_50, zl_51, zl_52, zl_53, zl_54, zl_55, zl_56, zl_57, zl_58, zl_59, zl_60, zl_61, zl_62, zl_63, zl_64, zl_97, zl_99, zl_100, zl_126, zl_255, zl_434, zl_496, zl_1000000, zl_100000]
    refine RunP.loop (fun i ls D' => D' = D ∧ ls = [z l, z b, z r, z i] ∧ t ≤ i ∧ ∀ x y, t ≤ x → x < i → l ≤ y → y ≤ r → v (4 + (6 * x + y)) = 0) (b + 1) 10 1 ?_ ?_ t _ _ (by omega) ⟨rfl, rfl, Nat.le_refl _, fun x y h1 h2 => by omega⟩ (by omega)
    · rintro i ls D' c hi ⟨rfl, rfl, hti, hn⟩ hk
      refine RunP.mono (c := (c + 9) + 1) ?_ (by omega)
      refine RunP.go ?_
      show Wp (b_X13_isWhole_1 _ _ _ _ _) _
      unfold b_X13_isWhole_1
      simp (disch := omega) only [z_add, z_sub, z_mul, z_neg, ite_T, ite_F, zl_0, zl_1, zl_2, zl_3, zl_4, zl_5, zl_6, zl_7, zl_8, zl_9, zl_10, zl_11, zl_12, zl_13, zl_14, zl_15, zl_16, zl_17, zl_18, zl_19, zl_20, zl_21, zl_22, zl_23, zl_24, zl_25, zl_26, zl_27, zl_28, zl_29, zl_30, zl_31, zl_32, zl_33, zl_34, zl_35, zl_36, zl_37, zl_38, zl_39, zl_40, zl_41, zl_42, zl_43, zl_44, zl_45, zl_46, zl_47, zl_48, zl_49, zl_50, zl_51, zl_52, zl_53, zl_54, zl_55, zl_56, zl_57, zl_58, zl_59, zl_60, zl_61, zl_62, zl_63, zl_64, zl_97, zl_99, zl_100, zl_126, zl_255, zl_434, zl_496, zl_1000000, zl_100000, z_lt, z_le, z_eq, inB_z, z_div, Int.reduceToNat, Wp_some, Nx_l, Nx_r, cI_i, cV_v, cL_l, ite_t, ite_f, z_nn, toNat_c, bz_e0]
      refine RunP.loop (fun j ls D2 => D2 = D' ∧ ls = [z l, z b, z r, z i, z j] ∧ l ≤ j ∧ ∀ y, l ≤ y → y < j → v (4 + (6 * i + y)) = 0) (r + 1) 1 (c + 1) ?_ ?_ l _ _ (by omega) ⟨rfl, rfl, Nat.le_refl _, fun y h1 h2 => by omega⟩ (by omega)
      · rintro j ls D2 c2 hj ⟨rfl, rfl, hlj, hm⟩ hk2
        have w := hW.1 (6 * i + j) (by omega)
        refine RunP.go ?_
        show Wp (b_X13_isWhole_2 _ _ _ _ _ _) _
        unfold b_X13_isWhole_2
        simp (disch := omega) only [z_add, z_sub, z_mul, z_neg, ite_T, ite_F, zl_0, zl_1, zl_2, zl_3, zl_4, zl_5, zl_6, zl_7, zl_8, zl_9, zl_10, zl_11, zl_12, zl_13, zl_14, zl_15, zl_16, zl_17, zl_18, zl_19, zl_20, zl_21, zl_22, zl_23, zl_24, zl_25, zl_26, zl_27, zl_28, zl_29, zl_30, zl_31, zl_32, zl_33, zl_34, zl_35, zl_36, zl_37, zl_38, zl_39, zl_40, zl_41, zl_42, zl_43, zl_44, zl_45, zl_46, zl_47, zl_48, zl_49, zl_50, zl_51, zl_52, zl_53, zl_54, zl_55, zl_56, zl_57, zl_58, zl_59, zl_60, zl_61, zl_62, zl_63, zl_64, zl_97, zl_99, zl_100, zl_126, zl_255, zl_434, zl_496, zl_1000000, zl_100000, z_lt, z_le, z_eq, inB_z, z_div, Int.reduceToNat, Wp_some, Nx_l, Nx_r, cI_i, cV_v, cL_l, ite_t, ite_f, z_nn, toNat_c, bz_e0, m_cellN (show i < 6 by omega) (show j < 6 by omega), m_hard hM (show 6 * i + j < 36 by omega)]
        by_cases ho : v (4 + (6 * i + j)) = 0
        · rw [if_pos (by omega), Wp_some, Nx_l]
          refine hk2 _ _ ⟨rfl, rfl, by omega, fun y h1 h2 => ?_⟩
          by_cases e : y = j
          · rw [e]
            exact ho
          · exact hm y h1 (by omega)
        · rw [if_neg (by omega), Wp_some, Nx_r]
          exact ⟨false, rfl, ⟨fun h => (by cases h), fun h => absurd (h i j hti (by omega) hlj (by omega)) ho⟩⟩
      · rintro ls D2 ⟨rfl, rfl, hlj, hm⟩
        refine RunP.go ?_
        show Wp (b_X13_isWhole_2 _ _ _ _ _ _) _
        unfold b_X13_isWhole_2
        simp (disch := omega) only [z_add, z_sub, z_mul, z_neg, ite_T, ite_F, zl_0, zl_1, zl_2, zl_3, zl_4, zl_5, zl_6, zl_7, zl_8, zl_9, zl_10, zl_11, zl_12, zl_13, zl_14, zl_15, zl_16, zl_17, zl_18, zl_19, zl_20, zl_21, zl_22, zl_23, zl_24, zl_25, zl_26, zl_27, zl_28, zl_29, zl_30, zl_31, zl_32, zl_33, zl_34, zl_35, zl_36, zl_37, zl_38, zl_39, zl_40, zl_41, zl_42, zl_43, zl_44, zl_45, zl_46, zl_47, zl_48, zl_49, zl_50, zl_51, zl_52, zl_53, zl_54, zl_55, zl_56, zl_57, zl_58, zl_59, zl_60, zl_61, zl_62, zl_63, zl_64, zl_97, zl_99, zl_100, zl_126, zl_255, zl_434, zl_496, zl_1000000, zl_100000, z_lt, z_le, z_eq, inB_z, z_div, Int.reduceToNat, Wp_some, Nx_l, Nx_r, cI_i, cV_v, cL_l, ite_t, ite_f, z_nn, toNat_c, bz_e0]
        refine hk _ _ ⟨rfl, rfl, by omega, fun x y h1 h2 h3 h4 => ?_⟩
        by_cases e : x = i
        · rw [e]
          exact hm y h3 (by omega)
        · exact hn x y h1 (by omega) h3 h4
    · rintro ls D' ⟨rfl, rfl, hti, hn⟩
      refine RunP.go ?_
      show Wp (b_X13_isWhole_1 _ _ _ _ _) _
      unfold b_X13_isWhole_1
      simp (disch := omega) only [z_add, z_sub, z_mul, z_neg, ite_T, ite_F, zl_0, zl_1, zl_2, zl_3, zl_4, zl_5, zl_6, zl_7, zl_8, zl_9, zl_10, zl_11, zl_12, zl_13, zl_14, zl_15, zl_16, zl_17, zl_18, zl_19, zl_20, zl_21, zl_22, zl_23, zl_24, zl_25, zl_26, zl_27, zl_28, zl_29, zl_30, zl_31, zl_32, zl_33, zl_34, zl_35, zl_36, zl_37, zl_38, zl_39, zl_40, zl_41, zl_42, zl_43, zl_44, zl_45, zl_46, zl_47, zl_48, zl_49, zl_50, zl_51, zl_52, zl_53, zl_54, zl_55, zl_56, zl_57, zl_58, zl_59, zl_60, zl_61, zl_62, zl_63, zl_64, zl_97, zl_99, zl_100, zl_126, zl_255, zl_434, zl_496, zl_1000000, zl_100000, z_lt, z_le, z_eq, inB_z, z_div, Int.reduceToNat, Wp_some, Nx_l, Nx_r, cI_i, cV_v, cL_l, ite_t, ite_f, z_nn, toNat_c, bz_e0]
      exact ⟨true, rfl, ⟨fun _ i j h1 h2 h3 h4 => hn i j h1 (by omega) h3 h4, fun _ => rfl⟩⟩
  obtain ⟨q, h1, ok, rfl, h2⟩ := key
  exact ⟨ok, h1, h2⟩
theorem s_fromCorner (hC : CS D v) (hW : WF v) {t l : Nat} (ht : t < 6) (hl : l < 6) : ∃ A : Nat, S_X2_largestFromCorner (z t) (z l) D = some (0, some (.int (z A)), D) ∧ Acc v (fun t' l' _ _ => t' = t ∧ l' = l) A := by
  have key : ∃ q, run T_X2_largestFromCorner FUEL 0 [z t, z l] D = some q ∧ ∃ A : Nat, q = (0, some (.int (z A)), D) ∧ Acc v (fun t' l' _ _ => t' = t ∧ l' = l) A := by
    refine RunP.fin (c := 200) ?_ (by decide)
    refine RunP.go ?_
    show Wp (b_X2_largestFromCorner_0 _ _ _) _
    unfold b_X2_largestFromCorner_0
    simp only [Int.reduceToNat, Wp_some, Nx_l, Nx_r, cI_i, cV_v, cL_l, ite_t, ite_f, z_nn, toNat_c, bz_e0, z_add, z_sub, z_mul, z_neg, ite_T, ite_F, zl_0, zl_1, zl_2, zl_3, zl_4, zl_5, zl_6, zl_7, zl_8, zl_9, zl_10, zl_11, zl_12, zl_13, zl_14, zl_15, zl_16, zl_17, zl_18, zl_19, zl_20, zl_21, zl_22, zl_23, zl_24, zl_25, zl_26, zl_27, zl_28, zl_29, zl_30, zl_31, zl_32, zl_33, zl_34, zl_35, zl_36, zl_37, zl_38, zl_39, zl_40, zl_41, zl_42, zl_43, zl_44, zl_45, zl_46, zl_47, zl_48, zl_49, zl_50, zl_51, zl_52, zl_53, zl_54, zl_55, zl_56, zl_57, zl_58, zl_59, zl_60, zl_61, zl_62, zl_63, zl_64, zl_97, zl_99, zl_100, zl_126, zl_255, zl_434, zl_496, zl_1000000, zl_100000]
    refine RunP.loop (fun i ls D' => D' = D ∧ t ≤ i ∧ ∃ A : Nat, ls = [z t, z l, z A, z i] ∧ Acc v (fun t' l' b' _ => t' = t ∧ l' = l ∧ b' < i) A) 6 10 1 ?_ ?_ t _ _ (by omega) ⟨rfl, Nat.le_refl _, 0, rfl, Or.inl rfl, fun t' l' b' r' h1 h2 h3 h4 h5 => by omega⟩ (by omega)
    · rintro i ls D' c hi ⟨rfl, hti, A, rfl, hA⟩ hk
      refine RunP.mono (c := (c + 9) + 1) ?_ (by omega)
      refine RunP.go ?_
      show Wp (b_X2_largestFromCorner_1 _ _ _ _ _) _
      unfold b_X2_largestFromCorner_1
      simp (disch := omega) only [z_add, z_sub, z_mul, z_neg, ite_T, ite_F, zl_0, zl_1, zl_2, zl_3, zl_4, zl_5, zl_6, zl_7, zl_8, zl_9, zl_10, zl_11, zl_12, zl_13, zl_14, zl_15, zl_16, zl_17, zl_18, zl_19, zl_20, zl_21, zl_22, zl_23, zl_24, zl_25, zl_26, zl_27, zl_28, zl_29, zl_30, zl_31, zl_32, zl_33, zl_34, zl_35, zl_36, zl_37, zl_38, zl_39, zl_40, zl_41, zl_42, zl_43, zl_44, zl_45, zl_46, zl_47, zl_48, zl_49, zl_50, zl_51, zl_52, zl_53, zl_54, zl_55, zl_56, zl_57, zl_58, zl_59, zl_60, zl_61, zl_62, zl_63, zl_64, zl_97, zl_99, zl_100, zl_126, zl_255, zl_434, zl_496, zl_1000000, zl_100000, z_lt, z_le, z_eq, inB_z, z_div, Int.reduceToNat, Wp_some, Nx_l, Nx_r, cI_i, cV_v, cL_l, ite_t, ite_f, z_nn, toNat_c, bz_e0]
      refine RunP.loop (fun j ls D2 => D2 = D' ∧ l ≤ j ∧ ∃ A : Nat, ls = [z t, z l, z A, z i, z j] ∧ Acc v (fun t' l' b' r' => t' = t ∧ l' = l ∧ (b' < i ∨ (b' = i ∧ r' < j))) A) 6 1 (c + 1) ?_ ?_ l _ _ (by omega) ⟨rfl, Nat.le_refl _, A, rfl, hA.sub (fun t' l' b' r' h1 h2 h3 h4 h5 => by omega)⟩ (by omega)
      · rintro j ls D2 c2 hj ⟨rfl, hlj, A, rfl, hA⟩ hk2
        have hAle := hA.le
        have hsz := sz4_le (t := t) (l := l) hi hj
        refine RunP.go ?_
        show Wp (b_X2_largestFromCorner_2 _ _ _ _ _ _) _
        unfold b_X2_largestFromCorner_2
        simp (disch := omega) only [z_add, z_sub, z_mul, z_neg, ite_T, ite_F, zl_0, zl_1, zl_2, zl_3, zl_4, zl_5, zl_6, zl_7, zl_8, zl_9, zl_10, zl_11, zl_12, zl_13, zl_14, zl_15, zl_16, zl_17, zl_18, zl_19, zl_20, zl_21, zl_22, zl_23, zl_24, zl_25, zl_26, zl_27, zl_28, zl_29, zl_30, zl_31, zl_32, zl_33, zl_34, zl_35, zl_36, zl_37, zl_38, zl_39, zl_40, zl_41, zl_42, zl_43, zl_44, zl_45, zl_46, zl_47, zl_48, zl_49, zl_50, zl_51, zl_52, zl_53, zl_54, zl_55, zl_56, zl_57, zl_58, zl_59, zl_60, zl_61, zl_62, zl_63, zl_64, zl_97, zl_99, zl_100, zl_126, zl_255, zl_434, zl_496, zl_1000000, zl_100000, z_lt, z_le, z_eq, inB_z, z_div, Int.reduceToNat, Wp_some, Nx_l, Nx_r, cI_i, cV_v, cL_l, ite_t, ite_f, z_nn, toNat_c, bz_e0, sz4_z hti hlj]
        have mv : ∀ t' l' b' r' : Nat, t' ≤ b' → b' < 6 → l' ≤ r' → r' < 6 → (t' = t ∧ l' = l ∧ (b' < i ∨ (b' = i ∧ r' < j + 1))) → (t' = t ∧ l' = l ∧ (b' < i ∨ (b' = i ∧ r' < j))) ∨ (t' = t ∧ l' = l ∧ b' = i ∧ r' = j) := fun t' l' b' r' g1 g2 g3 g4 h => by omega
        split
        · rename_i hle
          rw [Wp_some, Nx_l]
          exact hk2 _ _ ⟨rfl, by omega, A, rfl, hA.more mv (Or.inl ⟨rfl, fun _ => by omega⟩)⟩
        · rename_i hgt
          obtain ⟨ok, o1, o2⟩ := s_allOpen hC hW hti hi hlj hj
          rw [o1, cI_i]
          cases ok with
          | false =>
            rw [if_pos (show z (zb false) = z 0 from rfl), Wp_some, Nx_l]
            exact hk2 _ _ ⟨rfl, by omega, A, rfl, hA.more mv (Or.inl ⟨rfl, fun h => absurd (o2.mpr h) (by simp)⟩)⟩
          | true =>
            rw [if_neg (show ¬ z (zb true) = z 0 by decide), Wp_some, Nx_l]
            exact hk2 _ _ ⟨rfl, by omega, sz4 t l i j, rfl, hA.more mv (Or.inr ⟨rfl, by omega, hti, hi, hlj, hj, o2.mp rfl⟩)⟩
      · rintro ls D2 ⟨rfl, hlj, A, rfl, hA⟩
        refine RunP.go ?_
        show Wp (b_X2_largestFromCorner_2 _ _ _ _ _ _) _
        unfold b_X2_largestFromCorner_2
        simp (disch := omega) only [z_add, z_sub, z_mul, z_neg, ite_T, ite_F, zl_0, zl_1, zl_2, zl_3, zl_4, zl_5, zl_6, zl_7, zl_8, zl_9, zl_10, zl_11, zl_12, zl_13, zl_14, zl_15, zl_16, zl_17, zl_18, zl_19, zl_20, zl_21, zl_22, zl_23, zl_24, zl_25, zl_26, zl_27, zl_28, zl_29, zl_30, zl_31, zl_32, zl_33, zl_34, zl_35, zl_36, zl_37, zl_38, zl_39, zl_40, zl_41, zl_42, zl_43, zl_44, zl_45, zl_46, zl_47, zl_48, zl_49, zl_50, zl_51, zl_52, zl_53, zl_54, zl_55, zl_56, zl_57, zl_58, zl_59, zl_60, zl_61, zl_62, zl_63, zl_64, zl_97, zl_99, zl_100, zl_126, zl_255, zl_434, zl_496, zl_1000000, zl_100000, z_lt, z_le, z_eq, inB_z, z_div, Int.reduceToNat, Wp_some, Nx_l, Nx_r, cI_i, cV_v, cL_l, ite_t, ite_f, z_nn, toNat_c, bz_e0]
        exact hk _ _ ⟨rfl, by omega, A, rfl, hA.sub (fun t' l' b' r' h1 h2 h3 h4 h5 => by omega)⟩
    · rintro ls D' ⟨rfl, hti, A, rfl, hA⟩
      refine RunP.go ?_
      show Wp (b_X2_largestFromCorner_1 _ _ _ _ _) _
      unfold b_X2_largestFromCorner_1
      simp (disch := omega) only [z_add, z_sub, z_mul, z_neg, ite_T, ite_F, zl_0, zl_1, zl_2, zl_3, zl_4, zl_5, zl_6, zl_7, zl_8, zl_9, zl_10, zl_11, zl_12, zl_13, zl_14, zl_15, zl_16, zl_17, zl_18, zl_19, zl_20, zl_21, zl_22, zl_23, zl_24, zl_25, zl_26, zl_27, zl_28, zl_29, zl_30, zl_31, zl_32, zl_33, zl_34, zl_35, zl_36, zl_37, zl_38, zl_39, zl_40, zl_41, zl_42, zl_43, zl_44, zl_45, zl_46, zl_47, zl_48, zl_49, zl_50, zl_51, zl_52, zl_53, zl_54, zl_55, zl_56, zl_57, zl_58, zl_59, zl_60, zl_61, zl_62, zl_63, zl_64, zl_97, zl_99, zl_100, zl_126, zl_255, zl_434, zl_496, zl_1000000, zl_100000, z_lt, z_le, z_eq, inB_z, z_div, Int.reduceToNat, Wp_some, Nx_l, Nx_r, cI_i, cV_v, cL_l, ite_t, ite_f, z_nn, toNat_c, bz_e0]
      exact ⟨A, rfl, hA.sub (fun t' l' b' r' h1 h2 h3 h4 h5 => by omega)⟩
  obtain ⟨q, h1, A, rfl, h2⟩ := key
  exact ⟨A, h1, h2⟩
theorem max_z {a b : Nat} (ha : a ≤ 1000) (hb : b ≤ 1000) : ∃ c : Nat, (if (z a : Int32) < z b then (z b : Int32) else z a) = z c ∧ ((c = a ∧ b ≤ a) ∨ (c = b ∧ a ≤ b)) := by
  by_cases h : a < b
  · exact ⟨b, by rw [if_pos (by rw [z_lt (by omega) (by omega) (by omega) (by omega)]; omega)], Or.inr ⟨rfl, by omega⟩⟩
  · exact ⟨a, by rw [if_neg (by rw [z_lt (by omega) (by omega) (by omega) (by omega)]; omega)], Or.inl ⟨rfl, by omega⟩⟩
theorem s_sizeByRectangles (hC : CS D v) (hW : WF v) : ∃ A : Nat, S_X2_sizeByRectangles D = some (0, some (.int (z A)), D) ∧ IsBlk v A := by
  have key : ∃ q, run T_X2_sizeByRectangles FUEL 0 [] D = some q ∧ ∃ A : Nat, q = (0, some (.int (z A)), D) ∧ IsBlk v A := by
    refine RunP.fin (c := 200) ?_ (by decide)
    refine RunP.go ?_
    show Wp (b_X2_sizeByRectangles_0 _) _
    unfold b_X2_sizeByRectangles_0
    simp only [Int.reduceToNat, Wp_some, Nx_l, Nx_r, cI_i, cV_v, cL_l, ite_t, ite_f, z_nn, toNat_c, bz_e0, z_add, z_sub, z_mul, z_neg, ite_T, ite_F, zl_0, zl_1, zl_2, zl_3, zl_4, zl_5, zl_6, zl_7, zl_8, zl_9, zl_10, zl_11, zl_12, zl_13, zl_14, zl_15, zl_16, zl_17, zl_18, zl_19, zl_20, zl_21, zl_22, zl_23, zl_24, zl_25, zl_26, zl_27, zl_28, zl_29, zl_30, zl_31, zl_32, zl_33, zl_34, zl_35, zl_36, zl_37, zl_38, zl_39, zl_40, zl_41, zl_42, zl_43, zl_44, zl_45, zl_46, zl_47, zl_48, zl_49, zl_50, zl_51, zl_52, zl_53, zl_54, zl_55, zl_56, zl_57, zl_58, zl_59, zl_60, zl_61, zl_62, zl_63, zl_64, zl_97, zl_99, zl_100, zl_126, zl_255, zl_434, zl_496, zl_1000000, zl_100000]
    refine RunP.loop (fun i ls D' => D' = D ∧ ∃ A : Nat, ls = [z A, z i] ∧ Acc v (fun t' _ _ _ => t' < i) A) 6 10 1 ?_ ?_ 0 _ _ (by omega) ⟨rfl, 0, rfl, Or.inl rfl, fun t' l' b' r' h1 h2 h3 h4 h5 => by omega⟩ (by omega)
    · rintro i ls D' c hi ⟨rfl, A, rfl, hA⟩ hk
      refine RunP.mono (c := (c + 9) + 1) ?_ (by omega)
      refine RunP.go ?_
      show Wp (b_X2_sizeByRectangles_1 _ _ _) _
      unfold b_X2_sizeByRectangles_1
      simp (disch := omega) only [z_add, z_sub, z_mul, z_neg, ite_T, ite_F, zl_0, zl_1, zl_2, zl_3, zl_4, zl_5, zl_6, zl_7, zl_8, zl_9, zl_10, zl_11, zl_12, zl_13, zl_14, zl_15, zl_16, zl_17, zl_18, zl_19, zl_20, zl_21, zl_22, zl_23, zl_24, zl_25, zl_26, zl_27, zl_28, zl_29, zl_30, zl_31, zl_32, zl_33, zl_34, zl_35, zl_36, zl_37, zl_38, zl_39, zl_40, zl_41, zl_42, zl_43, zl_44, zl_45, zl_46, zl_47, zl_48, zl_49, zl_50, zl_51, zl_52, zl_53, zl_54, zl_55, zl_56, zl_57, zl_58, zl_59, zl_60, zl_61, zl_62, zl_63, zl_64, zl_97, zl_99, zl_100, zl_126, zl_255, zl_434, zl_496, zl_1000000, zl_100000, z_lt, z_le, z_eq, inB_z, z_div, Int.reduceToNat, Wp_some, Nx_l, Nx_r, cI_i, cV_v, cL_l, ite_t, ite_f, z_nn, toNat_c, bz_e0]
      refine RunP.loop (fun j ls D2 => D2 = D' ∧ ∃ A : Nat, ls = [z A, z i, z j] ∧ Acc v (fun t' l' _ _ => t' < i ∨ (t' = i ∧ l' < j)) A) 6 1 (c + 1) ?_ ?_ 0 _ _ (by omega) ⟨rfl, A, rfl, hA.sub (fun t' l' b' r' h1 h2 h3 h4 h5 => by omega)⟩ (by omega)
      · rintro j ls D2 c2 hj ⟨rfl, A, rfl, hA⟩ hk2
        obtain ⟨B, u1, u2⟩ := s_fromCorner hC hW hi hj
        have hAle := hA.le
        have hBle := u2.le
        obtain ⟨C, m1, m2⟩ := max_z (a := A) (b := B) (by omega) (by omega)
        refine RunP.go ?_
        show Wp (b_X2_sizeByRectangles_2 _ _ _ _) _
        unfold b_X2_sizeByRectangles_2
        rw [zl_6, if_neg (by rw [z_le (by omega) (by omega) (by omega) (by omega)]; omega), u1, cI_i, Wp_some, Nx_l, m1, zl_1, z_add]
        exact hk2 _ _ ⟨rfl, C, rfl, hA.max u2 (fun t' l' b' r' h1 h2 h3 h4 h5 => by omega) m2⟩
      · rintro ls D2 ⟨rfl, A, rfl, hA⟩
        refine RunP.go ?_
        show Wp (b_X2_sizeByRectangles_2 _ _ _ _) _
        unfold b_X2_sizeByRectangles_2
        simp (disch := omega) only [z_add, z_sub, z_mul, z_neg, ite_T, ite_F, zl_0, zl_1, zl_2, zl_3, zl_4, zl_5, zl_6, zl_7, zl_8, zl_9, zl_10, zl_11, zl_12, zl_13, zl_14, zl_15, zl_16, zl_17, zl_18, zl_19, zl_20, zl_21, zl_22, zl_23, zl_24, zl_25, zl_26, zl_27, zl_28, zl_29, zl_30, zl_31, zl_32, zl_33, zl_34, zl_35, zl_36, zl_37, zl_38, zl_39, zl_40, zl_41, zl_42, zl_43, zl_44, zl_45, zl_46, zl_47, zl_48, zl_49, zl_50, zl_51, zl_52, zl_53, zl_54, zl_55, zl_56, zl_57, zl_58, zl_59, zl_60, zl_61, zl_62, zl_63, zl_64, zl_97, zl_99, zl_100, zl_126, zl_255, zl_434, zl_496, zl_1000000, zl_100000, z_lt, z_le, z_eq, inB_z, z_div, Int.reduceToNat, Wp_some, Nx_l, Nx_r, cI_i, cV_v, cL_l, ite_t, ite_f, z_nn, toNat_c, bz_e0]
        exact hk _ _ ⟨rfl, A, rfl, hA.sub (fun t' l' b' r' h1 h2 h3 h4 h5 => by omega)⟩
    · rintro ls D' ⟨rfl, A, rfl, hA⟩
      refine RunP.go ?_
      show Wp (b_X2_sizeByRectangles_1 _ _ _) _
      unfold b_X2_sizeByRectangles_1
      simp (disch := omega) only [z_add, z_sub, z_mul, z_neg, ite_T, ite_F, zl_0, zl_1, zl_2, zl_3, zl_4, zl_5, zl_6, zl_7, zl_8, zl_9, zl_10, zl_11, zl_12, zl_13, zl_14, zl_15, zl_16, zl_17, zl_18, zl_19, zl_20, zl_21, zl_22, zl_23, zl_24, zl_25, zl_26, zl_27, zl_28, zl_29, zl_30, zl_31, zl_32, zl_33, zl_34, zl_35, zl_36, zl_37, zl_38, zl_39, zl_40, zl_41, zl_42, zl_43, zl_44, zl_45, zl_46, zl_47, zl_48, zl_49, zl_50, zl_51, zl_52, zl_53, zl_54, zl_55, zl_56, zl_57, zl_58, zl_59, zl_60, zl_61, zl_62, zl_63, zl_64, zl_97, zl_99, zl_100, zl_126, zl_255, zl_434, zl_496, zl_1000000, zl_100000, z_lt, z_le, z_eq, inB_z, z_div, Int.reduceToNat, Wp_some, Nx_l, Nx_r, cI_i, cV_v, cL_l, ite_t, ite_f, z_nn, toNat_c, bz_e0]
      exact ⟨A, rfl, hA.sub (fun t' l' b' r' h1 h2 h3 h4 h5 => by omega)⟩
  obtain ⟨q, h1, A, rfl, h2⟩ := key
  exact ⟨A, h1, h2⟩
theorem m_largestBlock (hM : MR D v) (hW : WF v) : ∃ A : Nat, S_X13_largestBlock D = some (0, some (.int (z A)), setI D 140 (z 0)) ∧ IsBlk v A := by
  have key : ∃ q, run T_X13_largestBlock FUEL 0 [] D = some q ∧ ∃ A : Nat, q = (0, some (.int (z A)), setI D 140 (z 0)) ∧ IsBlk v A := by
    refine RunP.fin (c := 3000) ?_ (by decide)
    refine RunP.go ?_
    show Wp (b_X13_largestBlock_0 _) _
    unfold b_X13_largestBlock_0
    simp only [Int.reduceToNat, Wp_some, Nx_l, Nx_r, cI_i, cV_v, cL_l, ite_t, ite_f, z_nn, toNat_c, bz_e0, z_add, z_sub, z_mul, z_neg, ite_T, ite_F, zl_0, zl_1, zl_2, zl_3, zl_4, zl_5, zl_6, zl_7, zl_8, zl_9, zl_10, zl_11, zl_12, zl_13, zl_14, zl_15, zl_16, zl_17, zl_18, zl_19, zl_20, zl_21, zl_22, zl_23, zl_24, zl_25, zl_26, zl_27, zl_28, zl_29, zl_30, zl_31, zl_32, zl_33, zl_34, zl_35, zl_36, zl_37, zl_38, zl_39, zl_40, zl_41, zl_42, zl_43, zl_44, zl_45, zl_46, zl_47, zl_48, zl_49, zl_50, zl_51, zl_52, zl_53, zl_54, zl_55, zl_56, zl_57, zl_58, zl_59, zl_60, zl_61, zl_62, zl_63, zl_64, zl_97, zl_99, zl_100, zl_126, zl_255, zl_434, zl_496, zl_1000000, zl_100000]
    refine RunP.loop (fun i ls D' => D' = setI D 140 (z 0) ∧ ∃ A : Nat, ls = [z A, z i] ∧ Acc v (fun t' l' _ _ => 6 * t' + l' < i) A) 36 40 1 ?_ ?_ 0 _ _ (by omega) ⟨rfl, 0, rfl, Or.inl rfl, fun t' l' b' r' h1 h2 h3 h4 h5 => by omega⟩ (by omega)
    · rintro i ls D' c hi ⟨rfl, A, rfl, hA⟩ hk
      refine RunP.mono (c := (c + 39) + 1) ?_ (by omega)
      refine RunP.go ?_
      show Wp (b_X13_largestBlock_1 _ _ _) _
      unfold b_X13_largestBlock_1
      simp (disch := omega) only [z_add, z_sub, z_mul, z_neg, ite_T, ite_F, zl_0, zl_1, zl_2, zl_3, zl_4, zl_5, zl_6, zl_7, zl_8, zl_9, zl_10, zl_11, zl_12, zl_13, zl_14, zl_15, zl_16, zl_17, zl_18, zl_19, zl_20, zl_21, zl_22, zl_23, zl_24, zl_25, zl_26, zl_27, zl_28, zl_29, zl_30, zl_31, zl_32, zl_33, zl_34, zl_35, zl_36, zl_37, zl_38, zl_39, zl_40, zl_41, zl_42, zl_43, zl_44, zl_45, zl_46, zl_47, zl_48, zl_49, zl_50, zl_51, zl_52, zl_53, zl_54, zl_55, zl_56, zl_57, zl_58, zl_59, zl_60, zl_61, zl_62, zl_63, zl_64, zl_97, zl_99, zl_100, zl_126, zl_255, zl_434, zl_496, zl_1000000, zl_100000, z_lt, z_le, z_eq, inB_z, z_div, Int.reduceToNat, Wp_some, Nx_l, Nx_r, cI_i, cV_v, cL_l, ite_t, ite_f, z_nn, toNat_c, bz_e0]
      refine RunP.loop (fun j ls D2 => D2 = setI D 140 (z 0) ∧ i ≤ j ∧ ∃ A : Nat, ls = [z A, z i, z j] ∧ Acc v (fun t' l' b' r' => 6 * t' + l' < i ∨ (6 * t' + l' = i ∧ 6 * b' + r' < j)) A) 36 1 (c + 1) ?_ ?_ i _ _ (by omega) ⟨rfl, Nat.le_refl _, A, rfl, hA.sub (fun t' l' b' r' h1 h2 h3 h4 h5 => by omega)⟩ (by omega)
      · rintro j ls D2 c2 hj ⟨rfl, hij, A, rfl, hA⟩ hk2
        have hAle := hA.le
        have hsz := sz4_le (t := i / 6) (l := i % 6) (show j / 6 < 6 by omega) (show j % 6 < 6 by omega)
        have ei : (i : Int) - (i : Int) / 6 * 6 = ((i % 6 : Nat) : Int) := by omega
        have ej : (j : Int) - (j : Int) / 6 * 6 = ((j % 6 : Nat) : Int) := by omega
        have di : (i : Int) / 6 = ((i / 6 : Nat) : Int) := by omega
        have dj : (j : Int) / 6 = ((j / 6 : Nat) : Int) := by omega
        refine RunP.go ?_
        show Wp (b_X13_largestBlock_2 _ _ _ _) _
        unfold b_X13_largestBlock_2
        simp (disch := omega) only [z_add, z_sub, z_mul, z_neg, ite_T, ite_F, zl_0, zl_1, zl_2, zl_3, zl_4, zl_5, zl_6, zl_7, zl_8, zl_9, zl_10, zl_11, zl_12, zl_13, zl_14, zl_15, zl_16, zl_17, zl_18, zl_19, zl_20, zl_21, zl_22, zl_23, zl_24, zl_25, zl_26, zl_27, zl_28, zl_29, zl_30, zl_31, zl_32, zl_33, zl_34, zl_35, zl_36, zl_37, zl_38, zl_39, zl_40, zl_41, zl_42, zl_43, zl_44, zl_45, zl_46, zl_47, zl_48, zl_49, zl_50, zl_51, zl_52, zl_53, zl_54, zl_55, zl_56, zl_57, zl_58, zl_59, zl_60, zl_61, zl_62, zl_63, zl_64, zl_97, zl_99, zl_100, zl_126, zl_255, zl_434, zl_496, zl_1000000, zl_100000, z_lt, z_le, z_eq, inB_z, z_div, Int.reduceToNat, Wp_some, Nx_l, Nx_r, cI_i, cV_v, cL_l, ite_t, ite_f, z_nn, toNat_c, bz_e0, ei, ej]
        have none' : (i % 6 ≤ j % 6 → Rc v (i / 6) (i % 6) (j / 6) (j % 6) → sz4 (i / 6) (i % 6) (j / 6) (j % 6) ≤ A) → RunP T_X13_largestBlock c2 2 [z A, z i, z ((j + 1 : Nat))] (setI D 140 (z 0)) (fun q => ∃ A : Nat, q = (0, some (.int (z A)), setI D 140 (z 0)) ∧ IsBlk v A) := by
          intro h
          refine hk2 _ _ ⟨rfl, by omega, A, rfl, hA.1, fun t' l' b' r' h1 h2 h3 h4 h5 h6 => ?_⟩
          by_cases e : 6 * t' + l' = i ∧ 6 * b' + r' = j
          · have e1 : t' = i / 6 := by omega
            have e2 : l' = i % 6 := by omega
            have e3 : b' = j / 6 := by omega
            have e4 : r' = j % 6 := by omega
            subst e1 e2 e3 e4
            exact h h3 h6
          · exact hA.2 t' l' b' r' h1 h2 h3 h4 (by omega) h6
        split
        · rename_i hlt
          rw [Wp_some, Nx_l]
          exact none' (fun h => by omega)
        · rename_i hge
          have hmr : i % 6 ≤ j % 6 := by omega
          rw [di, dj]
          simp (disch := omega) only [sz4_z (show i / 6 ≤ j / 6 by omega) hmr, z_le]
          split
          · rename_i hle
            rw [Wp_some, Nx_l]
            exact none' (fun _ _ => by omega)
          · rename_i hgt
            obtain ⟨ok, o1, o2⟩ := m_isWhole (D := setI D 140 (z 0)) hM.setI hW (show i / 6 ≤ j / 6 by omega) (by omega) hmr (by omega)
            rw [o1, cI_i]
            cases ok with
            | false =>
              rw [if_pos (show z (zb false) = z 0 from rfl), Wp_some, Nx_l]
              exact none' (fun _ h => absurd (o2.mpr h) (by simp))
            | true =>
              rw [if_neg (show ¬ z (zb true) = z 0 by decide), Wp_some, Nx_l]
              refine hk2 _ _ ⟨rfl, by omega, sz4 (i / 6) (i % 6) (j / 6) (j % 6), rfl, hA.more (t0 := i / 6) (l0 := i % 6) (b0 := j / 6) (r0 := j % 6) (S := fun t' l' b' r' => 6 * t' + l' < i ∨ (6 * t' + l' = i ∧ 6 * b' + r' < j)) (fun t' l' b' r' g1 g2 g3 g4 h => by omega) (Or.inr ⟨rfl, by omega, by omega, by omega, hmr, by omega, o2.mp rfl⟩)⟩
      · rintro ls D2 ⟨rfl, hij, A, rfl, hA⟩
        refine RunP.go ?_
        show Wp (b_X13_largestBlock_2 _ _ _ _) _
        unfold b_X13_largestBlock_2
        simp (disch := omega) only [z_add, z_sub, z_mul, z_neg, ite_T, ite_F, zl_0, zl_1, zl_2, zl_3, zl_4, zl_5, zl_6, zl_7, zl_8, zl_9, zl_10, zl_11, zl_12, zl_13, zl_14, zl_15, zl_16, zl_17, zl_18, zl_19, zl_20, zl_21, zl_22, zl_23, zl_24, zl_25, zl_26, zl_27, zl_28, zl_29, zl_30, zl_31, zl_32, zl_33, zl_34, zl_35, zl_36, zl_37, zl_38, zl_39, zl_40, zl_41, zl_42, zl_43, zl_44, zl_45, zl_46, zl_47, zl_48, zl_49, zl_50, zl_51, zl_52, zl_53, zl_54, zl_55, zl_56, zl_57, zl_58, zl_59, zl_60, zl_61, zl_62, zl_63, zl_64, zl_97, zl_99, zl_100, zl_126, zl_255, zl_434, zl_496, zl_1000000, zl_100000, z_lt, z_le, z_eq, inB_z, z_div, Int.reduceToNat, Wp_some, Nx_l, Nx_r, cI_i, cV_v, cL_l, ite_t, ite_f, z_nn, toNat_c, bz_e0]
        exact hk _ _ ⟨rfl, A, rfl, hA.sub (fun t' l' b' r' h1 h2 h3 h4 h5 => by omega)⟩
    · rintro ls D' ⟨rfl, A, rfl, hA⟩
      refine RunP.go ?_
      show Wp (b_X13_largestBlock_1 _ _ _) _
      unfold b_X13_largestBlock_1
      simp (disch := omega) only [z_add, z_sub, z_mul, z_neg, ite_T, ite_F, zl_0, zl_1, zl_2, zl_3, zl_4, zl_5, zl_6, zl_7, zl_8, zl_9, zl_10, zl_11, zl_12, zl_13, zl_14, zl_15, zl_16, zl_17, zl_18, zl_19, zl_20, zl_21, zl_22, zl_23, zl_24, zl_25, zl_26, zl_27, zl_28, zl_29, zl_30, zl_31, zl_32, zl_33, zl_34, zl_35, zl_36, zl_37, zl_38, zl_39, zl_40, zl_41, zl_42, zl_43, zl_44, zl_45, zl_46, zl_47, zl_48, zl_49, zl_50, zl_51, zl_52, zl_53, zl_54, zl_55, zl_56, zl_57, zl_58, zl_59, zl_60, zl_61, zl_62, zl_63, zl_64, zl_97, zl_99, zl_100, zl_126, zl_255, zl_434, zl_496, zl_1000000, zl_100000, z_lt, z_le, z_eq, inB_z, z_div, Int.reduceToNat, Wp_some, Nx_l, Nx_r, cI_i, cV_v, cL_l, ite_t, ite_f, z_nn, toNat_c, bz_e0]
      exact ⟨A, rfl, hA.sub (fun t' l' b' r' h1 h2 h3 h4 h5 => by omega)⟩
  obtain ⟨q, h1, A, rfl, h2⟩ := key
  exact ⟨A, h1, h2⟩
end LL
