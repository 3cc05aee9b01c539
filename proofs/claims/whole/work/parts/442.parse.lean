/-! pure: the text parsed, the quarry's side -/
abbrev CG : Type := Nat × Nat × Nat × Nat × Nat × Nat
/-- a command well read: word, numbers, from, behind -/
def Gd (n : Nat) (T : Nat → Nat) (g : CG) : Prop := WOk n T g.2.2.2.2.1 g.1 ∧ parF n T g.1 (g.2.2.2.2.1 + wlen g.1) = (true, g.2.1, g.2.2.1, g.2.2.2.1, g.2.2.2.2.2)
def Nxt (n : Nat) (T : Nat → Nat) (K : Nat) (G : Nat → CG) (p : Nat) : Prop := (K = 0 ∧ p = 0) ∨ (0 < K ∧ sg n T (G (K - 1)).2.2.2.2.2 = 59 ∧ p = (G (K - 1)).2.2.2.2.2 + 1)
def GP (n : Nat) (T : Nat → Nat) (K : Nat) (G : Nat → CG) : Prop := ∀ i, i < K → Gd n T (G i) ∧ Nxt n T i G (G i).2.2.2.2.1
/-- a command that is not well read, up to q -/
def CF (n : Nat) (T : Nat → Nat) (p q : Nat) : Prop := (∃ m, WNo n T p m ∧ q = p + m) ∨ ∃ w, WOk n T p w ∧ (parF n T w (p + wlen w)).1 = false ∧ q = (parF n T w (p + wlen w)).2.2.2.2
def Sto (D : DD) (K : Nat) (G : Nat → CG) : Prop := ∀ i, i < K → D.2.2.2.2.2 i = some (1000 + (G i).1) ∧ D.2.2.1 66 (3 * i) = z (G i).2.1 ∧ (2 ≤ wnp (G i).1 → D.2.2.1 66 (3 * i + 1) = z (G i).2.2.1) ∧ (wnp (G i).1 = 3 → D.2.2.1 66 (3 * i + 2) = z (G i).2.2.2.1)
def fpI (k : Nat) : Bool := k == 130 || k == 131
def fpA (k : Nat) : Bool := k == 66
def FP' : DD → DD → Prop := FG fpI n0 fpA true
theorem wnp_3 : ∀ w, w < 7 → (wnp w = 1 ∨ wnp w = 2 ∨ wnp w = 3) ∧ (wmg w = 1 ∨ wmg w = 2) ∧ 6 ≤ wlen w + 2 * wnp w ∧ 3 ≤ wlen w ∧ wlen w ≤ 6 := by decide
section LL
variable {D D1 E : DD} {n : Nat} {T : Nat → Nat} {p : Nat}
theorem WOk.le {w : Nat} (h : WOk n T p w) : p + wlen w ≤ n := by
  obtain ⟨h1, h2⟩ := h
  have h3 := (wnp_3 w h1).2.2.2.1
  have := h2 (wlen w - 1) (by omega)
  unfold Mt at this
  have := sg_pos (n := n) (T := T) (i := p + (wlen w - 1)) (by omega)
  omega
theorem parF_le {w q0 : Nat} (hw : w < 7) (h : q0 ≤ n) : (parF n T w q0).2.2.2.2 ≤ n ∧ q0 ≤ (parF n T w q0).2.2.2.2 ∧ (parF n T w q0).2.1 ≤ 99 ∧ (parF n T w q0).2.2.1 ≤ 99 ∧ (parF n T w q0).2.2.2.1 ≤ 99 ∧ ((parF n T w q0).1 = true → q0 + 2 * wnp w ≤ (parF n T w q0).2.2.2.2) := by
  have hn := (wnp_3 w hw).1
  obtain ⟨a1, a2, a3, a4⟩ := numF_le (T := T) (m := wmg w) h
  obtain ⟨b1, b2, b3, b4⟩ := numF_le (T := T) (m := wmg w) a1
  obtain ⟨c1, c2, c3, c4⟩ := numF_le (T := T) (m := wmg w) b1
  unfold parF
  by_cases h1 : (numF n T (wmg w) q0).1 = true
  · have a5 := a4 h1
    rw [if_pos h1]
    by_cases n1 : wnp w = 1
    · rw [if_pos n1]
      dsimp only
      exact ⟨by omega, by omega, by omega, by omega, by omega, fun _ => by omega⟩
    · rw [if_neg n1]
      by_cases h2 : (numF n T (wmg w) (numF n T (wmg w) q0).2.2).1 = true
      · have b5 := b4 h2
        rw [if_pos h2]
        by_cases n2 : wnp w = 2
        · rw [if_pos n2]
          dsimp only
          exact ⟨by omega, by omega, by omega, by omega, by omega, fun _ => by omega⟩
        · rw [if_neg n2]
          by_cases h3 : (numF n T (wmg w) (numF n T (wmg w) (numF n T (wmg w) q0).2.2).2.2).1 = true
          · have c5 := c4 h3
            rw [if_pos h3]
            dsimp only
            exact ⟨by omega, by omega, by omega, by omega, by omega, fun _ => by omega⟩
          · rw [if_neg h3]
            dsimp only
            exact ⟨by omega, by omega, by omega, by omega, by omega, fun q => by cases q⟩
      · rw [if_neg h2]
        dsimp only
        exact ⟨by omega, by omega, by omega, by omega, by omega, fun q => by cases q⟩
  · rw [if_neg h1]
    dsimp only
    exact ⟨by omega, by omega, by omega, by omega, by omega, fun q => by cases q⟩
theorem rc_0 (hT : TW D n T) (hp : D.1 130 = z p) (hpn : p ≤ n) {i j : Nat} (hi : i < 10) (hj : j ≤ 3) : b_X4_readCommand_1 (z i) (z j) D = if wnp 0 ≤ j then some (.inr (0, some (.int (z 1)), D)) else if (numF n T (wmg 0) p).1 = true then some (.inl (1, [z i, z ((j + 1 : Nat))], setA (setI D 130 (z (numF n T (wmg 0) p).2.2)) 66 (upd (D.2.2.1 66) (3 * i + j) (z (numF n T (wmg 0) p).2.1)))) else some (.inr (0, some (.int (z 0)), setI D 130 (z (numF n T (wmg 0) p).2.2))) := by
  have h1 : wnp 0 = 3 := rfl
  have h2 : wmg 0 = 1 := rfl
  obtain ⟨l1, l2, l3, l4⟩ := numF_le (T := T) (m := 1) hpn
  unfold b_X4_readCommand_1
  rw [h1, h2]
  by_cases hx : 3 ≤ j
  · rw [if_pos hx]
    simp (disch := omega) only [z_add, z_sub, z_mul, z_neg, ite_T, ite_F, zl_0, zl_1, zl_2, zl_3, zl_4, zl_5, zl_6, zl_7, zl_8, zl_9, zl_10, zl_11, zl_12, zl_13, zl_14, zl_15, zl_16, zl_17, zl_18, zl_19, zl_20, zl_21, zl_22, zl_23, zl_24, zl_25, zl_26, zl_27, zl_28, zl_29, zl_30, zl_31, zl_32, zl_33, zl_34, zl_35, zl_36, zl_37, zl_38, zl_39, zl_40, zl_41, zl_42, zl_43, zl_44, zl_45, zl_46, zl_47, zl_48, zl_49, zl_50, zl_51, zl_52, zl_53, zl_54, zl_55, zl_56, zl_57, zl_58, zl_59, zl_60, zl_61, zl_62, zl_63, zl_64, zl_97, zl_99, zl_100, zl_126, zl_255, zl_434, zl_496, zl_1000000, zl_100000, z_lt, z_le, z_eq, inB_z, z_div, Int.reduceToNat, Wp_some, Nx_l, Nx_r, cI_i, cV_v, cL_l, ite_t, ite_f, z_nn, toNat_c, bz_e0]
  · have hr : S_X4_readNumber (z 1) D = _ := s_readNumber hT hp hpn (m := 1) (by omega)
    rw [if_neg hx]
    by_cases hk : (numF n T 1 p).1 = true
    · rw [if_pos hk]
      rw [if_pos hk] at hr
      simp (disch := omega) only [z_add, z_sub, z_mul, z_neg, ite_T, ite_F, zl_0, zl_1, zl_2, zl_3, zl_4, zl_5, zl_6, zl_7, zl_8, zl_9, zl_10, zl_11, zl_12, zl_13, zl_14, zl_15, zl_16, zl_17, zl_18, zl_19, zl_20, zl_21, zl_22, zl_23, zl_24, zl_25, zl_26, zl_27, zl_28, zl_29, zl_30, zl_31, zl_32, zl_33, zl_34, zl_35, zl_36, zl_37, zl_38, zl_39, zl_40, zl_41, zl_42, zl_43, zl_44, zl_45, zl_46, zl_47, zl_48, zl_49, zl_50, zl_51, zl_52, zl_53, zl_54, zl_55, zl_56, zl_57, zl_58, zl_59, zl_60, zl_61, zl_62, zl_63, zl_64, zl_97, zl_99, zl_100, zl_126, zl_255, zl_434, zl_496, zl_1000000, zl_100000, z_lt, z_le, z_eq, inB_z, z_div, Int.reduceToNat, Wp_some, Nx_l, Nx_r, cI_i, cV_v, cL_l, ite_t, ite_f, z_nn, toNat_c, bz_e0, hr, s_inRange]
      rw [show ((i : Int) * 3 + j).toNat = 3 * i + j by omega]
      rfl
    · rw [if_neg hk]
      rw [if_neg hk] at hr
      simp (disch := omega) only [z_add, z_sub, z_mul, z_neg, ite_T, ite_F, zl_0, zl_1, zl_2, zl_3, zl_4, zl_5, zl_6, zl_7, zl_8, zl_9, zl_10, zl_11, zl_12, zl_13, zl_14, zl_15, zl_16, zl_17, zl_18, zl_19, zl_20, zl_21, zl_22, zl_23, zl_24, zl_25, zl_26, zl_27, zl_28, zl_29, zl_30, zl_31, zl_32, zl_33, zl_34, zl_35, zl_36, zl_37, zl_38, zl_39, zl_40, zl_41, zl_42, zl_43, zl_44, zl_45, zl_46, zl_47, zl_48, zl_49, zl_50, zl_51, zl_52, zl_53, zl_54, zl_55, zl_56, zl_57, zl_58, zl_59, zl_60, zl_61, zl_62, zl_63, zl_64, zl_97, zl_99, zl_100, zl_126, zl_255, zl_434, zl_496, zl_1000000, zl_100000, z_lt, z_le, z_eq, inB_z, z_div, Int.reduceToNat, Wp_some, Nx_l, Nx_r, cI_i, cV_v, cL_l, ite_t, ite_f, z_nn, toNat_c, bz_e0, hr, s_inRange]
theorem rc_1 (hT : TW D n T) (hp : D.1 130 = z p) (hpn : p ≤ n) {i j : Nat} (hi : i < 10) (hj : j ≤ 3) : b_X4_readCommand_2 (z i) (z j) D = if wnp 1 ≤ j then some (.inr (0, some (.int (z 1)), D)) else if (numF n T (wmg 1) p).1 = true then some (.inl (2, [z i, z ((j + 1 : Nat))], setA (setI D 130 (z (numF n T (wmg 1) p).2.2)) 66 (upd (D.2.2.1 66) (3 * i + j) (z (numF n T (wmg 1) p).2.1)))) else some (.inr (0, some (.int (z 0)), setI D 130 (z (numF n T (wmg 1) p).2.2))) := by
  have h1 : wnp 1 = 3 := rfl
  have h2 : wmg 1 = 1 := rfl
  obtain ⟨l1, l2, l3, l4⟩ := numF_le (T := T) (m := 1) hpn
  unfold b_X4_readCommand_2
  rw [h1, h2]
  by_cases hx : 3 ≤ j
  · rw [if_pos hx]
    simp (disch := omega) only [z_add, z_sub, z_mul, z_neg, ite_T, ite_F, zl_0, zl_1, zl_2, zl_3, zl_4, zl_5, zl_6, zl_7, zl_8, zl_9, zl_10, zl_11, zl_12, zl_13, zl_14, zl_15, zl_16, zl_17, zl_18, zl_19, zl_20, zl_21, zl_22, zl_23, zl_24, zl_25, zl_26, zl_27, zl_28, zl_29, zl_30, zl_31, zl_32, zl_33, zl_34, zl_35, zl_36, zl_37, zl_38, zl_39, zl_40, zl_41, zl_42, zl_43, zl_44, zl_45, zl_46, zl_47, zl_48, zl_49, zl_50, zl_51, zl_52, zl_53, zl_54, zl_55, zl_56, zl_57, zl_58, zl_59, zl_60, zl_61, zl_62, zl_63, zl_64, zl_97, zl_99, zl_100, zl_126, zl_255, zl_434, zl_496, zl_1000000, zl_100000, z_lt, z_le, z_eq, inB_z, z_div, Int.reduceToNat, Wp_some, Nx_l, Nx_r, cI_i, cV_v, cL_l, ite_t, ite_f, z_nn, toNat_c, bz_e0]
  · have hr : S_X4_readNumber (z 1) D = _ := s_readNumber hT hp hpn (m := 1) (by omega)
    rw [if_neg hx]
    by_cases hk : (numF n T 1 p).1 = true
    · rw [if_pos hk]
      rw [if_pos hk] at hr
      simp (disch := omega) only [z_add, z_sub, z_mul, z_neg, ite_T, ite_F, zl_0, zl_1, zl_2, zl_3, zl_4, zl_5, zl_6, zl_7, zl_8, zl_9, zl_10, zl_11, zl_12, zl_13, zl_14, zl_15, zl_16, zl_17, zl_18, zl_19, zl_20, zl_21, zl_22, zl_23, zl_24, zl_25, zl_26, zl_27, zl_28, zl_29, zl_30, zl_31, zl_32, zl_33, zl_34, zl_35, zl_36, zl_37, zl_38, zl_39, zl_40, zl_41, zl_42, zl_43, zl_44, zl_45, zl_46, zl_47, zl_48, zl_49, zl_50, zl_51, zl_52, zl_53, zl_54, zl_55, zl_56, zl_57, zl_58, zl_59, zl_60, zl_61, zl_62, zl_63, zl_64, zl_97, zl_99, zl_100, zl_126, zl_255, zl_434, zl_496, zl_1000000, zl_100000, z_lt, z_le, z_eq, inB_z, z_div, Int.reduceToNat, Wp_some, Nx_l, Nx_r, cI_i, cV_v, cL_l, ite_t, ite_f, z_nn, toNat_c, bz_e0, hr, s_inRange]
      rw [show ((i : Int) * 3 + j).toNat = 3 * i + j by omega]
      rfl
    · rw [if_neg hk]
      rw [if_neg hk] at hr
      simp (disch := omega) only [z_add, z_sub, z_mul, z_neg, ite_T, ite_F, zl_0, zl_1, zl_2, zl_3, zl_4, zl_5, zl_6, zl_7, zl_8, zl_9, zl_10, zl_11, zl_12, zl_13, zl_14, zl_15, zl_16, zl_17, zl_18, zl_19, zl_20, zl_21, zl_22, zl_23, zl_24, zl_25, zl_26, zl_27, zl_28, zl_29, zl_30, zl_31, zl_32, zl_33, zl_34, zl_35, zl_36, zl_37, zl_38, zl_39, zl_40, zl_41, zl_42, zl_43, zl_44, zl_45, zl_46, zl_47, zl_48, zl_49, zl_50, zl_51, zl_52, zl_53, zl_54, zl_55, zl_56, zl_57, zl_58, zl_59, zl_60, zl_61, zl_62, zl_63, zl_64, zl_97, zl_99, zl_100, zl_126, zl_255, zl_434, zl_496, zl_1000000, zl_100000, z_lt, z_le, z_eq, inB_z, z_div, Int.reduceToNat, Wp_some, Nx_l, Nx_r, cI_i, cV_v, cL_l, ite_t, ite_f, z_nn, toNat_c, bz_e0, hr, s_inRange]
theorem rc_2 (hT : TW D n T) (hp : D.1 130 = z p) (hpn : p ≤ n) {i j : Nat} (hi : i < 10) (hj : j ≤ 3) : b_X4_readCommand_3 (z i) (z j) D = if wnp 2 ≤ j then some (.inr (0, some (.int (z 1)), D)) else if (numF n T (wmg 2) p).1 = true then some (.inl (3, [z i, z ((j + 1 : Nat))], setA (setI D 130 (z (numF n T (wmg 2) p).2.2)) 66 (upd (D.2.2.1 66) (3 * i + j) (z (numF n T (wmg 2) p).2.1)))) else some (.inr (0, some (.int (z 0)), setI D 130 (z (numF n T (wmg 2) p).2.2))) := by
  have h1 : wnp 2 = 1 := rfl
  have h2 : wmg 2 = 1 := rfl
  obtain ⟨l1, l2, l3, l4⟩ := numF_le (T := T) (m := 1) hpn
  unfold b_X4_readCommand_3
  rw [h1, h2]
  by_cases hx : 1 ≤ j
  · rw [if_pos hx]
    simp (disch := omega) only [z_add, z_sub, z_mul, z_neg, ite_T, ite_F, zl_0, zl_1, zl_2, zl_3, zl_4, zl_5, zl_6, zl_7, zl_8, zl_9, zl_10, zl_11, zl_12, zl_13, zl_14, zl_15, zl_16, zl_17, zl_18, zl_19, zl_20, zl_21, zl_22, zl_23, zl_24, zl_25, zl_26, zl_27, zl_28, zl_29, zl_30, zl_31, zl_32, zl_33, zl_34, zl_35, zl_36, zl_37, zl_38, zl_39, zl_40, zl_41, zl_42, zl_43, zl_44, zl_45, zl_46, zl_47, zl_48, zl_49, zl_50, zl_51, zl_52, zl_53, zl_54, zl_55, zl_56, zl_57, zl_58, zl_59, zl_60, zl_61, zl_62, zl_63, zl_64, zl_97, zl_99, zl_100, zl_126, zl_255, zl_434, zl_496, zl_1000000, zl_100000, z_lt, z_le, z_eq, inB_z, z_div, Int.reduceToNat, Wp_some, Nx_l, Nx_r, cI_i, cV_v, cL_l, ite_t, ite_f, z_nn, toNat_c, bz_e0]
  · have hr : S_X4_readNumber (z 1) D = _ := s_readNumber hT hp hpn (m := 1) (by omega)
    rw [if_neg hx]
    by_cases hk : (numF n T 1 p).1 = true
    · rw [if_pos hk]
      rw [if_pos hk] at hr
      simp (disch := omega) only [z_add, z_sub, z_mul, z_neg, ite_T, ite_F, zl_0, zl_1, zl_2, zl_3, zl_4, zl_5, zl_6, zl_7, zl_8, zl_9, zl_10, zl_11, zl_12, zl_13, zl_14, zl_15, zl_16, zl_17, zl_18, zl_19, zl_20, zl_21, zl_22, zl_23, zl_24, zl_25, zl_26, zl_27, zl_28, zl_29, zl_30, zl_31, zl_32, zl_33, zl_34, zl_35, zl_36, zl_37, zl_38, zl_39, zl_40, zl_41, zl_42, zl_43, zl_44, zl_45, zl_46, zl_47, zl_48, zl_49, zl_50, zl_51, zl_52, zl_53, zl_54, zl_55, zl_56, zl_57, zl_58, zl_59, zl_60, zl_61, zl_62, zl_63, zl_64, zl_97, zl_99, zl_100, zl_126, zl_255, zl_434, zl_496, zl_1000000, zl_100000, z_lt, z_le, z_eq, inB_z, z_div, Int.reduceToNat, Wp_some, Nx_l, Nx_r, cI_i, cV_v, cL_l, ite_t, ite_f, z_nn, toNat_c, bz_e0, hr, s_inRange]
      rw [show ((i : Int) * 3 + j).toNat = 3 * i + j by omega]
      rfl
    · rw [if_neg hk]
      rw [if_neg hk] at hr
      simp (disch := omega) only [z_add, z_sub, z_mul, z_neg, ite_T, ite_F, zl_0, zl_1, zl_2, zl_3, zl_4, zl_5, zl_6, zl_7, zl_8, zl_9, zl_10, zl_11, zl_12, zl_13, zl_14, zl_15, zl_16, zl_17, zl_18, zl_19, zl_20, zl_21, zl_22, zl_23, zl_24, zl_25, zl_26, zl_27, zl_28, zl_29, zl_30, zl_31, zl_32, zl_33, zl_34, zl_35, zl_36, zl_37, zl_38, zl_39, zl_40, zl_41, zl_42, zl_43, zl_44, zl_45, zl_46, zl_47, zl_48, zl_49, zl_50, zl_51, zl_52, zl_53, zl_54, zl_55, zl_56, zl_57, zl_58, zl_59, zl_60, zl_61, zl_62, zl_63, zl_64, zl_97, zl_99, zl_100, zl_126, zl_255, zl_434, zl_496, zl_1000000, zl_100000, z_lt, z_le, z_eq, inB_z, z_div, Int.reduceToNat, Wp_some, Nx_l, Nx_r, cI_i, cV_v, cL_l, ite_t, ite_f, z_nn, toNat_c, bz_e0, hr, s_inRange]
theorem rc_3 (hT : TW D n T) (hp : D.1 130 = z p) (hpn : p ≤ n) {i j : Nat} (hi : i < 10) (hj : j ≤ 3) : b_X4_readCommand_4 (z i) (z j) D = if wnp 3 ≤ j then some (.inr (0, some (.int (z 1)), D)) else if (numF n T (wmg 3) p).1 = true then some (.inl (4, [z i, z ((j + 1 : Nat))], setA (setI D 130 (z (numF n T (wmg 3) p).2.2)) 66 (upd (D.2.2.1 66) (3 * i + j) (z (numF n T (wmg 3) p).2.1)))) else some (.inr (0, some (.int (z 0)), setI D 130 (z (numF n T (wmg 3) p).2.2))) := by
  have h1 : wnp 3 = 1 := rfl
  have h2 : wmg 3 = 1 := rfl
  obtain ⟨l1, l2, l3, l4⟩ := numF_le (T := T) (m := 1) hpn
  unfold b_X4_readCommand_4
  rw [h1, h2]
  by_cases hx : 1 ≤ j
  · rw [if_pos hx]
    simp (disch := omega) only [z_add, z_sub, z_mul, z_neg, ite_T, ite_F, zl_0, zl_1, zl_2, zl_3, zl_4, zl_5, zl_6, zl_7, zl_8, zl_9, zl_10, zl_11, zl_12, zl_13, zl_14, zl_15, zl_16, zl_17, zl_18, zl_19, zl_20, zl_21, zl_22, zl_23, zl_24, zl_25, zl_26, zl_27, zl_28, zl_29, zl_30, zl_31, zl_32, zl_33, zl_34, zl_35, zl_36, zl_37, zl_38, zl_39, zl_40, zl_41, zl_42, zl_43, zl_44, zl_45, zl_46, zl_47, zl_48, zl_49, zl_50, zl_51, zl_52, zl_53, zl_54, zl_55, zl_56, zl_57, zl_58, zl_59, zl_60, zl_61, zl_62, zl_63, zl_64, zl_97, zl_99, zl_100, zl_126, zl_255, zl_434, zl_496, zl_1000000, zl_100000, z_lt, z_le, z_eq, inB_z, z_div, Int.reduceToNat, Wp_some, Nx_l, Nx_r, cI_i, cV_v, cL_l, ite_t, ite_f, z_nn, toNat_c, bz_e0]
  · have hr : S_X4_readNumber (z 1) D = _ := s_readNumber hT hp hpn (m := 1) (by omega)
    rw [if_neg hx]
    by_cases hk : (numF n T 1 p).1 = true
    · rw [if_pos hk]
      rw [if_pos hk] at hr
      simp (disch := omega) only [z_add, z_sub, z_mul, z_neg, ite_T, ite_F, zl_0, zl_1, zl_2, zl_3, zl_4, zl_5, zl_6, zl_7, zl_8, zl_9, zl_10, zl_11, zl_12, zl_13, zl_14, zl_15, zl_16, zl_17, zl_18, zl_19, zl_20, zl_21, zl_22, zl_23, zl_24, zl_25, zl_26, zl_27, zl_28, zl_29, zl_30, zl_31, zl_32, zl_33, zl_34, zl_35, zl_36, zl_37, zl_38, zl_39, zl_40, zl_41, zl_42, zl_43, zl_44, zl_45, zl_46, zl_47, zl_48, zl_49, zl_50, zl_51, zl_52, zl_53, zl_54, zl_55, zl_56, zl_57, zl_58, zl_59, zl_60, zl_61, zl_62, zl_63, zl_64, zl_97, zl_99, zl_100, zl_126, zl_255, zl_434, zl_496, zl_1000000, zl_100000, z_lt, z_le, z_eq, inB_z, z_div, Int.reduceToNat, Wp_some, Nx_l, Nx_r, cI_i, cV_v, cL_l, ite_t, ite_f, z_nn, toNat_c, bz_e0, hr, s_inRange]
      rw [show ((i : Int) * 3 + j).toNat = 3 * i + j by omega]
      rfl
    · rw [if_neg hk]
      rw [if_neg hk] at hr
      simp (disch := omega) only [z_add, z_sub, z_mul, z_neg, ite_T, ite_F, zl_0, zl_1, zl_2, zl_3, zl_4, zl_5, zl_6, zl_7, zl_8, zl_9, zl_10, zl_11, zl_12, zl_13, zl_14, zl_15, zl_16, zl_17, zl_18, zl_19, zl_20, zl_21, zl_22, zl_23, zl_24, zl_25, zl_26, zl_27, zl_28, zl_29, zl_30, zl_31, zl_32, zl_33, zl_34, zl_35, zl_36, zl_37, zl_38, zl_39, zl_40, zl_41, zl_42, zl_43, zl_44, zl_45, zl_46, zl_47, zl_48, zl_49, zl_50, zl_51, zl_52, zl_53, zl_54, zl_55, zl_56, zl_57, zl_58, zl_59, zl_60, zl_61, zl_62, zl_63, zl_64, zl_97, zl_99, zl_100, zl_126, zl_255, zl_434, zl_496, zl_1000000, zl_100000, z_lt, z_le, z_eq, inB_z, z_div, Int.reduceToNat, Wp_some, Nx_l, Nx_r, cI_i, cV_v, cL_l, ite_t, ite_f, z_nn, toNat_c, bz_e0, hr, s_inRange]
theorem rc_4 (hT : TW D n T) (hp : D.1 130 = z p) (hpn : p ≤ n) {i j : Nat} (hi : i < 10) (hj : j ≤ 3) : b_X4_readCommand_5 (z i) (z j) D = if wnp 4 ≤ j then some (.inr (0, some (.int (z 1)), D)) else if (numF n T (wmg 4) p).1 = true then some (.inl (5, [z i, z ((j + 1 : Nat))], setA (setI D 130 (z (numF n T (wmg 4) p).2.2)) 66 (upd (D.2.2.1 66) (3 * i + j) (z (numF n T (wmg 4) p).2.1)))) else some (.inr (0, some (.int (z 0)), setI D 130 (z (numF n T (wmg 4) p).2.2))) := by
  have h1 : wnp 4 = 2 := rfl
  have h2 : wmg 4 = 1 := rfl
  obtain ⟨l1, l2, l3, l4⟩ := numF_le (T := T) (m := 1) hpn
  unfold b_X4_readCommand_5
  rw [h1, h2]
  by_cases hx : 2 ≤ j
  · rw [if_pos hx]
    simp (disch := omega) only [z_add, z_sub, z_mul, z_neg, ite_T, ite_F, zl_0, zl_1, zl_2, zl_3, zl_4, zl_5, zl_6, zl_7, zl_8, zl_9, zl_10, zl_11, zl_12, zl_13, zl_14, zl_15, zl_16, zl_17, zl_18, zl_19, zl_20, zl_21, zl_22, zl_23, zl_24, zl_25, zl_26, zl_27, zl_28, zl_29, zl_30, zl_31, zl_32, zl_33, zl_34, zl_35, zl_36, zl_37, zl_38, zl_39, zl_40, zl_41, zl_42, zl_43, zl_44, zl_45, zl_46, zl_47, zl_48, zl_49, zl_50, zl_51, zl_52, zl_53, zl_54, zl_55, zl_56, zl_57, zl_58, zl_59, zl_60, zl_61, zl_62, zl_63, zl_64, zl_97, zl_99, zl_100, zl_126, zl_255, zl_434, zl_496, zl_1000000, zl_100000, z_lt, z_le, z_eq, inB_z, z_div, Int.reduceToNat, Wp_some, Nx_l, Nx_r, cI_i, cV_v, cL_l, ite_t, ite_f, z_nn, toNat_c, bz_e0]
  · have hr : S_X4_readNumber (z 1) D = _ := s_readNumber hT hp hpn (m := 1) (by omega)
    rw [if_neg hx]
    by_cases hk : (numF n T 1 p).1 = true
    · rw [if_pos hk]
      rw [if_pos hk] at hr
      simp (disch := omega) only [z_add, z_sub, z_mul, z_neg, ite_T, ite_F, zl_0, zl_1, zl_2, zl_3, zl_4, zl_5, zl_6, zl_7, zl_8, zl_9, zl_10, zl_11, zl_12, zl_13, zl_14, zl_15, zl_16, zl_17, zl_18, zl_19, zl_20, zl_21, zl_22, zl_23, zl_24, zl_25, zl_26, zl_27, zl_28, zl_29, zl_30, zl_31, zl_32, zl_33, zl_34, zl_35, zl_36, zl_37, zl_38, zl_39, zl_40, zl_41, zl_42, zl_43, zl_44, zl_45, zl_46, zl_47, zl_48, zl_49, zl_50, zl_51, zl_52, zl_53, zl_54, zl_55, zl_56, zl_57, zl_58, zl_59, zl_60, zl_61, zl_62, zl_63, zl_64, zl_97, zl_99, zl_100, zl_126, zl_255, zl_434, zl_496, zl_1000000, zl_100000, z_lt, z_le, z_eq, inB_z, z_div, Int.reduceToNat, Wp_some, Nx_l, Nx_r, cI_i, cV_v, cL_l, ite_t, ite_f, z_nn, toNat_c, bz_e0, hr, s_inRange]
      rw [show ((i : Int) * 3 + j).toNat = 3 * i + j by omega]
      rfl
    · rw [if_neg hk]
      rw [if_neg hk] at hr
      simp (disch := omega) only [z_add, z_sub, z_mul, z_neg, ite_T, ite_F, zl_0, zl_1, zl_2, zl_3, zl_4, zl_5, zl_6, zl_7, zl_8, zl_9, zl_10, zl_11, zl_12, zl_13, zl_14, zl_15, zl_16, zl_17, zl_18, zl_19, zl_20, zl_21, zl_22, zl_23, zl_24, zl_25, zl_26, zl_27, zl_28, zl_29, zl_30, zl_31, zl_32, zl_33, zl_34, zl_35, zl_36, zl_37, zl_38, zl_39, zl_40, zl_41, zl_42, zl_43, zl_44, zl_45, zl_46, zl_47, zl_48, zl_49, zl_50, zl_51, zl_52, zl_53, zl_54, zl_55, zl_56, zl_57, zl_58, zl_59, zl_60, zl_61, zl_62, zl_63, zl_64, zl_97, zl_99, zl_100, zl_126, zl_255, zl_434, zl_496, zl_1000000, zl_100000, z_lt, z_le, z_eq, inB_z, z_div, Int.reduceToNat, Wp_some, Nx_l, Nx_r, cI_i, cV_v, cL_l, ite_t, ite_f, z_nn, toNat_c, bz_e0, hr, s_inRange]
theorem rc_5 (hT : TW D n T) (hp : D.1 130 = z p) (hpn : p ≤ n) {i j : Nat} (hi : i < 10) (hj : j ≤ 3) : b_X4_readCommand_6 (z i) (z j) D = if wnp 5 ≤ j then some (.inr (0, some (.int (z 1)), D)) else if (numF n T (wmg 5) p).1 = true then some (.inl (6, [z i, z ((j + 1 : Nat))], setA (setI D 130 (z (numF n T (wmg 5) p).2.2)) 66 (upd (D.2.2.1 66) (3 * i + j) (z (numF n T (wmg 5) p).2.1)))) else some (.inr (0, some (.int (z 0)), setI D 130 (z (numF n T (wmg 5) p).2.2))) := by
  have h1 : wnp 5 = 2 := rfl
  have h2 : wmg 5 = 2 := rfl
  obtain ⟨l1, l2, l3, l4⟩ := numF_le (T := T) (m := 2) hpn
  unfold b_X4_readCommand_6
  rw [h1, h2]
  by_cases hx : 2 ≤ j
  · rw [if_pos hx]
    simp (disch := omega) only [z_add, z_sub, z_mul, z_neg, ite_T, ite_F, zl_0, zl_1, zl_2, zl_3, zl_4, zl_5, zl_6, zl_7, zl_8, zl_9, zl_10, zl_11, zl_12, zl_13, zl_14, zl_15, zl_16, zl_17, zl_18, zl_19, zl_20, zl_21, zl_22, zl_23, zl_24, zl_25, zl_26, zl_27, zl_28, zl_29, zl_30, zl_31, zl_32, zl_33, zl_34, zl_35, zl_36, zl_37, zl_38, zl_39, zl_40, zl_41, zl_42, zl_43, zl_44, zl_45, zl_46, zl_47, zl_48, zl_49, zl_50, zl_51, zl_52, zl_53, zl_54, zl_55, zl_56, zl_57, zl_58, zl_59, zl_60, zl_61, zl_62, zl_63, zl_64, zl_97, zl_99, zl_100, zl_126, zl_255, zl_434, zl_496, zl_1000000, zl_100000, z_lt, z_le, z_eq, inB_z, z_div, Int.reduceToNat, Wp_some, Nx_l, Nx_r, cI_i, cV_v, cL_l, ite_t, ite_f, z_nn, toNat_c, bz_e0]
  · have hr : S_X4_readNumber (z 2) D = _ := s_readNumber hT hp hpn (m := 2) (by omega)
    rw [if_neg hx]
    by_cases hk : (numF n T 2 p).1 = true
    · rw [if_pos hk]
      rw [if_pos hk] at hr
      simp (disch := omega) only [z_add, z_sub, z_mul, z_neg, ite_T, ite_F, zl_0, zl_1, zl_2, zl_3, zl_4, zl_5, zl_6, zl_7, zl_8, zl_9, zl_10, zl_11, zl_12, zl_13, zl_14, zl_15, zl_16, zl_17, zl_18, zl_19, zl_20, zl_21, zl_22, zl_23, zl_24, zl_25, zl_26, zl_27, zl_28, zl_29, zl_30, zl_31, zl_32, zl_33, zl_34, zl_35, zl_36, zl_37, zl_38, zl_39, zl_40, zl_41, zl_42, zl_43, zl_44, zl_45, zl_46, zl_47, zl_48, zl_49, zl_50, zl_51, zl_52, zl_53, zl_54, zl_55, zl_56, zl_57, zl_58, zl_59, zl_60, zl_61, zl_62, zl_63, zl_64, zl_97, zl_99, zl_100, zl_126, zl_255, zl_434, zl_496, zl_1000000, zl_100000, z_lt, z_le, z_eq, inB_z, z_div, Int.reduceToNat, Wp_some, Nx_l, Nx_r, cI_i, cV_v, cL_l, ite_t, ite_f, z_nn, toNat_c, bz_e0, hr, s_inRange]
      rw [show ((i : Int) * 3 + j).toNat = 3 * i + j by omega]
      rfl
    · rw [if_neg hk]
      rw [if_neg hk] at hr
      simp (disch := omega) only [z_add, z_sub, z_mul, z_neg, ite_T, ite_F, zl_0, zl_1, zl_2, zl_3, zl_4, zl_5, zl_6, zl_7, zl_8, zl_9, zl_10, zl_11, zl_12, zl_13, zl_14, zl_15, zl_16, zl_17, zl_18, zl_19, zl_20, zl_21, zl_22, zl_23, zl_24, zl_25, zl_26, zl_27, zl_28, zl_29, zl_30, zl_31, zl_32, zl_33, zl_34, zl_35, zl_36, zl_37, zl_38, zl_39, zl_40, zl_41, zl_42, zl_43, zl_44, zl_45, zl_46, zl_47, zl_48, zl_49, zl_50, zl_51, zl_52, zl_53, zl_54, zl_55, zl_56, zl_57, zl_58, zl_59, zl_60, zl_61, zl_62, zl_63, zl_64, zl_97, zl_99, zl_100, zl_126, zl_255, zl_434, zl_496, zl_1000000, zl_100000, z_lt, z_le, z_eq, inB_z, z_div, Int.reduceToNat, Wp_some, Nx_l, Nx_r, cI_i, cV_v, cL_l, ite_t, ite_f, z_nn, toNat_c, bz_e0, hr, s_inRange]
theorem rc_6 (hT : TW D n T) (hp : D.1 130 = z p) (hpn : p ≤ n) {i j : Nat} (hi : i < 10) (hj : j ≤ 3) : b_X4_readCommand_7 (z i) (z j) D = if wnp 6 ≤ j then some (.inr (0, some (.int (z 1)), D)) else if (numF n T (wmg 6) p).1 = true then some (.inl (7, [z i, z ((j + 1 : Nat))], setA (setI D 130 (z (numF n T (wmg 6) p).2.2)) 66 (upd (D.2.2.1 66) (3 * i + j) (z (numF n T (wmg 6) p).2.1)))) else some (.inr (0, some (.int (z 0)), setI D 130 (z (numF n T (wmg 6) p).2.2))) := by
  have h1 : wnp 6 = 1 := rfl
  have h2 : wmg 6 = 2 := rfl
  obtain ⟨l1, l2, l3, l4⟩ := numF_le (T := T) (m := 2) hpn
  unfold b_X4_readCommand_7
  rw [h1, h2]
  by_cases hx : 1 ≤ j
  · rw [if_pos hx]
    simp (disch := omega) only [z_add, z_sub, z_mul, z_neg, ite_T, ite_F, zl_0, zl_1, zl_2, zl_3, zl_4, zl_5, zl_6, zl_7, zl_8, zl_9, zl_10, zl_11, zl_12, zl_13, zl_14, zl_15, zl_16, zl_17, zl_18, zl_19, zl_20, zl_21, zl_22, zl_23, zl_24, zl_25, zl_26, zl_27, zl_28, zl_29, zl_30, zl_31, zl_32, zl_33, zl_34, zl_35, zl_36, zl_37, zl_38, zl_39, zl_40, zl_41, zl_42, zl_43, zl_44, zl_45, zl_46, zl_47, zl_48, zl_49, zl_50, zl_51, zl_52, zl_53, zl_54, zl_55, zl_56, zl_57, zl_58, zl_59, zl_60, zl_61, zl_62, zl_63, zl_64, zl_97, zl_99, zl_100, zl_126, zl_255, zl_434, zl_496, zl_1000000, zl_100000, z_lt, z_le, z_eq, inB_z, z_div, Int.reduceToNat, Wp_some, Nx_l, Nx_r, cI_i, cV_v, cL_l, ite_t, ite_f, z_nn, toNat_c, bz_e0]
  · have hr : S_X4_readNumber (z 2) D = _ := s_readNumber hT hp hpn (m := 2) (by omega)
    rw [if_neg hx]
    by_cases hk : (numF n T 2 p).1 = true
    · rw [if_pos hk]
      rw [if_pos hk] at hr
      simp (disch := omega) only [z_add, z_sub, z_mul, z_neg, ite_T, ite_F, zl_0, zl_1, zl_2, zl_3, zl_4, zl_5, zl_6, zl_7, zl_8, zl_9, zl_10, zl_11, zl_12, zl_13, zl_14, zl_15, zl_16, zl_17, zl_18, zl_19, zl_20, zl_21, zl_22, zl_23, zl_24, zl_25, zl_26, zl_27, zl_28, zl_29, zl_30, zl_31, zl_32, zl_33, zl_34, zl_35, zl_36, zl_37, zl_38, zl_39, zl_40, zl_41, zl_42, zl_43, zl_44, zl_45, zl_46, zl_47, zl_48, zl_49, zl_50, zl_51, zl_52, zl_53, zl_54, zl_55, zl_56, zl_57, zl_58, zl_59, zl_60, zl_61, zl_62, zl_63, zl_64, zl_97, zl_99, zl_100, zl_126, zl_255, zl_434, zl_496, zl_1000000, zl_100000, z_lt, z_le, z_eq, inB_z, z_div, Int.reduceToNat, Wp_some, Nx_l, Nx_r, cI_i, cV_v, cL_l, ite_t, ite_f, z_nn, toNat_c, bz_e0, hr, s_inRange]
      rw [show ((i : Int) * 3 + j).toNat = 3 * i + j by omega]
      rfl
    · rw [if_neg hk]
      rw [if_neg hk] at hr
      simp (disch := omega) only [z_add, z_sub, z_mul, z_neg, ite_T, ite_F, zl_0, zl_1, zl_2, zl_3, zl_4, zl_5, zl_6, zl_7, zl_8, zl_9, zl_10, zl_11, zl_12, zl_13, zl_14, zl_15, zl_16, zl_17, zl_18, zl_19, zl_20, zl_21, zl_22, zl_23, zl_24, zl_25, zl_26, zl_27, zl_28, zl_29, zl_30, zl_31, zl_32, zl_33, zl_34, zl_35, zl_36, zl_37, zl_38, zl_39, zl_40, zl_41, zl_42, zl_43, zl_44, zl_45, zl_46, zl_47, zl_48, zl_49, zl_50, zl_51, zl_52, zl_53, zl_54, zl_55, zl_56, zl_57, zl_58, zl_59, zl_60, zl_61, zl_62, zl_63, zl_64, zl_97, zl_99, zl_100, zl_126, zl_255, zl_434, zl_496, zl_1000000, zl_100000, z_lt, z_le, z_eq, inB_z, z_div, Int.reduceToNat, Wp_some, Nx_l, Nx_r, cI_i, cV_v, cL_l, ite_t, ite_f, z_nn, toNat_c, bz_e0, hr, s_inRange]
theorem rc_step (hT : TW D n T) (hp : D.1 130 = z p) (hpn : p ≤ n) {i j w : Nat} (hw : w < 7) (hi : i < 10) (hj : j ≤ 3) : T_X4_readCommand (w + 1) [z i, z j] D = if wnp w ≤ j then some (.inr (0, some (.int (z 1)), D)) else if (numF n T (wmg w) p).1 = true then some (.inl (w + 1, [z i, z ((j + 1 : Nat))], setA (setI D 130 (z (numF n T (wmg w) p).2.2)) 66 (upd (D.2.2.1 66) (3 * i + j) (z (numF n T (wmg w) p).2.1)))) else some (.inr (0, some (.int (z 0)), setI D 130 (z (numF n T (wmg w) p).2.2))) := by
  have : w = 0 ∨ w = 1 ∨ w = 2 ∨ w = 3 ∨ w = 4 ∨ w = 5 ∨ w = 6 := by omega
  rcases this with rfl | rfl | rfl | rfl | rfl | rfl | rfl
  · exact rc_0 hT hp hpn hi hj
  · exact rc_1 hT hp hpn hi hj
  · exact rc_2 hT hp hpn hi hj
  · exact rc_3 hT hp hpn hi hj
  · exact rc_4 hT hp hpn hi hj
  · exact rc_5 hT hp hpn hi hj
  · exact rc_6 hT hp hpn hi hj
theorem s_readCommand (hT : TW D n T) (hp : D.1 130 = z p) (hpn : p ≤ n) {i : Nat} (hi : i < 10) : ∃ D', FP' D D' ∧ D'.1 131 = D.1 131 ∧ (∀ k, k < 3 * i → D'.2.2.1 66 k = D.2.2.1 66 k) ∧ (∀ k, k < i → D'.2.2.2.2.2 k = D.2.2.2.2.2 k) ∧ ((S_X4_readCommand (z i) D = some (0, some (.int (z 0)), D') ∧ ∃ q, CF n T p q ∧ q ≤ n ∧ D'.1 130 = z q) ∨ (S_X4_readCommand (z i) D = some (0, some (.int (z 1)), D') ∧ ∃ g : CG, Gd n T g ∧ g.2.2.2.2.1 = p ∧ D'.1 130 = z g.2.2.2.2.2 ∧ D'.2.2.2.2.2 i = some (1000 + g.1) ∧ D'.2.2.1 66 (3 * i) = z g.2.1 ∧ (2 ≤ wnp g.1 → D'.2.2.1 66 (3 * i + 1) = z g.2.2.1) ∧ (wnp g.1 = 3 → D'.2.2.1 66 (3 * i + 2) = z g.2.2.2.1))) := by
  have h60 := hT.2.1
  have key : ∃ r, run T_X4_readCommand FUEL 0 [z i] D = some r ∧ ∃ D', FP' D D' ∧ D'.1 131 = D.1 131 ∧ (∀ k, k < 3 * i → D'.2.2.1 66 k = D.2.2.1 66 k) ∧ (∀ k, k < i → D'.2.2.2.2.2 k = D.2.2.2.2.2 k) ∧ ((r = (0, some (.int (z 0)), D') ∧ ∃ q, CF n T p q ∧ q ≤ n ∧ D'.1 130 = z q) ∨ (r = (0, some (.int (z 1)), D') ∧ ∃ g : CG, Gd n T g ∧ g.2.2.2.2.1 = p ∧ D'.1 130 = z g.2.2.2.2.2 ∧ D'.2.2.2.2.2 i = some (1000 + g.1) ∧ D'.2.2.1 66 (3 * i) = z g.2.1 ∧ (2 ≤ wnp g.1 → D'.2.2.1 66 (3 * i + 1) = z g.2.2.1) ∧ (wnp g.1 = 3 → D'.2.2.1 66 (3 * i + 2) = z g.2.2.2.1))) := by
    refine RunP.fin (c := 10) ?_ (by decide)
    refine RunP.go ?_
    show Wp (b_X4_readCommand_0 _ _) _
    rcases s_readWord hT hp hpn with ⟨w, hw, hr⟩ | ⟨m, hm, hr⟩
    · have hw7 := hw.1
      have hle := hw.le
      obtain ⟨hn3, hm2, -, -, hl6⟩ := wnp_3 w hw7
      have e0 : b_X4_readCommand_0 (z i) D = some (.inl (w + 1, [z i, z 0], setC (setI D 130 (z ((p + wlen w : Nat)))) (va_up D.2.2.2.2.2 i (some (1000 + w))))) := by
        unfold b_X4_readCommand_0
        rw [hr, cR_r]
        have e10 : ∀ D' : DD, S_X12_inRange (z i) (0 : Int32) (9 : Int32) D' = some (0, some (.int (z 1)), D') := fun D' => by
          rw [show (0 : Int32) = z 0 from rfl, show (9 : Int32) = z 9 from rfl, s_inRange (by omega) (by omega) (by omega) (by omega) (by omega) (by omega), bz_t (by omega)]
        have e11 : inB (z i) 10 = true := by rw [inB_z (by omega) (by omega)]; omega
        have e12 : (z i).toNatClampNeg = i := by rw [z_nn (by omega) (by omega)]; rfl
        simp only [e10, cI_i, e11, e12, if_true]
        have : w = 0 ∨ w = 1 ∨ w = 2 ∨ w = 3 ∨ w = 4 ∨ w = 5 ∨ w = 6 := by omega
        rcases this with rfl | rfl | rfl | rfl | rfl | rfl | rfl <;> rfl
      rw [e0, Wp_some, Nx_l]
      obtain ⟨D1, hD1⟩ : ∃ D1, D1 = setC (setI D 130 (z ((p + wlen w : Nat)))) (va_up D.2.2.2.2.2 i (some (1000 + w))) := ⟨_, rfl⟩
      rw [← hD1]
      have f1 : FP' D D1 := by rw [hD1]; exact (FG.rfl.sI rfl).sC
      have t1 : TW D1 n T := by rw [hD1]; exact hT
      have p1 : D1.1 130 = z ((p + wlen w : Nat)) := by rw [hD1]; rfl
      have c1 : D1.1 131 = D.1 131 := by rw [hD1]; rfl
      have r1 : D1.2.2.1 66 = D.2.2.1 66 := by rw [hD1]; rfl
      have k1 : ∀ k, D1.2.2.2.2.2 k = if k = i then some (1000 + w) else D.2.2.2.2.2 k := fun k => by rw [hD1]; rfl
      have kl : ∀ k, k < i → D1.2.2.2.2.2 k = D.2.2.2.2.2 k := fun k hk => by rw [k1, if_neg (by omega)]
      have ki : D1.2.2.2.2.2 i = some (1000 + w) := by rw [k1, if_pos rfl]
      obtain ⟨a1, a2, a3, a4⟩ := numF_le (T := T) (m := wmg w) hle
      refine RunP.mono (c := 7 + 1) ?_ (by omega)
      refine RunP.go ?_
      have s0 := rc_step (i := i) (j := 0) t1 p1 hle hw7 hi (by omega)
      rw [show z ((0 : Nat) : Int) = z 0 from rfl, if_neg (by omega)] at s0
      rw [s0]
      by_cases h1 : (numF n T (wmg w) (p + wlen w)).1 = true
      · rw [if_pos h1, Wp_some, Nx_l]
        obtain ⟨D2, hD2⟩ : ∃ D2, D2 = setA (setI D1 130 (z (numF n T (wmg w) (p + wlen w)).2.2)) 66 (upd (D1.2.2.1 66) (3 * i + 0) (z (numF n T (wmg w) (p + wlen w)).2.1)) := ⟨_, rfl⟩
        rw [← hD2]
        have f2 : FP' D D2 := by rw [hD2]; exact (f1.sI rfl).sA rfl
        have t2 : TW D2 n T := by rw [hD2]; exact t1
        have p2 : D2.1 130 = z (numF n T (wmg w) (p + wlen w)).2.2 := by rw [hD2]; rfl
        have c2 : D2.1 131 = D.1 131 := by rw [hD2]; exact c1
        have r2 : D2.2.2.1 66 = upd (D.2.2.1 66) (3 * i + 0) (z (numF n T (wmg w) (p + wlen w)).2.1) := by rw [hD2, setA_same, r1]
        have kk2 : D2.2.2.2.2.2 = D1.2.2.2.2.2 := by rw [hD2]; rfl
        have r2l : ∀ k, k < 3 * i → D2.2.2.1 66 k = D.2.2.1 66 k := fun k hk => by rw [r2, upd_ne _ _ (by omega)]
        have r2a : D2.2.2.1 66 (3 * i) = z (numF n T (wmg w) (p + wlen w)).2.1 := by rw [r2]; exact upd_same _ _ _
        obtain ⟨b1, b2, b3, b4⟩ := numF_le (T := T) (m := wmg w) a1
        refine RunP.mono (c := 6 + 1) ?_ (by omega)
        refine RunP.go ?_
        rw [rc_step (i := i) (j := 0 + 1) t2 p2 a1 hw7 hi (by omega)]
        by_cases n1 : wnp w = 1
        · rw [if_pos (by omega), Wp_some, Nx_r]
          refine ⟨D2, f2, c2, r2l, fun k hk => by rw [kk2]; exact kl k hk, Or.inr ⟨rfl, (w, (numF n T (wmg w) (p + wlen w)).2.1, 0, 0, p, (numF n T (wmg w) (p + wlen w)).2.2), ⟨hw, ?_⟩, rfl, p2, by rw [kk2]; exact ki, r2a, fun q => ?_, fun q => ?_⟩⟩
          · unfold parF
            dsimp only
            rw [if_pos h1, if_pos n1]
          · dsimp only at q
            omega
          · dsimp only at q
            omega
        rw [if_neg (by omega)]
        by_cases h2 : (numF n T (wmg w) (numF n T (wmg w) (p + wlen w)).2.2).1 = true
        · rw [if_pos h2, Wp_some, Nx_l]
          obtain ⟨D3, hD3⟩ : ∃ D3, D3 = setA (setI D2 130 (z (numF n T (wmg w) (numF n T (wmg w) (p + wlen w)).2.2).2.2)) 66 (upd (D2.2.2.1 66) (3 * i + (0 + 1)) (z (numF n T (wmg w) (numF n T (wmg w) (p + wlen w)).2.2).2.1)) := ⟨_, rfl⟩
          rw [← hD3]
          have f3 : FP' D D3 := by rw [hD3]; exact (f2.sI rfl).sA rfl
          have t3 : TW D3 n T := by rw [hD3]; exact t2
          have p3 : D3.1 130 = z (numF n T (wmg w) (numF n T (wmg w) (p + wlen w)).2.2).2.2 := by rw [hD3]; rfl
          have c3 : D3.1 131 = D.1 131 := by rw [hD3]; exact c2
          have r3 : D3.2.2.1 66 = upd (D2.2.2.1 66) (3 * i + (0 + 1)) (z (numF n T (wmg w) (numF n T (wmg w) (p + wlen w)).2.2).2.1) := by rw [hD3, setA_same]
          have kk3 : D3.2.2.2.2.2 = D1.2.2.2.2.2 := by rw [hD3]; exact kk2
          have r3l : ∀ k, k < 3 * i → D3.2.2.1 66 k = D.2.2.1 66 k := fun k hk => by rw [r3, upd_ne _ _ (by omega)]; exact r2l k hk
          have r3a : D3.2.2.1 66 (3 * i) = z (numF n T (wmg w) (p + wlen w)).2.1 := by rw [r3, upd_ne _ _ (by omega)]; exact r2a
          have r3b : D3.2.2.1 66 (3 * i + 1) = z (numF n T (wmg w) (numF n T (wmg w) (p + wlen w)).2.2).2.1 := by rw [r3]; exact upd_same _ _ _
          obtain ⟨d1, d2, d3, d4⟩ := numF_le (T := T) (m := wmg w) b1
          refine RunP.mono (c := 5 + 1) ?_ (by omega)
          refine RunP.go ?_
          rw [rc_step (i := i) (j := 0 + 1 + 1) t3 p3 b1 hw7 hi (by omega)]
          by_cases n2 : wnp w = 2
          · rw [if_pos (by omega), Wp_some, Nx_r]
            refine ⟨D3, f3, c3, r3l, fun k hk => by rw [kk3]; exact kl k hk, Or.inr ⟨rfl, (w, (numF n T (wmg w) (p + wlen w)).2.1, (numF n T (wmg w) (numF n T (wmg w) (p + wlen w)).2.2).2.1, 0, p, (numF n T (wmg w) (numF n T (wmg w) (p + wlen w)).2.2).2.2), ⟨hw, ?_⟩, rfl, p3, by rw [kk3]; exact ki, r3a, fun q => r3b, fun q => ?_⟩⟩
            · unfold parF
              dsimp only
              rw [if_pos h1, if_neg n1, if_pos h2, if_pos n2]
            · dsimp only at q
              omega
          rw [if_neg (by omega)]
          by_cases h3 : (numF n T (wmg w) (numF n T (wmg w) (numF n T (wmg w) (p + wlen w)).2.2).2.2).1 = true
          · rw [if_pos h3, Wp_some, Nx_l]
            obtain ⟨D4, hD4⟩ : ∃ D4, D4 = setA (setI D3 130 (z (numF n T (wmg w) (numF n T (wmg w) (numF n T (wmg w) (p + wlen w)).2.2).2.2).2.2)) 66 (upd (D3.2.2.1 66) (3 * i + (0 + 1 + 1)) (z (numF n T (wmg w) (numF n T (wmg w) (numF n T (wmg w) (p + wlen w)).2.2).2.2).2.1)) := ⟨_, rfl⟩
            rw [← hD4]
            have f4 : FP' D D4 := by rw [hD4]; exact (f3.sI rfl).sA rfl
            have t4 : TW D4 n T := by rw [hD4]; exact t3
            have p4 : D4.1 130 = z (numF n T (wmg w) (numF n T (wmg w) (numF n T (wmg w) (p + wlen w)).2.2).2.2).2.2 := by rw [hD4]; rfl
            have c4 : D4.1 131 = D.1 131 := by rw [hD4]; exact c3
            have r4 : D4.2.2.1 66 = upd (D3.2.2.1 66) (3 * i + (0 + 1 + 1)) (z (numF n T (wmg w) (numF n T (wmg w) (numF n T (wmg w) (p + wlen w)).2.2).2.2).2.1) := by rw [hD4, setA_same]
            have kk4 : D4.2.2.2.2.2 = D1.2.2.2.2.2 := by rw [hD4]; exact kk3
            refine RunP.mono (c := 4 + 1) ?_ (by omega)
            refine RunP.go ?_
            rw [rc_step (i := i) (j := 0 + 1 + 1 + 1) t4 p4 d1 hw7 hi (by omega), if_pos (by omega), Wp_some, Nx_r]
            refine ⟨D4, f4, c4, fun k hk => by rw [r4, upd_ne _ _ (by omega)]; exact r3l k hk, fun k hk => by rw [kk4]; exact kl k hk, Or.inr ⟨rfl, (w, (numF n T (wmg w) (p + wlen w)).2.1, (numF n T (wmg w) (numF n T (wmg w) (p + wlen w)).2.2).2.1, (numF n T (wmg w) (numF n T (wmg w) (numF n T (wmg w) (p + wlen w)).2.2).2.2).2.1, p, (numF n T (wmg w) (numF n T (wmg w) (numF n T (wmg w) (p + wlen w)).2.2).2.2).2.2), ⟨hw, ?_⟩, rfl, p4, by rw [kk4]; exact ki, by rw [r4, upd_ne _ _ (by omega)]; exact r3a, fun q => by rw [r4, upd_ne _ _ (by omega)]; exact r3b, fun q => by rw [r4]; exact upd_same _ _ _⟩⟩
            unfold parF
            dsimp only
            rw [if_pos h1, if_neg n1, if_pos h2, if_neg n2, if_pos h3]
          · rw [if_neg h3, Wp_some, Nx_r]
            refine ⟨setI D3 130 (z (numF n T (wmg w) (numF n T (wmg w) (numF n T (wmg w) (p + wlen w)).2.2).2.2).2.2), f3.sI rfl, c3, r3l, fun k hk => by show D3.2.2.2.2.2 k = _; rw [kk3]; exact kl k hk, Or.inl ⟨rfl, _, Or.inr ⟨w, hw, ?_, rfl⟩, ?_, ?_⟩⟩
            · unfold parF
              rw [if_pos h1, if_neg n1, if_pos h2, if_neg n2, if_neg h3]
            · exact (parF_le hw7 hle).1
            · rw [setI_same]
              unfold parF
              rw [if_pos h1, if_neg n1, if_pos h2, if_neg n2, if_neg h3]
        · rw [if_neg h2, Wp_some, Nx_r]
          refine ⟨setI D2 130 (z (numF n T (wmg w) (numF n T (wmg w) (p + wlen w)).2.2).2.2), f2.sI rfl, c2, r2l, fun k hk => by show D2.2.2.2.2.2 k = _; rw [kk2]; exact kl k hk, Or.inl ⟨rfl, _, Or.inr ⟨w, hw, ?_, rfl⟩, ?_, ?_⟩⟩
          · unfold parF
            rw [if_pos h1, if_neg n1, if_neg h2]
          · exact (parF_le hw7 hle).1
          · rw [setI_same]
            unfold parF
            rw [if_pos h1, if_neg n1, if_neg h2]
      · rw [if_neg h1, Wp_some, Nx_r]
        refine ⟨setI D1 130 (z (numF n T (wmg w) (p + wlen w)).2.2), f1.sI rfl, c1, fun k hk => by show D1.2.2.1 66 k = _; rw [r1], kl, Or.inl ⟨rfl, _, Or.inr ⟨w, hw, ?_, rfl⟩, ?_, ?_⟩⟩
        · unfold parF
          rw [if_neg h1]
        · exact (parF_le hw7 hle).1
        · rw [setI_same]
          unfold parF
          rw [if_neg h1]
    · have e0 : b_X4_readCommand_0 (z i) D = some (.inr (0, some (.int (z 0)), setI D 130 (z ((p + m : Nat))))) := by
        unfold b_X4_readCommand_0
        rw [hr, cR_n]
        rfl
      rw [e0, Wp_some, Nx_r]
      refine ⟨_, FG.rfl.sI rfl, rfl, fun _ _ => rfl, fun _ _ => rfl, Or.inl ⟨rfl, p + m, Or.inl ⟨m, hm, rfl⟩, ?_, setI_same _ _ _⟩⟩
      obtain ⟨⟨w, a1, a2, a3⟩, -⟩ := hm
      by_cases h0 : m = 0
      · omega
      · have := a3 (m - 1) (by omega)
        unfold Mt at this
        have := sg_pos (n := n) (T := T) (i := p + (m - 1)) (by omega)
        omega
  obtain ⟨r, h1, D', g1, g2, g3, g4, h2⟩ := key
  refine ⟨D', g1, g2, g3, g4, ?_⟩
  rcases h2 with ⟨rfl, h2⟩ | ⟨rfl, h2⟩
  · exact Or.inl ⟨h1, h2⟩
  · exact Or.inr ⟨h1, h2⟩
theorem Gd.len {g : CG} (h : Gd n T g) : g.2.2.2.2.1 + 6 ≤ g.2.2.2.2.2 ∧ g.2.2.2.2.2 ≤ n ∧ g.1 < 7 ∧ g.2.1 ≤ 99 ∧ g.2.2.1 ≤ 99 ∧ g.2.2.2.1 ≤ 99 := by
  obtain ⟨h1, h2⟩ := h
  have h3 := h1.le
  obtain ⟨a1, a2, a3, a4, a5, a6⟩ := parF_le (T := T) h1.1 h3
  have h4 := (wnp_3 g.1 h1.1).2.2.1
  rw [h2] at a1 a2 a3 a4 a5 a6
  dsimp only at a1 a2 a3 a4 a5 a6
  have := a6 rfl
  exact ⟨by omega, a1, h1.1, a3, a4, a5⟩
/-- what parsing gives: K commands; or an error at e -/
def PErr (n : Nat) (T : Nat → Nat) (K : Nat) (G : Nat → CG) (e : Nat) : Prop := (0 < K ∧ (G (K - 1)).2.2.2.2.2 ≠ n ∧ sg n T (G (K - 1)).2.2.2.2.2 ≠ 59 ∧ e = (G (K - 1)).2.2.2.2.2) ∨ ∃ p, Nxt n T K G p ∧ p ≤ n ∧ CF n T p e
theorem s_parse (hT : TW D n T) : ∃ (D' : DD) (K : Nat) (G : Nat → CG), FP' D D' ∧ GP n T K G ∧ ((S_X4_parse D = some (0, some (.int (z (-1))), D') ∧ 0 < K ∧ K ≤ 10 ∧ (G (K - 1)).2.2.2.2.2 = n ∧ D'.1 131 = z K ∧ Sto D' K G) ∨ ∃ e, e ≤ n ∧ K ≤ 10 ∧ S_X4_parse D = some (0, some (.int (z e)), D') ∧ PErr n T K G e) := by
  have h60 := hT.2.1
  have key : ∃ r, run T_X4_parse FUEL 0 [] D = some r ∧ ∃ (D' : DD) (K : Nat) (G : Nat → CG), FP' D D' ∧ GP n T K G ∧ ((r = (0, some (.int (z (-1))), D') ∧ 0 < K ∧ K ≤ 10 ∧ (G (K - 1)).2.2.2.2.2 = n ∧ D'.1 131 = z K ∧ Sto D' K G) ∨ ∃ e, e ≤ n ∧ K ≤ 10 ∧ r = (0, some (.int (z e)), D') ∧ PErr n T K G e) := by
    refine RunP.fin (c := 20) ?_ (by decide)
    refine RunP.go ?_
    show Wp (b_X4_parse_0 _) _
    unfold b_X4_parse_0
    rw [Wp_some, Nx_l]
    refine RunP.loop (fun i ls D' => ls = [z i] ∧ FP' D D' ∧ TW D' n T ∧ D'.1 131 = z i ∧ ∃ (G : Nat → CG) (p : Nat), GP n T i G ∧ Nxt n T i G p ∧ D'.1 130 = z p ∧ 7 * i ≤ p ∧ p ≤ n ∧ Sto D' i G) 10 1 1 ?_ ?_ 0 _ _ (by omega) ⟨rfl, (FG.rfl.sI rfl).sI rfl, hT, setI_same _ _ _, fun _ => (0, 0, 0, 0, 0, 0), 0, fun i h => by omega, Or.inl ⟨rfl, rfl⟩, rfl, by omega, by omega, fun i h => by omega⟩ (by omega)
    · rintro i ls D' c hi ⟨rfl, hf, hT', h131, G, p, hG, hN, h130, h7, hpn, hS⟩ hk
      refine RunP.go ?_
      show Wp (b_X4_parse_1 _ _) _
      unfold b_X4_parse_1
      rw [show (10 : Int32) = z 10 from rfl, if_neg (by rw [z_le (by omega) (by omega) (by omega) (by omega)]; omega)]
      obtain ⟨D2, f2, c2, r2, k2, hres⟩ := s_readCommand hT' h130 hpn hi
      have hT2 : TW D2 n T := ⟨by rw [f2.1 129 rfl]; exact hT'.1, h60, fun j hj => by rw [f2.2.2.1 65 rfl]; exact hT'.2.2.1 j hj, hT.2.2.2⟩
      rcases hres with ⟨q1, e, hCF, hen, h130'⟩ | ⟨q1, g, hg, hgp, h130', ki, ra, rb, rc⟩
      · rw [q1, cI_i, if_pos (by decide), h130', Wp_some, Nx_r]
        exact ⟨D2, i, G, hf.trans f2, hG, Or.inr ⟨e, hen, by omega, rfl, Or.inr ⟨p, hN, hpn, hCF⟩⟩⟩
      · obtain ⟨l1, l2, l3, -, -, -⟩ := hg.len
        rw [q1, cI_i, if_neg (by decide), h130', hT2.1, c2, h131, show (1 : Int32) = z 1 from rfl, z_add]
        have hG' : GP n T (i + 1) (fun j => if j = i then g else G j) := by
          intro j hj
          have hN' : ∀ j p, j ≤ i → Nxt n T j G p → Nxt n T j (fun j => if j = i then g else G j) p := by
            intro j p hj h
            unfold Nxt at h ⊢
            rcases h with h | ⟨h, h2, h3⟩
            · exact Or.inl h
            · refine Or.inr ⟨h, ?_, ?_⟩
              · show sg n T (if j - 1 = i then g else G (j - 1)).2.2.2.2.2 = 59
                rw [if_neg (by omega)]
                exact h2
              · show p = (if j - 1 = i then g else G (j - 1)).2.2.2.2.2 + 1
                rw [if_neg (by omega)]
                exact h3
          by_cases e : j = i
          · show Gd n T (if j = i then g else G j) ∧ Nxt n T j _ (if j = i then g else G j).2.2.2.2.1
            rw [if_pos e, hgp, e]
            exact ⟨hg, hN' i p (Nat.le_refl _) hN⟩
          · show Gd n T (if j = i then g else G j) ∧ Nxt n T j _ (if j = i then g else G j).2.2.2.2.1
            rw [if_neg e]
            obtain ⟨x1, x2⟩ := hG j (by omega)
            exact ⟨x1, hN' j _ (by omega) x2⟩
        have hS' : ∀ D3 : DD, D3.2.2.1 66 = D2.2.2.1 66 → D3.2.2.2.2.2 = D2.2.2.2.2.2 → Sto D3 (i + 1) (fun j => if j = i then g else G j) := by
          intro D3 y1 y2 j hj
          show D3.2.2.2.2.2 j = some (1000 + (if j = i then g else G j).1) ∧ D3.2.2.1 66 (3 * j) = z (if j = i then g else G j).2.1 ∧ (2 ≤ wnp (if j = i then g else G j).1 → D3.2.2.1 66 (3 * j + 1) = z (if j = i then g else G j).2.2.1) ∧ (wnp (if j = i then g else G j).1 = 3 → D3.2.2.1 66 (3 * j + 2) = z (if j = i then g else G j).2.2.2.1)
          rw [y1, y2]
          by_cases e : j = i
          · rw [if_pos e, e]
            exact ⟨ki, ra, rb, rc⟩
          · rw [if_neg e, k2 j (by omega), r2 (3 * j) (by omega), r2 (3 * j + 1) (by omega), r2 (3 * j + 2) (by omega)]
            exact hS j (by omega)
        have hl2 : (if i + 1 - 1 = i then g else G (i + 1 - 1)) = g := if_pos (by omega)
        by_cases hq : g.2.2.2.2.2 = n
        · rw [if_pos (by rw [hq]), Wp_some, Nx_r]
          refine ⟨_, i + 1, _, (hf.trans f2).sI rfl, hG', Or.inl ⟨rfl, by omega, by omega, by simp only [hl2]; exact hq, ?_, hS' _ rfl rfl⟩⟩
          rw [setI_same]
          rfl
        · rw [if_neg (by rw [z_eq (by omega) (by omega) (by omega) (by omega)]; omega), show (59 : Int32) = z ((59 : Nat) : Int) from rfl, s_nextIs (D := setI D2 131 (z ((i : Int) + 1))) (p := g.2.2.2.2.2) hT2 h130' (by omega) (by omega), cI_i]
          by_cases h59 : sg n T g.2.2.2.2.2 = ((59 : Nat) : Int)
          · have hlt := sg_pos (n := n) (T := T) (i := g.2.2.2.2.2) (by omega)
            have e130 : (setI D2 131 (z ((i : Int) + 1))).1 130 = z g.2.2.2.2.2 := h130'
            rw [bz_t h59, if_neg (by decide), e130, z_add, Wp_some, Nx_l]
            refine hk _ _ ⟨rfl, ((hf.trans f2).sI rfl).sI rfl, hT2, ?_, _, g.2.2.2.2.2 + 1, hG', Or.inr ⟨by omega, by simp only [hl2]; exact h59, by simp only [hl2]⟩, ?_, by omega, by omega, hS' _ rfl rfl⟩
            · show (setI D2 131 (z ((i : Int) + 1))).1 131 = _
              rw [setI_same]
              rfl
            · rw [setI_same]
              rfl
          · have e130 : (setI D2 131 (z ((i : Int) + 1))).1 130 = z g.2.2.2.2.2 := h130'
            rw [bz_f h59, if_pos (by decide), e130, Wp_some, Nx_r]
            exact ⟨_, i + 1, _, (hf.trans f2).sI rfl, hG', Or.inr ⟨_, l2, by omega, rfl, Or.inl ⟨by omega, by simp only [hl2]; exact hq, by simp only [hl2]; exact h59, by simp only [hl2]⟩⟩⟩
    · rintro ls D' ⟨rfl, hf, hT', h131, G, p, hG, hN, h130, h7, hpn, hS⟩
      omega
  obtain ⟨r, h1, D', K, G, g1, g2, h2⟩ := key
  refine ⟨D', K, G, g1, g2, ?_⟩
  rcases h2 with ⟨rfl, h2⟩ | ⟨e, h3, h4, rfl, h2⟩
  · exact Or.inl ⟨h1, h2⟩
  · exact Or.inr ⟨e, h3, h4, h1, h2⟩
end LL
