/-! pure: chains, the reference's side -/
def pc6 (m : Nat) : Nat := cnt (fun b => m.testBit b) 6
theorem pc6_dec : ∀ m, m < 64 → m ≠ 0 → pc6 (m &&& (m - 1)) + 1 = pc6 m ∧ m &&& (m - 1) < 64 ∧ z (m : Nat) &&& (z (m : Nat) - z 1) = z ((m &&& (m - 1) : Nat)) := by decide +kernel
theorem pc6_0 : ∀ m, m < 64 → pc6 m = 0 → m = 0 := by decide +kernel
theorem bits_inj : ∀ {m k : Nat}, m < 64 → k < 64 → (∀ b, b < 6 → m.testBit b = k.testBit b) → m = k := by
  intro m k hm hk h
  apply Nat.eq_of_testBit_eq
  intro b
  by_cases hb : b < 6
  · exact h b hb
  · have h2 : 64 ≤ 2 ^ b := Nat.pow_le_pow_right (n := 2) (i := 6) (by omega) (by omega)
    rw [Nat.testBit_lt_two_pow (by omega), Nat.testBit_lt_two_pow (by omega)]
theorem or_bit (m o b : Nat) : (m ||| 2 ^ o).testBit b = (m.testBit b || decide (o = b)) := by rw [Nat.testBit_or, Nat.testBit_two_pow]
section LL
variable {D : DD} {v : Nat → Nat}
theorem m_opB (hM : MR D v) (hW : WF v) {n c : Nat} (hn : n < v 3) (hc : c < 36) : S_X13_opens (z n) (z c) D = some (0, some (.int (z (zb (opB v n c)))), D) := by
  rw [m_opens hM hW hn hc]
  refine zcong ?_
  unfold opB zb bz
  rw [dist_comm (v (40 + 2 * n)) c]
  by_cases h : 0 < v (4 + c) ∧ v (4 + c) + dist c (v (40 + 2 * n)) ≤ v (41 + 2 * n)
  · rw [if_pos (by omega), if_pos (by simpa using h)]
  · rw [if_neg (by omega), if_neg (by simpa using h)]
theorem m_count {m : Nat} (hm : m < 64) : S_X13_count (z m) D = some (0, some (.int (z (pc6 m))), D) := by
  unfold S_X13_count
  have hle : pc6 m ≤ 6 := cnt_le _ _
  refine RunP.eqn (c := 100) ?_ (by decide)
  refine RunP.go ?_
  show Wp (b_X13_count_0 _ _) _
  unfold b_X13_count_0
  simp only [Int.reduceToNat, Wp_some, Nx_l, Nx_r, cI_i, cV_v, cL_l, ite_t, ite_f, z_nn, toNat_c, bz_e0, z_add, z_sub, z_mul, z_neg, ite_T, ite_F, zl_0, zl_1, zl_2, zl_3, zl_4, zl_5, zl_6, zl_7, zl_8, zl_9, zl_10, zl_11, zl_12, zl_13, zl_14, zl_15, zl_16, zl_17, zl_18, zl_19, zl_20, zl_21, zl_22, zl_23, zl_24, zl_25, zl_26, zl_27, zl_28, zl_29, zl_30, zl_31, zl_32, zl_33, zl_34, zl_35, zl_36, zl_37, zl_38, zl_39, zl_40, zl_41, zl_42, zl_43, zl_44, zl_45, zl_46, zl_47, zl_48, zl_49, zl_50, zl_51, zl_52, zl_53, zl_54, zl_55, zl_56, zl_57, zl_58, zl_59, zl_60, zl_61, zl_62, zl_63, zl_64, zl_97, zl_99, zl_100, zl_126, zl_255, zl_434, zl_496, zl_1000000, zl_100000]
  refine RunP.loop (fun i ls D' => D' = D ∧ ∃ k : Nat, k < 64 ∧ ls = [z i, z k] ∧ i + pc6 k = pc6 m) (pc6 m) 1 1 ?_ ?_ 0 _ _ (by omega) ⟨rfl, m, hm, rfl, by omega⟩ (by omega)
  · rintro i ls D' c hi ⟨rfl, k, hk, rfl, e⟩ hkk
    have h0 : k ≠ 0 := fun h => by
      subst h
      have : pc6 0 = 0 := by decide
      omega
    obtain ⟨p1, p2, p3⟩ := pc6_dec k hk h0
    refine RunP.go ?_
    show Wp (b_X13_count_1 _ _ _) _
    unfold b_X13_count_1
    have hz : ¬ z (k : Nat) = z 0 := by
      rw [z_eq (by omega) (by omega) (by omega) (by omega)]
      omega
    rw [zl_0, if_neg hz, zl_1, p3, z_add, Wp_some, Nx_l]
    exact hkk _ _ ⟨rfl, _, p2, rfl, by omega⟩
  · rintro ls D' ⟨rfl, k, hk, rfl, e⟩
    have h0 := pc6_0 k hk (by omega)
    subst h0
    refine RunP.go ?_
    show Wp (b_X13_count_1 _ _ _) _
    unfold b_X13_count_1
    rw [zl_0, if_pos (show z ((0 : Nat) : Int) = z 0 from rfl), Wp_some, Nx_r]
theorem m_chain (hM : MR D v) (hW : WF v) {n : Nat} (hn : n < v 3) : ∃ m, m < 64 ∧ S_X13_chain (z n) D = some (0, some (.int (z (m : Nat))), D) ∧ ∀ b, b < 6 → m.testBit b = chB v n b := by
  have h6 := hW.2.1
  have h3 := hM 3 (by omega)
  have key : ∃ r, run T_X13_chain FUEL 0 [z n] D = some r ∧ ∃ m, m < 64 ∧ r = (0, some (.int (z (m : Nat))), D) ∧ ∀ b, b < 6 → m.testBit b = chB v n b := by
    refine RunP.fin (c := 1000 * 8 + 2) ?_ (by decide)
    refine RunP.go ?_
    show Wp (b_X13_chain_0 _ _) _
    unfold b_X13_chain_0
    rw [zl_1, zl_31, bit_one n (by omega), zl_0, Wp_some, Nx_l]
    have fin : ∀ (m : Nat), m < 64 → m.testBit n = true → (∀ b, m.testBit b = true → b < v 3 ∧ Ch v n b) → (∀ a b, a < v 3 → b < v 3 → m.testBit a = true → opB v a (v (40 + 2 * b)) = true → m.testBit b = true) → ∃ m', m' < 64 ∧ ((0, some (.int (z (m : Nat))), D) : RT) = (0, some (.int (z (m' : Nat))), D) ∧ ∀ b, b < 6 → m'.testBit b = chB v n b := by
      intro m hm h1 h2 h3
      refine ⟨m, hm, rfl, fun b hb => bool_iff ⟨fun h => chB_iff.mpr (h2 b h), fun h => ?_⟩⟩
      obtain ⟨g1, g2⟩ := chB_iff.mp h
      exact (g2 (fun o => o < v 3 → m.testBit o = true) (fun _ => h1) (fun a o ha ho hS hop => fun _ => h3 a o ha ho (hS ha) hop)) g1
    have main : ∀ j m w, 7 ≤ pc6 m + j → m < 64 → w < 64 → (∀ b, w.testBit b = true → m.testBit b = true) → m.testBit n = true → (∀ b, m.testBit b = true → b < v 3 ∧ Ch v n b) → (∀ a b, a < v 3 → b < v 3 → w.testBit a = true → opB v a (v (40 + 2 * b)) = true → m.testBit b = true) → RunP T_X13_chain (1000 * j + 1) 1 [z (m : Nat), z (w : Nat)] D (fun r => ∃ m, m < 64 ∧ r = (0, some (.int (z (m : Nat))), D) ∧ ∀ b, b < 6 → m.testBit b = chB v n b) := by
      intro j
      induction j with
      | zero =>
        intro m w h
        have : pc6 m ≤ 6 := cnt_le _ _
        omega
      | succ j ih =>
        intro m w hj hm hw hwm h1 h2 h3c
        by_cases e : m = w
        · refine RunP.go ?_
          show Wp (b_X13_chain_1 _ _ _) _
          unfold b_X13_chain_1
          rw [if_pos (by rw [e]), Wp_some, Nx_r]
          exact fin m hm h1 h2 (fun a b ha hb g1 g2 => h3c a b ha hb (by rw [← e]; exact g1) g2)
        refine RunP.mono (c := (1000 * j + 1) + 100 + 1) ?_ (by omega)
        refine RunP.go ?_
        show Wp (b_X13_chain_1 _ _ _) _
        unfold b_X13_chain_1
        rw [if_neg (by rw [z_eq (by omega) (by omega) (by omega) (by omega)]; omega), zl_0, Wp_some, Nx_l]
        refine RunP.loop (fun i ls D' => D' = D ∧ ∃ k, k < 64 ∧ ls = [z (k : Nat), z (m : Nat), z i] ∧ (∀ b, m.testBit b = true → k.testBit b = true) ∧ (∀ b, k.testBit b = true → b < v 3 ∧ Ch v n b) ∧ (∀ a b, a < i → b < v 3 → m.testBit a = true → opB v a (v (40 + 2 * b)) = true → k.testBit b = true)) (v 3) 8 (1000 * j + 2) ?_ ?_ 0 _ _ (by omega) ⟨rfl, m, hm, rfl, fun b h => h, h2, fun a b h => by omega⟩ (by omega)
        · rintro i ls D' c hi ⟨rfl, k, hk, rfl, k1, k2, k3⟩ hkk
          refine RunP.mono (c := (c + 7) + 1) ?_ (by omega)
          refine RunP.go ?_
          show Wp (b_X13_chain_2 _ _ _ _) _
          unfold b_X13_chain_2
          simp (disch := omega) only [z_add, z_sub, z_mul, z_neg, ite_T, ite_F, zl_0, zl_1, zl_2, zl_3, zl_4, zl_5, zl_6, zl_7, zl_8, zl_9, zl_10, zl_11, zl_12, zl_13, zl_14, zl_15, zl_16, zl_17, zl_18, zl_19, zl_20, zl_21, zl_22, zl_23, zl_24, zl_25, zl_26, zl_27, zl_28, zl_29, zl_30, zl_31, zl_32, zl_33, zl_34, zl_35, zl_36, zl_37, zl_38, zl_39, zl_40, zl_41, zl_42, zl_43, zl_44, zl_45, zl_46, zl_47, zl_48, zl_49, zl_50, zl_51, zl_52, zl_53, zl_54, zl_55, zl_56, zl_57, zl_58, zl_59, zl_60, zl_61, zl_62, zl_63, zl_64, zl_97, zl_99, zl_100, zl_126, zl_255, zl_434, zl_496, zl_1000000, zl_100000, z_lt, z_le, z_eq, inB_z, z_div, Int.reduceToNat, Wp_some, Nx_l, Nx_r, cI_i, cV_v, cL_l, ite_t, ite_f, z_nn, toNat_c, bz_e0, h3]
          refine RunP.loop (fun o ls D2 => D2 = D' ∧ ∃ k, k < 64 ∧ ls = [z (k : Nat), z (m : Nat), z i, z o] ∧ (∀ b, m.testBit b = true → k.testBit b = true) ∧ (∀ b, k.testBit b = true → b < v 3 ∧ Ch v n b) ∧ (∀ a b, a < i → b < v 3 → m.testBit a = true → opB v a (v (40 + 2 * b)) = true → k.testBit b = true) ∧ (∀ b, b < o → m.testBit i = true → opB v i (v (40 + 2 * b)) = true → k.testBit b = true)) (v 3) 1 (c + 1) ?_ ?_ 0 _ _ (by omega) ⟨rfl, k, hk, rfl, k1, k2, k3, fun b h => by omega⟩ (by omega)
          · rintro o ls D2 c2 ho ⟨rfl, k, hk, rfl, k1, k2, k3, k4⟩ hk2
            obtain ⟨r1, r2, r3⟩ := hW.2.2.1 o ho
            refine RunP.go ?_
            show Wp (b_X13_chain_3 _ _ _ _ _) _
            unfold b_X13_chain_3
            simp (disch := omega) only [z_add, z_sub, z_mul, z_neg, ite_T, ite_F, zl_0, zl_1, zl_2, zl_3, zl_4, zl_5, zl_6, zl_7, zl_8, zl_9, zl_10, zl_11, zl_12, zl_13, zl_14, zl_15, zl_16, zl_17, zl_18, zl_19, zl_20, zl_21, zl_22, zl_23, zl_24, zl_25, zl_26, zl_27, zl_28, zl_29, zl_30, zl_31, zl_32, zl_33, zl_34, zl_35, zl_36, zl_37, zl_38, zl_39, zl_40, zl_41, zl_42, zl_43, zl_44, zl_45, zl_46, zl_47, zl_48, zl_49, zl_50, zl_51, zl_52, zl_53, zl_54, zl_55, zl_56, zl_57, zl_58, zl_59, zl_60, zl_61, zl_62, zl_63, zl_64, zl_97, zl_99, zl_100, zl_126, zl_255, zl_434, zl_496, zl_1000000, zl_100000, z_lt, z_le, z_eq, inB_z, z_div, Int.reduceToNat, Wp_some, Nx_l, Nx_r, cI_i, cV_v, cL_l, ite_t, ite_f, z_nn, toNat_c, bz_e0, h3, m_placeOf hM (show o < 6 by omega), m_opB hM hW hi r1, zb_0]
            by_cases hbit : m.testBit i = true
            · rw [if_pos ((bit_get m hm i (by omega)).mpr hbit)]
              cases hop : opB v i (v (40 + 2 * o)) with
              | false =>
                rw [if_pos rfl, Wp_some, Nx_l]
                refine hk2 _ _ ⟨rfl, k, hk, rfl, k1, k2, k3, fun b hb g1 g2 => ?_⟩
                by_cases e : b = o
                · subst e
                  rw [hop] at g2
                  cases g2
                · exact k4 b (by omega) g1 g2
              | true =>
                rw [if_neg (by simp), bit_set k hk o (by omega), Wp_some, Nx_l]
                refine hk2 _ _ ⟨rfl, k ||| 2 ^ o, bit_lt k hk o (by omega), rfl, fun b h => by rw [or_bit, k1 b h]; rfl, fun b h => ?_, fun a b ha hb g1 g2 => by rw [or_bit, k3 a b ha hb g1 g2]; rfl, fun b hb g1 g2 => ?_⟩
                · rw [or_bit, Bool.or_eq_true, decide_eq_true_eq] at h
                  rcases h with h | rfl
                  · exact k2 b h
                  · exact ⟨ho, Ch.next hi ho (k2 i (k1 i hbit)).2 hop⟩
                · rw [or_bit, Bool.or_eq_true, decide_eq_true_eq]
                  by_cases e : b = o
                  · exact Or.inr e.symm
                  · exact Or.inl (k4 b (by omega) g1 g2)
            · rw [if_neg (fun q => hbit ((bit_get m hm i (by omega)).mp q)), Wp_some, Nx_l]
              exact hk2 _ _ ⟨rfl, k, hk, rfl, k1, k2, k3, fun b hb g1 g2 => absurd g1 hbit⟩
          · rintro ls D2 ⟨rfl, k, hk, rfl, k1, k2, k3, k4⟩
            refine RunP.go ?_
            show Wp (b_X13_chain_3 _ _ _ _ _) _
            unfold b_X13_chain_3
            simp (disch := omega) only [z_add, z_sub, z_mul, z_neg, ite_T, ite_F, zl_0, zl_1, zl_2, zl_3, zl_4, zl_5, zl_6, zl_7, zl_8, zl_9, zl_10, zl_11, zl_12, zl_13, zl_14, zl_15, zl_16, zl_17, zl_18, zl_19, zl_20, zl_21, zl_22, zl_23, zl_24, zl_25, zl_26, zl_27, zl_28, zl_29, zl_30, zl_31, zl_32, zl_33, zl_34, zl_35, zl_36, zl_37, zl_38, zl_39, zl_40, zl_41, zl_42, zl_43, zl_44, zl_45, zl_46, zl_47, zl_48, zl_49, zl_50, zl_51, zl_52, zl_53, zl_54, zl_55, zl_56, zl_57, zl_58, zl_59, zl_60, zl_61, zl_62, zl_63, zl_64, zl_97, zl_99, zl_100, zl_126, zl_255, zl_434, zl_496, zl_1000000, zl_100000, z_lt, z_le, z_eq, inB_z, z_div, Int.reduceToNat, Wp_some, Nx_l, Nx_r, cI_i, cV_v, cL_l, ite_t, ite_f, z_nn, toNat_c, bz_e0, h3]
            refine hkk _ _ ⟨rfl, k, hk, rfl, k1, k2, fun a b ha hb g1 g2 => ?_⟩
            by_cases e : a = i
            · subst e
              exact k4 b hb g1 g2
            · exact k3 a b (by omega) hb g1 g2
        · rintro ls D' ⟨rfl, k, hk, rfl, k1, k2, k3⟩
          refine RunP.go ?_
          show Wp (b_X13_chain_2 _ _ _ _) _
          unfold b_X13_chain_2
          simp (disch := omega) only [z_add, z_sub, z_mul, z_neg, ite_T, ite_F, zl_0, zl_1, zl_2, zl_3, zl_4, zl_5, zl_6, zl_7, zl_8, zl_9, zl_10, zl_11, zl_12, zl_13, zl_14, zl_15, zl_16, zl_17, zl_18, zl_19, zl_20, zl_21, zl_22, zl_23, zl_24, zl_25, zl_26, zl_27, zl_28, zl_29, zl_30, zl_31, zl_32, zl_33, zl_34, zl_35, zl_36, zl_37, zl_38, zl_39, zl_40, zl_41, zl_42, zl_43, zl_44, zl_45, zl_46, zl_47, zl_48, zl_49, zl_50, zl_51, zl_52, zl_53, zl_54, zl_55, zl_56, zl_57, zl_58, zl_59, zl_60, zl_61, zl_62, zl_63, zl_64, zl_97, zl_99, zl_100, zl_126, zl_255, zl_434, zl_496, zl_1000000, zl_100000, z_lt, z_le, z_eq, inB_z, z_div, Int.reduceToNat, Wp_some, Nx_l, Nx_r, cI_i, cV_v, cL_l, ite_t, ite_f, z_nn, toNat_c, bz_e0, h3]
          have hm2 : pc6 m ≤ pc6 k := cnt_mono 6 (fun b _ h => k1 b h)
          by_cases e2 : pc6 m = pc6 k
          · have e3 : m = k := bits_inj hm hk (fun b hb => cnt_eq_of 6 (fun b _ h => k1 b h) e2 b hb)
            subst e3
            refine RunP.go ?_
            show Wp (b_X13_chain_1 _ _ _) _
            unfold b_X13_chain_1
            rw [if_pos rfl, Wp_some, Nx_r]
            exact fin m hm h1 h2 k3
          · exact ih k m (by omega) hk hm k1 (k1 n h1) k2 k3
    have e1 : (2 ^ n).testBit n = true := by rw [Nat.testBit_two_pow]; simp
    have e2 : 2 ^ n < 64 := Nat.pow_lt_pow_right (n := 6) (by omega) (by omega)
    refine (main 8 (2 ^ n) 0 (by omega) e2 (by omega) (fun b h => ?_) e1 (fun b h => ?_) (fun a b ha hb h => ?_)).mono (by omega)
    · rw [Nat.zero_testBit] at h
      cases h
    · rw [Nat.testBit_two_pow, decide_eq_true_eq] at h
      subst h
      exact ⟨hn, Ch.self⟩
    · rw [Nat.zero_testBit] at h
      cases h
  obtain ⟨r, h1, m, h2, rfl, h4⟩ := key
  exact ⟨m, h2, h1, h4⟩
theorem m_falls (hM : MR D v) (hW : WF v) {m n c : Nat} (hm : m < 64) (hb : ∀ b, b < 6 → m.testBit b = chB v n b) (hc : c < 36) : S_X13_falls (z (m : Nat)) (z c) D = some (0, some (.int (z (zb (flB v n c)))), D) := by
  have h6 := hW.2.1
  have h3 := hM 3 (by omega)
  unfold S_X13_falls
  refine RunP.eqn (c := 100) ?_ (by decide)
  refine RunP.go ?_
  show Wp (b_X13_falls_0 _ _ _) _
  unfold b_X13_falls_0
  simp only [Int.reduceToNat, Wp_some, Nx_l, Nx_r, cI_i, cV_v, cL_l, ite_t, ite_f, z_nn, toNat_c, bz_e0, z_add, z_sub, z_mul, z_neg, ite_T, ite_F, zl_0, zl_1, zl_2, zl_3, zl_4, zl_5, zl_6, zl_7, zl_8, zl_9, zl_10, zl_11, zl_12, zl_13, zl_14, zl_15, zl_16, zl_17, zl_18, zl_19, zl_20, zl_21, zl_22, zl_23, zl_24, zl_25, zl_26, zl_27, zl_28, zl_29, zl_30, zl_31, zl_32, zl_33, zl_34, zl_35, zl_36, zl_37, zl_38, zl_39, zl_40, zl_41, zl_42, zl_43, zl_44, zl_45, zl_46, zl_47, zl_48, zl_49, zl_50, zl_51, zl_52, zl_53, zl_54, zl_55, zl_56, zl_57, zl_58, zl_59, zl_60, zl_61, zl_62, zl_63, zl_64, zl_97, zl_99, zl_100, zl_126, zl_255, zl_434, zl_496, zl_1000000, zl_100000]
  refine RunP.loop (fun i ls D' => D' = D ∧ ls = [z (m : Nat), z c, z i] ∧ ∀ b, b < i → ¬ (chB v n b = true ∧ opB v b c = true)) (v 3) 1 1 ?_ ?_ 0 _ _ (by omega) ⟨rfl, rfl, fun b h => by omega⟩ (by omega)
  · rintro i ls D' c2 hi ⟨rfl, rfl, hn⟩ hk
    refine RunP.go ?_
    show Wp (b_X13_falls_1 _ _ _ _) _
    unfold b_X13_falls_1
    simp (disch := omega) only [z_add, z_sub, z_mul, z_neg, ite_T, ite_F, zl_0, zl_1, zl_2, zl_3, zl_4, zl_5, zl_6, zl_7, zl_8, zl_9, zl_10, zl_11, zl_12, zl_13, zl_14, zl_15, zl_16, zl_17, zl_18, zl_19, zl_20, zl_21, zl_22, zl_23, zl_24, zl_25, zl_26, zl_27, zl_28, zl_29, zl_30, zl_31, zl_32, zl_33, zl_34, zl_35, zl_36, zl_37, zl_38, zl_39, zl_40, zl_41, zl_42, zl_43, zl_44, zl_45, zl_46, zl_47, zl_48, zl_49, zl_50, zl_51, zl_52, zl_53, zl_54, zl_55, zl_56, zl_57, zl_58, zl_59, zl_60, zl_61, zl_62, zl_63, zl_64, zl_97, zl_99, zl_100, zl_126, zl_255, zl_434, zl_496, zl_1000000, zl_100000, z_lt, z_le, z_eq, inB_z, z_div, Int.reduceToNat, Wp_some, Nx_l, Nx_r, cI_i, cV_v, cL_l, ite_t, ite_f, z_nn, toNat_c, bz_e0, h3, m_opB hM hW hi hc, zb_0]
    by_cases hbit : m.testBit i = true
    · rw [if_pos ((bit_get m hm i (by omega)).mpr hbit)]
      have hch := hbit
      rw [hb i (by omega)] at hch
      cases hop : opB v i c with
      | false =>
        rw [if_pos rfl, Wp_some, Nx_l]
        refine hk _ _ ⟨rfl, rfl, fun b hb' g => ?_⟩
        by_cases e : b = i
        · subst e
          rw [hop] at g
          cases g.2
        · exact hn b (by omega) g
      | true =>
        rw [if_neg (by simp), Wp_some, Nx_r, (flB_iff h6).mpr ⟨i, hi, (chB_iff.mp hch).2, hop⟩]
        rfl
    · rw [if_neg (fun q => hbit ((bit_get m hm i (by omega)).mp q)), Wp_some, Nx_l]
      refine hk _ _ ⟨rfl, rfl, fun b hb' g => ?_⟩
      by_cases e : b = i
      · subst e
        exact hbit (by rw [hb b (by omega)]; exact g.1)
      · exact hn b (by omega) g
  · rintro ls D' ⟨rfl, rfl, hn⟩
    refine RunP.go ?_
    show Wp (b_X13_falls_1 _ _ _ _) _
    unfold b_X13_falls_1
    simp (disch := omega) only [z_add, z_sub, z_mul, z_neg, ite_T, ite_F, zl_0, zl_1, zl_2, zl_3, zl_4, zl_5, zl_6, zl_7, zl_8, zl_9, zl_10, zl_11, zl_12, zl_13, zl_14, zl_15, zl_16, zl_17, zl_18, zl_19, zl_20, zl_21, zl_22, zl_23, zl_24, zl_25, zl_26, zl_27, zl_28, zl_29, zl_30, zl_31, zl_32, zl_33, zl_34, zl_35, zl_36, zl_37, zl_38, zl_39, zl_40, zl_41, zl_42, zl_43, zl_44, zl_45, zl_46, zl_47, zl_48, zl_49, zl_50, zl_51, zl_52, zl_53, zl_54, zl_55, zl_56, zl_57, zl_58, zl_59, zl_60, zl_61, zl_62, zl_63, zl_64, zl_97, zl_99, zl_100, zl_126, zl_255, zl_434, zl_496, zl_1000000, zl_100000, z_lt, z_le, z_eq, inB_z, z_div, Int.reduceToNat, Wp_some, Nx_l, Nx_r, cI_i, cV_v, cL_l, ite_t, ite_f, z_nn, toNat_c, bz_e0, h3]
    cases hfl : flB v n c with
    | false => rfl
    | true =>
      obtain ⟨b, q1, q2, q3⟩ := (flB_iff h6).mp hfl
      exact absurd ⟨chB_iff.mpr ⟨q1, q2⟩, q3⟩ (hn b q1)
theorem m_fallsOf (hM : MR D v) (hW : WF v) {n : Nat} (hn : n < v 3) : S_X13_fallsOf (z n) D = some (0, some (.int (z (cnt (flB v n) 36))), D) := by
  obtain ⟨m, hm, hch, hb⟩ := m_chain hM hW hn
  unfold S_X13_fallsOf
  refine RunP.eqn (c := 100) ?_ (by decide)
  refine RunP.go ?_
  show Wp (b_X13_fallsOf_0 _ _) _
  unfold b_X13_fallsOf_0
  simp only [Int.reduceToNat, Wp_some, Nx_l, Nx_r, cI_i, cV_v, cL_l, ite_t, ite_f, z_nn, toNat_c, bz_e0, z_add, z_sub, z_mul, z_neg, ite_T, ite_F, zl_0, zl_1, zl_2, zl_3, zl_4, zl_5, zl_6, zl_7, zl_8, zl_9, zl_10, zl_11, zl_12, zl_13, zl_14, zl_15, zl_16, zl_17, zl_18, zl_19, zl_20, zl_21, zl_22, zl_23, zl_24, zl_25, zl_26, zl_27, zl_28, zl_29, zl_30, zl_31, zl_32, zl_33, zl_34, zl_35, zl_36, zl_37, zl_38, zl_39, zl_40, zl_41, zl_42, zl_43, zl_44, zl_45, zl_46, zl_47, zl_48, zl_49, zl_50, zl_51, zl_52, zl_53, zl_54, zl_55, zl_56, zl_57, zl_58, zl_59, zl_60, zl_61, zl_62, zl_63, zl_64, zl_97, zl_99, zl_100, zl_126, zl_255, zl_434, zl_496, zl_1000000, zl_100000, hch]
  refine RunP.loop (fun i ls D' => D' = D ∧ ls = [z (m : Nat), z (cnt (flB v n) i), z i]) 36 1 1 ?_ ?_ 0 _ _ (by omega) ⟨rfl, rfl⟩ (by omega)
  · rintro i ls D' c2 hi ⟨rfl, rfl⟩ hk
    refine RunP.go ?_
    show Wp (b_X13_fallsOf_1 _ _ _ _) _
    unfold b_X13_fallsOf_1
    simp (disch := omega) only [z_add, z_sub, z_mul, z_neg, ite_T, ite_F, zl_0, zl_1, zl_2, zl_3, zl_4, zl_5, zl_6, zl_7, zl_8, zl_9, zl_10, zl_11, zl_12, zl_13, zl_14, zl_15, zl_16, zl_17, zl_18, zl_19, zl_20, zl_21, zl_22, zl_23, zl_24, zl_25, zl_26, zl_27, zl_28, zl_29, zl_30, zl_31, zl_32, zl_33, zl_34, zl_35, zl_36, zl_37, zl_38, zl_39, zl_40, zl_41, zl_42, zl_43, zl_44, zl_45, zl_46, zl_47, zl_48, zl_49, zl_50, zl_51, zl_52, zl_53, zl_54, zl_55, zl_56, zl_57, zl_58, zl_59, zl_60, zl_61, zl_62, zl_63, zl_64, zl_97, zl_99, zl_100, zl_126, zl_255, zl_434, zl_496, zl_1000000, zl_100000, z_lt, z_le, z_eq, inB_z, z_div, Int.reduceToNat, Wp_some, Nx_l, Nx_r, cI_i, cV_v, cL_l, ite_t, ite_f, z_nn, toNat_c, bz_e0, m_falls hM hW hm hb hi, zb_0]
    cases hop : flB v n i with
    | false =>
      rw [if_pos rfl, Wp_some, Nx_l]
      refine hk _ _ ⟨rfl, ?_⟩
      rw [cnt, hop]
      simp
    | true =>
      rw [if_neg (by simp), Wp_some, Nx_l]
      refine hk _ _ ⟨rfl, ?_⟩
      rw [cnt, hop]
      rfl
  · rintro ls D' ⟨rfl, rfl⟩
    refine RunP.go ?_
    show Wp (b_X13_fallsOf_1 _ _ _ _) _
    unfold b_X13_fallsOf_1
    simp (disch := omega) only [z_add, z_sub, z_mul, z_neg, ite_T, ite_F, zl_0, zl_1, zl_2, zl_3, zl_4, zl_5, zl_6, zl_7, zl_8, zl_9, zl_10, zl_11, zl_12, zl_13, zl_14, zl_15, zl_16, zl_17, zl_18, zl_19, zl_20, zl_21, zl_22, zl_23, zl_24, zl_25, zl_26, zl_27, zl_28, zl_29, zl_30, zl_31, zl_32, zl_33, zl_34, zl_35, zl_36, zl_37, zl_38, zl_39, zl_40, zl_41, zl_42, zl_43, zl_44, zl_45, zl_46, zl_47, zl_48, zl_49, zl_50, zl_51, zl_52, zl_53, zl_54, zl_55, zl_56, zl_57, zl_58, zl_59, zl_60, zl_61, zl_62, zl_63, zl_64, zl_97, zl_99, zl_100, zl_126, zl_255, zl_434, zl_496, zl_1000000, zl_100000, z_lt, z_le, z_eq, inB_z, z_div, Int.reduceToNat, Wp_some, Nx_l, Nx_r, cI_i, cV_v, cL_l, ite_t, ite_f, z_nn, toNat_c, bz_e0]
end LL
