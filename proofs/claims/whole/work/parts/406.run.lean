/-! pure: chains, both ways, the quarry's side -/
noncomputable def chB (v : Nat → Nat) (n : Nat) : Nat → Bool := fun b => @decide (b < v 3 ∧ Ch v n b) (Classical.propDecidable _)
theorem chB_iff {v : Nat → Nat} {n b : Nat} : chB v n b = true ↔ b < v 3 ∧ Ch v n b := by
  unfold chB
  exact iff_of_eq (@decide_eq_true_eq _ (Classical.propDecidable _))
/-- the cells that open if a charge is lit -/
noncomputable def flB (v : Nat → Nat) (n : Nat) : Nat → Bool := fun c => (List.range 6).any (fun b => chB v n b && opB v b c)
theorem flB_iff {v : Nat → Nat} (h6 : v 3 ≤ 6) {n c : Nat} : flB v n c = true ↔ ∃ b, b < v 3 ∧ Ch v n b ∧ opB v b c = true := by
  unfold flB
  rw [List.any_eq_true]
  constructor
  · rintro ⟨b, h1, h2⟩
    rw [Bool.and_eq_true, chB_iff] at h2
    exact ⟨b, h2.1.1, h2.1.2, h2.2⟩
  · rintro ⟨b, h1, h2, h3⟩
    exact ⟨b, List.mem_range.mpr (by omega), by rw [Bool.and_eq_true, chB_iff]; exact ⟨⟨h1, h2⟩, h3⟩⟩
theorem bool_iff {a b : Bool} (h : a = true ↔ b = true) : a = b := by
  cases a <;> cases b <;> simp at h ⊢
section LL
variable {D : DD} {v : Nat → Nat} {E O : Nat → Bool} {ord : Nat → Nat}
theorem s_run (hC : CS D v) (hW : WF v) {n : Nat} (hn : n < v 3) : ∃ D' E O ord, S_X1_run (z n) D = some (0, none, D') ∧ FC D D' ∧ BI D' E O ord ∧ (∀ b, b < 6 → E b = chB v n b) ∧ (∀ c, c < 36 → O c = flB v n c) := by
  have h6 := hW.2.1
  have key : ∃ r, run T_X1_run FUEL 0 [z n] D = some r ∧ ∃ D' E O ord, r = (0, none, D') ∧ FC D D' ∧ BI D' E O ord ∧ (∀ b, b < 6 → E b = chB v n b) ∧ (∀ c, c < 36 → O c = flB v n c) := by
    have fin : ∀ (D' : DD) (E O : Nat → Bool) (ord : Nat → Nat), FC D D' → BI D' E O ord → E n = true → (∀ b, b < 6 → E b = true → b < v 3 ∧ Ch v n b) → (∀ c, O c = true ↔ ∃ j, j < cnt E 6 ∧ opB v (ord j) c = true) → (∀ b, b < v 3 → O (v (40 + 2 * b)) = true → E b = true) → ∃ D2 E2 O2 ord2, ((0, none, D') : RT) = (0, none, D2) ∧ FC D D2 ∧ BI D2 E2 O2 ord2 ∧ (∀ b, b < 6 → E2 b = chB v n b) ∧ (∀ c, c < 36 → O2 c = flB v n c) := by
      intro D' E O ord hf hB h1 h2 h3 h4
      have hcl : ∀ b, b < v 3 → Ch v n b → E b = true := by
        intro b hb hc
        refine (hc (fun o => o < v 3 → E o = true) (fun _ => h1) (fun a o ha ho hS hop => fun _ => ?_)) hb
        obtain ⟨j, q1, q2⟩ := hB.2.2.2.2.2 a (by omega) (hS ha)
        exact h4 o ho ((h3 _).mpr ⟨j, q1, by rw [q2]; exact hop⟩)
      refine ⟨D', E, O, ord, rfl, hf, hB, fun b hb => bool_iff ⟨fun h => chB_iff.mpr (h2 b hb h), fun h => hcl b (chB_iff.mp h).1 (chB_iff.mp h).2⟩, fun c hc => bool_iff ⟨fun h => ?_, fun h => ?_⟩⟩
      · obtain ⟨j, q1, q2⟩ := (h3 c).mp h
        obtain ⟨-, p2, p3⟩ := hB.2.2.2.2.1 j q1
        exact (flB_iff h6).mpr ⟨ord j, (h2 _ p2 p3).1, (h2 _ p2 p3).2, q2⟩
      · obtain ⟨b, q1, q2, q3⟩ := (flB_iff h6).mp h
        obtain ⟨j, p1, p2⟩ := hB.2.2.2.2.2 b (by omega) (hcl b q1 q2)
        exact (h3 c).mpr ⟨j, p1, by rw [p2]; exact q3⟩
    refine RunP.fin (c := 100) ?_ (by decide)
    refine RunP.go ?_
    show Wp (b_X1_run_0 _ _) _
    unfold b_X1_run_0
    obtain ⟨D1, q1, q2, q3⟩ := s_reset D
    obtain ⟨D2, ord2, q4, q5, q6, -⟩ := s_setOff q3 (show n < 6 by omega)
    simp only [q1, q4, Int.reduceToNat, Wp_some, Nx_l, Nx_r, cI_i, cV_v, cL_l, ite_t, ite_f, z_nn, toNat_c, bz_e0, z_add, z_sub, z_mul, z_neg, ite_T, ite_F, zl_0, zl_1, zl_2, zl_3, zl_4, zl_5, zl_6, zl_7, zl_8, zl_9, zl_10, zl_11, zl_12, zl_13, zl_14, zl_15, zl_16, zl_17, zl_18, zl_19, zl_20, zl_21, zl_22, zl_23, zl_24, zl_25, zl_26, zl_27, zl_28, zl_29, zl_30, zl_31, zl_32, zl_33, zl_34, zl_35, zl_36, zl_37, zl_38, zl_39, zl_40, zl_41, zl_42, zl_43, zl_44, zl_45, zl_46, zl_47, zl_48, zl_49, zl_50, zl_51, zl_52, zl_53, zl_54, zl_55, zl_56, zl_57, zl_58, zl_59, zl_60, zl_61, zl_62, zl_63, zl_64, zl_97, zl_99, zl_100, zl_126, zl_255, zl_434, zl_496, zl_1000000, zl_100000]
    have c1 : cnt (ub (fun _ => false) n) 6 = 1 := by rw [cnt_ub (by omega) rfl]; rfl
    refine RunP.loop (fun i ls D' => ls = [z i] ∧ FC D D' ∧ ∃ E O ord, BI D' E O ord ∧ i ≤ cnt E 6 ∧ E n = true ∧ (∀ b, b < 6 → E b = true → b < v 3 ∧ Ch v n b) ∧ (∀ c, O c = true ↔ ∃ j, j < i ∧ opB v (ord j) c = true) ∧ (∀ b, b < v 3 → O (v (40 + 2 * b)) = true → E b = true)) 6 1 1 ?_ ?_ 0 _ _ (by omega) ⟨rfl, q2.trans q5, _, _, ord2, q6, by omega, ub_self _ _, fun b hb h => ?_, fun c => ⟨fun h => (by cases h), fun ⟨j, h, _⟩ => (by omega)⟩, fun b _ h => (by cases h)⟩ (by omega)
    · rintro i ls D' c hi ⟨rfl, hf, E, O, ord, hB, h1, h2, h3, h4, h5⟩ hk
      have hC' := hC.fc hf
      have hle := cnt_le E 6
      refine RunP.go ?_
      show Wp (b_X1_run_1 _ _) _
      unfold b_X1_run_1
      simp (disch := omega) only [z_add, z_sub, z_mul, z_neg, ite_T, ite_F, zl_0, zl_1, zl_2, zl_3, zl_4, zl_5, zl_6, zl_7, zl_8, zl_9, zl_10, zl_11, zl_12, zl_13, zl_14, zl_15, zl_16, zl_17, zl_18, zl_19, zl_20, zl_21, zl_22, zl_23, zl_24, zl_25, zl_26, zl_27, zl_28, zl_29, zl_30, zl_31, zl_32, zl_33, zl_34, zl_35, zl_36, zl_37, zl_38, zl_39, zl_40, zl_41, zl_42, zl_43, zl_44, zl_45, zl_46, zl_47, zl_48, zl_49, zl_50, zl_51, zl_52, zl_53, zl_54, zl_55, zl_56, zl_57, zl_58, zl_59, zl_60, zl_61, zl_62, zl_63, zl_64, zl_97, zl_99, zl_100, zl_126, zl_255, zl_434, zl_496, zl_1000000, zl_100000, z_lt, z_le, z_eq, inB_z, z_div, Int.reduceToNat, Wp_some, Nx_l, Nx_r, cI_i, cV_v, cL_l, ite_t, ite_f, z_nn, toNat_c, bz_e0, hB.2.2.1]
      split
      · rename_i hik
        obtain ⟨p1, p2, p3⟩ := hB.2.2.2.2.1 i (by omega)
        obtain ⟨p4, p5⟩ := h3 _ p2 p3
        obtain ⟨D3, u1, u2, u3⟩ := s_openAround hC' hW hB p4
        obtain ⟨D4, E4, ord4, u4, u5, u6, u7, u8, u9⟩ := s_setOffOpened (hC'.fc u2) hW u3
        rw [p1, u1, cV_v, u4, cV_v, Wp_some, Nx_l]
        have hO4 : ∀ c, (O c || opB v (ord i) c) = true ↔ ∃ j, j < i + 1 ∧ opB v (ord4 j) c = true := by
          intro c
          rw [Bool.or_eq_true, h4 c]
          constructor
          · rintro (⟨j, w1, w2⟩ | w)
            · exact ⟨j, by omega, by rw [u8 j (by omega)]; exact w2⟩
            · exact ⟨i, by omega, by rw [u8 i (by omega)]; exact w⟩
          · rintro ⟨j, w1, w2⟩
            rw [u8 j (by omega)] at w2
            by_cases e : j = i
            · subst e
              exact Or.inr w2
            · exact Or.inl ⟨j, by omega, w2⟩
        refine hk _ _ ⟨rfl, (hf.trans u2).trans u5, E4, _, ord4, u6, by omega, by rw [u7, h2]; rfl, fun b hb h => ?_, hO4, fun b hb h => ?_⟩
        · rw [u7 b, Bool.or_eq_true] at h
          rcases h with h | h
          · exact h3 b hb h
          · rw [Bool.and_eq_true, decide_eq_true_eq, Bool.or_eq_true] at h
            obtain ⟨w1, w2⟩ := h
            rcases w2 with w2 | w2
            · exact h3 b hb (h5 b w1 w2)
            · exact ⟨w1, Ch.next p4 w1 p5 w2⟩
        · have h' : (O (v (40 + 2 * b)) || opB v (ord i) (v (40 + 2 * b))) = true := h
          rw [u7 b, Bool.or_eq_true, Bool.and_eq_true, decide_eq_true_eq]
          exact Or.inr ⟨hb, h'⟩
      · rename_i hik
        rw [Wp_some, Nx_r]
        have e : i = cnt E 6 := by omega
        subst e
        exact fin D' E O ord hf hB h2 h3 h4 h5
    · rintro ls D' ⟨rfl, hf, E, O, ord, hB, h1, h2, h3, h4, h5⟩
      have hle := cnt_le E 6
      refine RunP.go ?_
      show Wp (b_X1_run_1 _ _) _
      unfold b_X1_run_1
      simp (disch := omega) only [z_add, z_sub, z_mul, z_neg, ite_T, ite_F, zl_0, zl_1, zl_2, zl_3, zl_4, zl_5, zl_6, zl_7, zl_8, zl_9, zl_10, zl_11, zl_12, zl_13, zl_14, zl_15, zl_16, zl_17, zl_18, zl_19, zl_20, zl_21, zl_22, zl_23, zl_24, zl_25, zl_26, zl_27, zl_28, zl_29, zl_30, zl_31, zl_32, zl_33, zl_34, zl_35, zl_36, zl_37, zl_38, zl_39, zl_40, zl_41, zl_42, zl_43, zl_44, zl_45, zl_46, zl_47, zl_48, zl_49, zl_50, zl_51, zl_52, zl_53, zl_54, zl_55, zl_56, zl_57, zl_58, zl_59, zl_60, zl_61, zl_62, zl_63, zl_64, zl_97, zl_99, zl_100, zl_126, zl_255, zl_434, zl_496, zl_1000000, zl_100000, z_lt, z_le, z_eq, inB_z, z_div, Int.reduceToNat, Wp_some, Nx_l, Nx_r, cI_i, cV_v, cL_l, ite_t, ite_f, z_nn, toNat_c, bz_e0]
      have e : 6 = cnt E 6 := by omega
      exact fin D' E O ord hf hB h2 h3 (by rw [← e]; exact h4) h5
    · have e : b = n := by
        unfold ub at h
        simpa using h
      subst e
      exact ⟨hn, Ch.self⟩
  obtain ⟨r, h1, D', E, O, ord, rfl, h2⟩ := key
  exact ⟨D', E, O, ord, h1, h2⟩
theorem s_setOffReached (hC : CS D v) (hW : WF v) (hB : BI D E O ord) {a : Nat} (ha : a < v 3) (hEa : E a = true) : ∃ D' E' ord', S_X1_setOffReached (z a) D = some (0, none, D') ∧ FC D D' ∧ BI D' E' O ord' ∧ (∀ b, E' b = (E b || (decide (b < v 3) && opB v a (v (40 + 2 * b))))) := by
  have h6 := hW.2.1
  obtain ⟨p1, p2, p3⟩ := hW.2.2.1 a ha
  have key : ∃ r, run T_X1_setOffReached FUEL 0 [z a] D = some r ∧ ∃ D' E' ord', r = (0, none, D') ∧ FC D D' ∧ BI D' E' O ord' ∧ (∀ b, E' b = (E b || (decide (b < v 3) && opB v a (v (40 + 2 * b))))) := by
    refine RunP.fin (c := 100) ?_ (by decide)
    refine RunP.go ?_
    show Wp (b_X1_setOffReached_0 _ _) _
    unfold b_X1_setOffReached_0
    simp only [Int.reduceToNat, Wp_some, Nx_l, Nx_r, cI_i, cV_v, cL_l, ite_t, ite_f, z_nn, toNat_c, bz_e0, z_add, z_sub, z_mul, z_neg, ite_T, ite_F, zl_0, zl_1, zl_2, zl_3, zl_4, zl_5, zl_6, zl_7, zl_8, zl_9, zl_10, zl_11, zl_12, zl_13, zl_14, zl_15, zl_16, zl_17, zl_18, zl_19, zl_20, zl_21, zl_22, zl_23, zl_24, zl_25, zl_26, zl_27, zl_28, zl_29, zl_30, zl_31, zl_32, zl_33, zl_34, zl_35, zl_36, zl_37, zl_38, zl_39, zl_40, zl_41, zl_42, zl_43, zl_44, zl_45, zl_46, zl_47, zl_48, zl_49, zl_50, zl_51, zl_52, zl_53, zl_54, zl_55, zl_56, zl_57, zl_58, zl_59, zl_60, zl_61, zl_62, zl_63, zl_64, zl_97, zl_99, zl_100, zl_126, zl_255, zl_434, zl_496, zl_1000000, zl_100000, s_cellOf hC hW ha, s_strengthOf hC hW ha]
    refine RunP.loop (fun i ls D' => ls = [z a, z (v (40 + 2 * a)), z (v (41 + 2 * a)), z i] ∧ FC D D' ∧ ∃ E' ord', BI D' E' O ord' ∧ (∀ b, E' b = (E b || (decide (b < i) && opB v a (v (40 + 2 * b)))))) (v 3) 1 1 ?_ ?_ 0 _ _ (by omega) ⟨rfl, FC.rfl, E, ord, hB, fun b => by simp⟩ (by omega)
    · rintro i ls D' c hi ⟨rfl, hf, E', ord', hB', hE⟩ hk
      have hC' := hC.fc hf
      obtain ⟨r1, r2, r3⟩ := hW.2.2.1 i hi
      have hd := dist_le r1 p1
      have hop : (0 < v (4 + v (40 + 2 * i)) ∧ (v (4 + v (40 + 2 * i)) : Int) ≤ (v (41 + 2 * a) : Int) - dist (v (40 + 2 * i)) (v (40 + 2 * a))) ↔ opB v a (v (40 + 2 * i)) = true := by
        unfold opB
        rw [decide_eq_true_eq]
        omega
      refine RunP.go ?_
      show Wp (b_X1_setOffReached_1 _ _ _ _ _) _
      unfold b_X1_setOffReached_1
      simp (disch := omega) only [z_add, z_sub, z_mul, z_neg, ite_T, ite_F, zl_0, zl_1, zl_2, zl_3, zl_4, zl_5, zl_6, zl_7, zl_8, zl_9, zl_10, zl_11, zl_12, zl_13, zl_14, zl_15, zl_16, zl_17, zl_18, zl_19, zl_20, zl_21, zl_22, zl_23, zl_24, zl_25, zl_26, zl_27, zl_28, zl_29, zl_30, zl_31, zl_32, zl_33, zl_34, zl_35, zl_36, zl_37, zl_38, zl_39, zl_40, zl_41, zl_42, zl_43, zl_44, zl_45, zl_46, zl_47, zl_48, zl_49, zl_50, zl_51, zl_52, zl_53, zl_54, zl_55, zl_56, zl_57, zl_58, zl_59, zl_60, zl_61, zl_62, zl_63, zl_64, zl_97, zl_99, zl_100, zl_126, zl_255, zl_434, zl_496, zl_1000000, zl_100000, z_lt, z_le, z_eq, inB_z, z_div, Int.reduceToNat, Wp_some, Nx_l, Nx_r, cI_i, cV_v, cL_l, ite_t, ite_f, z_nn, toNat_c, bz_e0, hC'.2.2.2.2.1, s_cellOf hC' hW hi, s_distance r1 p1, s_breaksAt hC' hW r1]
      split
      · rename_i e
        have e : i = a := by omega
        subst e
        rw [Wp_some, Nx_l]
        refine hk _ _ ⟨rfl, hf, E', ord', hB', fun b => ?_⟩
        rw [hE b]
        by_cases e : b = i
        · subst e
          simp [hEa]
        · simp [show (b < i + 1) = (b < i) from propext (by omega)]
      · cases hO : opB v a (v (40 + 2 * i)) with
        | false =>
          rw [if_pos (by rw [hop]; simp [hO]), Wp_some, Nx_l]
          refine hk _ _ ⟨rfl, hf, E', ord', hB', fun b => ?_⟩
          rw [hE b]
          by_cases e : b = i
          · subst e
            simp [hO]
          · simp [show (b < i + 1) = (b < i) from propext (by omega)]
        | true =>
          rw [if_neg (by rw [hop]; simp [hO])]
          obtain ⟨D2, ord2, q1, q2, q3, q4⟩ := s_setOff hB' (show i < 6 by omega)
          rw [q1, cV_v, Wp_some, Nx_l]
          refine hk _ _ ⟨rfl, hf.trans q2, ub E' i, ord2, q3, fun b => ?_⟩
          unfold ub
          rw [hE b]
          by_cases e : b = i
          · subst e
            simp [hO]
          · simp [e, show (b < i + 1) = (b < i) from propext (by omega)]
    · rintro ls D' ⟨rfl, hf, E', ord', hB', hE⟩
      have hC' := hC.fc hf
      refine RunP.go ?_
      show Wp (b_X1_setOffReached_1 _ _ _ _ _) _
      unfold b_X1_setOffReached_1
      simp (disch := omega) only [z_add, z_sub, z_mul, z_neg, ite_T, ite_F, zl_0, zl_1, zl_2, zl_3, zl_4, zl_5, zl_6, zl_7, zl_8, zl_9, zl_10, zl_11, zl_12, zl_13, zl_14, zl_15, zl_16, zl_17, zl_18, zl_19, zl_20, zl_21, zl_22, zl_23, zl_24, zl_25, zl_26, zl_27, zl_28, zl_29, zl_30, zl_31, zl_32, zl_33, zl_34, zl_35, zl_36, zl_37, zl_38, zl_39, zl_40, zl_41, zl_42, zl_43, zl_44, zl_45, zl_46, zl_47, zl_48, zl_49, zl_50, zl_51, zl_52, zl_53, zl_54, zl_55, zl_56, zl_57, zl_58, zl_59, zl_60, zl_61, zl_62, zl_63, zl_64, zl_97, zl_99, zl_100, zl_126, zl_255, zl_434, zl_496, zl_1000000, zl_100000, z_lt, z_le, z_eq, inB_z, z_div, Int.reduceToNat, Wp_some, Nx_l, Nx_r, cI_i, cV_v, cL_l, ite_t, ite_f, z_nn, toNat_c, bz_e0, hC'.2.2.2.2.1]
      exact ⟨D', E', ord', rfl, hf, hB', hE⟩
  obtain ⟨r, h1, D', E', ord', rfl, h2⟩ := key
  exact ⟨D', E', ord', h1, h2⟩
theorem s_askAll (hC : CS D v) (hW : WF v) (hB : BI D E O ord) {n : Nat} (hE : ∀ b, b < 6 → E b = true → b < v 3 ∧ Ch v n b) : ∃ D' E' ord', S_X1_askAll D = some (0, some (.int (z (bz (cnt E' 6 ≠ cnt E 6)))), D') ∧ FC D D' ∧ BI D' E' O ord' ∧ (∀ b, E b = true → E' b = true) ∧ (∀ b, b < 6 → E' b = true → b < v 3 ∧ Ch v n b) ∧ (∀ a b, a < v 3 → b < v 3 → E a = true → opB v a (v (40 + 2 * b)) = true → E' b = true) := by
  have h6 := hW.2.1
  have hle := cnt_le E 6
  have key : ∃ r, run T_X1_askAll FUEL 0 [] D = some r ∧ ∃ D' E' ord', r = (0, some (.int (z (bz (cnt E' 6 ≠ cnt E 6)))), D') ∧ FC D D' ∧ BI D' E' O ord' ∧ (∀ b, E b = true → E' b = true) ∧ (∀ b, b < 6 → E' b = true → b < v 3 ∧ Ch v n b) ∧ (∀ a b, a < v 3 → b < v 3 → E a = true → opB v a (v (40 + 2 * b)) = true → E' b = true) := by
    refine RunP.fin (c := 100) ?_ (by decide)
    refine RunP.go ?_
    show Wp (b_X1_askAll_0 _) _
    unfold b_X1_askAll_0
    simp only [Int.reduceToNat, Wp_some, Nx_l, Nx_r, cI_i, cV_v, cL_l, ite_t, ite_f, z_nn, toNat_c, bz_e0, z_add, z_sub, z_mul, z_neg, ite_T, ite_F, zl_0, zl_1, zl_2, zl_3, zl_4, zl_5, zl_6, zl_7, zl_8, zl_9, zl_10, zl_11, zl_12, zl_13, zl_14, zl_15, zl_16, zl_17, zl_18, zl_19, zl_20, zl_21, zl_22, zl_23, zl_24, zl_25, zl_26, zl_27, zl_28, zl_29, zl_30, zl_31, zl_32, zl_33, zl_34, zl_35, zl_36, zl_37, zl_38, zl_39, zl_40, zl_41, zl_42, zl_43, zl_44, zl_45, zl_46, zl_47, zl_48, zl_49, zl_50, zl_51, zl_52, zl_53, zl_54, zl_55, zl_56, zl_57, zl_58, zl_59, zl_60, zl_61, zl_62, zl_63, zl_64, zl_97, zl_99, zl_100, zl_126, zl_255, zl_434, zl_496, zl_1000000, zl_100000, hB.2.2.1]
    refine RunP.loop (fun i ls D' => ls = [z (cnt E 6), z i] ∧ FC D D' ∧ ∃ E' ord', BI D' E' O ord' ∧ (∀ b, E b = true → E' b = true) ∧ (∀ b, b < 6 → E' b = true → b < v 3 ∧ Ch v n b) ∧ (∀ a b, a < i → b < v 3 → E a = true → opB v a (v (40 + 2 * b)) = true → E' b = true)) (v 3) 1 1 ?_ ?_ 0 _ _ (by omega) ⟨rfl, FC.rfl, E, ord, hB, fun b h => h, hE, fun a b h => by omega⟩ (by omega)
    · rintro i ls D' c hi ⟨rfl, hf, E', ord', hB', e1, e2, e3⟩ hk
      have hC' := hC.fc hf
      refine RunP.go ?_
      show Wp (b_X1_askAll_1 _ _ _) _
      unfold b_X1_askAll_1
      simp (disch := omega) only [z_add, z_sub, z_mul, z_neg, ite_T, ite_F, zl_0, zl_1, zl_2, zl_3, zl_4, zl_5, zl_6, zl_7, zl_8, zl_9, zl_10, zl_11, zl_12, zl_13, zl_14, zl_15, zl_16, zl_17, zl_18, zl_19, zl_20, zl_21, zl_22, zl_23, zl_24, zl_25, zl_26, zl_27, zl_28, zl_29, zl_30, zl_31, zl_32, zl_33, zl_34, zl_35, zl_36, zl_37, zl_38, zl_39, zl_40, zl_41, zl_42, zl_43, zl_44, zl_45, zl_46, zl_47, zl_48, zl_49, zl_50, zl_51, zl_52, zl_53, zl_54, zl_55, zl_56, zl_57, zl_58, zl_59, zl_60, zl_61, zl_62, zl_63, zl_64, zl_97, zl_99, zl_100, zl_126, zl_255, zl_434, zl_496, zl_1000000, zl_100000, z_lt, z_le, z_eq, inB_z, z_div, Int.reduceToNat, Wp_some, Nx_l, Nx_r, cI_i, cV_v, cL_l, ite_t, ite_f, z_nn, toNat_c, bz_e0, hC'.2.2.2.2.1, s_explodes hB' (show i < 6 by omega), zb_0]
      cases hO : E' i with
      | false =>
        rw [if_pos rfl, Wp_some, Nx_l]
        refine hk _ _ ⟨rfl, hf, E', ord', hB', e1, e2, fun a b ha hb h1 h2 => ?_⟩
        by_cases e : a = i
        · subst e
          rw [e1 a h1] at hO
          cases hO
        · exact e3 a b (by omega) hb h1 h2
      | true =>
        rw [if_neg (by simp)]
        obtain ⟨D2, E2, ord2, q1, q2, q3, q4⟩ := s_setOffReached hC' hW hB' hi hO
        rw [q1, cV_v, Wp_some, Nx_l]
        refine hk _ _ ⟨rfl, hf.trans q2, E2, ord2, q3, fun b h => by rw [q4, e1 b h]; rfl, fun b hb h => ?_, fun a b ha hb h1 h2 => ?_⟩
        · rw [q4 b, Bool.or_eq_true] at h
          rcases h with h | h
          · exact e2 b hb h
          · rw [Bool.and_eq_true, decide_eq_true_eq] at h
            exact ⟨h.1, Ch.next hi h.1 (e2 i (by omega) hO).2 h.2⟩
        · rw [q4 b, Bool.or_eq_true, Bool.and_eq_true, decide_eq_true_eq]
          by_cases e : a = i
          · subst e
            exact Or.inr ⟨hb, h2⟩
          · exact Or.inl (e3 a b (by omega) hb h1 h2)
    · rintro ls D' ⟨rfl, hf, E', ord', hB', e1, e2, e3⟩
      have hC' := hC.fc hf
      have hle' := cnt_le E' 6
      refine RunP.go ?_
      show Wp (b_X1_askAll_1 _ _ _) _
      unfold b_X1_askAll_1
      simp (disch := omega) only [z_add, z_sub, z_mul, z_neg, ite_T, ite_F, zl_0, zl_1, zl_2, zl_3, zl_4, zl_5, zl_6, zl_7, zl_8, zl_9, zl_10, zl_11, zl_12, zl_13, zl_14, zl_15, zl_16, zl_17, zl_18, zl_19, zl_20, zl_21, zl_22, zl_23, zl_24, zl_25, zl_26, zl_27, zl_28, zl_29, zl_30, zl_31, zl_32, zl_33, zl_34, zl_35, zl_36, zl_37, zl_38, zl_39, zl_40, zl_41, zl_42, zl_43, zl_44, zl_45, zl_46, zl_47, zl_48, zl_49, zl_50, zl_51, zl_52, zl_53, zl_54, zl_55, zl_56, zl_57, zl_58, zl_59, zl_60, zl_61, zl_62, zl_63, zl_64, zl_97, zl_99, zl_100, zl_126, zl_255, zl_434, zl_496, zl_1000000, zl_100000, z_lt, z_le, z_eq, inB_z, z_div, Int.reduceToNat, Wp_some, Nx_l, Nx_r, cI_i, cV_v, cL_l, ite_t, ite_f, z_nn, toNat_c, bz_e0, hC'.2.2.2.2.1, hB'.2.2.1]
      split
      · rename_i h
        rw [Wp_some, Nx_r]
        exact ⟨D', E', ord', by rw [bz_f (by simp; omega)], hf, hB', e1, e2, e3⟩
      · rename_i h
        rw [Wp_some, Nx_r]
        exact ⟨D', E', ord', by rw [bz_t (by omega)], hf, hB', e1, e2, e3⟩
  obtain ⟨r, h1, D', E', ord', rfl, h2⟩ := key
  exact ⟨D', E', ord', h1, h2⟩
theorem s_countByRounds (hC : CS D v) (hW : WF v) {n : Nat} (hn : n < v 3) : ∃ D', S_X1_countByRounds (z n) D = some (0, some (.int (z (cnt (chB v n) 6))), D') ∧ FC D D' := by
  have h6 := hW.2.1
  have key : ∃ r, run T_X1_countByRounds FUEL 0 [z n] D = some r ∧ ∃ D', r = (0, some (.int (z (cnt (chB v n) 6))), D') ∧ FC D D' := by
    have fin : ∀ (D' : DD) (E O : Nat → Bool) (ord : Nat → Nat), FC D D' → BI D' E O ord → E n = true → (∀ b, b < 6 → E b = true → b < v 3 ∧ Ch v n b) → (∀ a b, a < v 3 → b < v 3 → E a = true → opB v a (v (40 + 2 * b)) = true → E b = true) → ∃ D2, ((0, some (.int (D'.1 126)), D') : RT) = (0, some (.int (z (cnt (chB v n) 6))), D2) ∧ FC D D2 := by
      intro D' E O ord hf hB h1 h2 h3
      refine ⟨D', ?_, hf⟩
      rw [hB.2.2.1, cnt_congr 6 (q := chB v n) (fun b hb => bool_iff ⟨fun h => chB_iff.mpr (h2 b hb h), fun h => ?_⟩)]
      obtain ⟨g1, g2⟩ := chB_iff.mp h
      exact (g2 (fun o => o < v 3 → E o = true) (fun _ => h1) (fun a o ha ho hS hop => fun _ => h3 a o ha ho (hS ha) hop)) g1
    refine RunP.fin (c := 100) ?_ (by decide)
    refine RunP.go ?_
    show Wp (b_X1_countByRounds_0 _ _) _
    unfold b_X1_countByRounds_0
    obtain ⟨D1, q1, q2, q3⟩ := s_reset D
    obtain ⟨D2, ord2, q4, q5, q6, -⟩ := s_setOff q3 (show n < 6 by omega)
    simp only [q1, q4, Int.reduceToNat, Wp_some, Nx_l, Nx_r, cI_i, cV_v, cL_l, ite_t, ite_f, z_nn, toNat_c, bz_e0, z_add, z_sub, z_mul, z_neg, ite_T, ite_F, zl_0, zl_1, zl_2, zl_3, zl_4, zl_5, zl_6, zl_7, zl_8, zl_9, zl_10, zl_11, zl_12, zl_13, zl_14, zl_15, zl_16, zl_17, zl_18, zl_19, zl_20, zl_21, zl_22, zl_23, zl_24, zl_25, zl_26, zl_27, zl_28, zl_29, zl_30, zl_31, zl_32, zl_33, zl_34, zl_35, zl_36, zl_37, zl_38, zl_39, zl_40, zl_41, zl_42, zl_43, zl_44, zl_45, zl_46, zl_47, zl_48, zl_49, zl_50, zl_51, zl_52, zl_53, zl_54, zl_55, zl_56, zl_57, zl_58, zl_59, zl_60, zl_61, zl_62, zl_63, zl_64, zl_97, zl_99, zl_100, zl_126, zl_255, zl_434, zl_496, zl_1000000, zl_100000]
    have c1 : cnt (ub (fun _ => false) n) 6 = 1 := by rw [cnt_ub (by omega) rfl]; rfl
    refine RunP.loop (fun i ls D' => FC D D' ∧ ∃ E O ord, ∃ x : Int, ls = [z x, z i] ∧ BI D' E O ord ∧ E n = true ∧ (∀ b, b < 6 → E b = true → b < v 3 ∧ Ch v n b) ∧ ((x = 1 ∧ i + 1 ≤ cnt E 6) ∨ (x = 0 ∧ ∀ a b, a < v 3 → b < v 3 → E a = true → opB v a (v (40 + 2 * b)) = true → E b = true))) 6 1 1 ?_ ?_ 0 _ _ (by omega) ⟨q2.trans q5, _, _, ord2, 1, rfl, q6, ub_self _ _, fun b hb h => ?_, Or.inl ⟨rfl, by omega⟩⟩ (by omega)
    · rintro i ls D' c hi ⟨hf, E, O, ord, x, rfl, hB, h1, h2, h3⟩ hk
      have hC' := hC.fc hf
      have hle := cnt_le E 6
      refine RunP.go ?_
      show Wp (b_X1_countByRounds_1 _ _ _) _
      unfold b_X1_countByRounds_1
      rcases h3 with ⟨rfl, h3⟩ | ⟨rfl, h3⟩
      · obtain ⟨D3, E3, ord3, u1, u2, u3, u4, u5, u6⟩ := s_askAll hC' hW hB h2
        simp (disch := omega) only [z_add, z_sub, z_mul, z_neg, ite_T, ite_F, zl_0, zl_1, zl_2, zl_3, zl_4, zl_5, zl_6, zl_7, zl_8, zl_9, zl_10, zl_11, zl_12, zl_13, zl_14, zl_15, zl_16, zl_17, zl_18, zl_19, zl_20, zl_21, zl_22, zl_23, zl_24, zl_25, zl_26, zl_27, zl_28, zl_29, zl_30, zl_31, zl_32, zl_33, zl_34, zl_35, zl_36, zl_37, zl_38, zl_39, zl_40, zl_41, zl_42, zl_43, zl_44, zl_45, zl_46, zl_47, zl_48, zl_49, zl_50, zl_51, zl_52, zl_53, zl_54, zl_55, zl_56, zl_57, zl_58, zl_59, zl_60, zl_61, zl_62, zl_63, zl_64, zl_97, zl_99, zl_100, zl_126, zl_255, zl_434, zl_496, zl_1000000, zl_100000, z_lt, z_le, z_eq, inB_z, z_div, Int.reduceToNat, Wp_some, Nx_l, Nx_r, cI_i, cV_v, cL_l, ite_t, ite_f, z_nn, toNat_c, bz_e0, u1]
        have hm := cnt_mono 6 (fun j _ => u4 j)
        refine hk _ _ ⟨hf.trans u2, E3, O, ord3, _, rfl, u3, u4 n h1, u5, ?_⟩
        by_cases e : cnt E3 6 = cnt E 6
        · refine Or.inr ⟨bz_f (by simp [e]), fun a b ha hb g1 g2 => ?_⟩
          have e2 := cnt_eq_of 6 (fun j _ => u4 j) e.symm a (by omega)
          exact u6 a b ha hb (by rw [e2]; exact g1) g2
        · exact Or.inl ⟨bz_t e, by omega⟩
      · simp (disch := omega) only [z_add, z_sub, z_mul, z_neg, ite_T, ite_F, zl_0, zl_1, zl_2, zl_3, zl_4, zl_5, zl_6, zl_7, zl_8, zl_9, zl_10, zl_11, zl_12, zl_13, zl_14, zl_15, zl_16, zl_17, zl_18, zl_19, zl_20, zl_21, zl_22, zl_23, zl_24, zl_25, zl_26, zl_27, zl_28, zl_29, zl_30, zl_31, zl_32, zl_33, zl_34, zl_35, zl_36, zl_37, zl_38, zl_39, zl_40, zl_41, zl_42, zl_43, zl_44, zl_45, zl_46, zl_47, zl_48, zl_49, zl_50, zl_51, zl_52, zl_53, zl_54, zl_55, zl_56, zl_57, zl_58, zl_59, zl_60, zl_61, zl_62, zl_63, zl_64, zl_97, zl_99, zl_100, zl_126, zl_255, zl_434, zl_496, zl_1000000, zl_100000, z_lt, z_le, z_eq, inB_z, z_div, Int.reduceToNat, Wp_some, Nx_l, Nx_r, cI_i, cV_v, cL_l, ite_t, ite_f, z_nn, toNat_c, bz_e0]
        exact fin D' E O ord hf hB h1 h2 h3
    · rintro ls D' ⟨hf, E, O, ord, x, rfl, hB, h1, h2, h3⟩
      have hle := cnt_le E 6
      refine RunP.go ?_
      show Wp (b_X1_countByRounds_1 _ _ _) _
      unfold b_X1_countByRounds_1
      rcases h3 with ⟨rfl, h3⟩ | ⟨rfl, h3⟩
      · omega
      · simp (disch := omega) only [z_add, z_sub, z_mul, z_neg, ite_T, ite_F, zl_0, zl_1, zl_2, zl_3, zl_4, zl_5, zl_6, zl_7, zl_8, zl_9, zl_10, zl_11, zl_12, zl_13, zl_14, zl_15, zl_16, zl_17, zl_18, zl_19, zl_20, zl_21, zl_22, zl_23, zl_24, zl_25, zl_26, zl_27, zl_28, zl_29, zl_30, zl_31, zl_32, zl_33, zl_34, zl_35, zl_36, zl_37, zl_38, zl_39, zl_40, zl_41, zl_42, zl_43, zl_44, zl_45, zl_46, zl_47, zl_48, zl_49, zl_50, zl_51, zl_52, zl_53, zl_54, zl_55, zl_56, zl_57, zl_58, zl_59, zl_60, zl_61, zl_62, zl_63, zl_64, zl_97, zl_99, zl_100, zl_126, zl_255, zl_434, zl_496, zl_1000000, zl_100000, z_lt, z_le, z_eq, inB_z, z_div, Int.reduceToNat, Wp_some, Nx_l, Nx_r, cI_i, cV_v, cL_l, ite_t, ite_f, z_nn, toNat_c, bz_e0]
        exact fin D' E O ord hf hB h1 h2 h3
    · have e : b = n := by
        unfold ub at h
        simpa using h
      subst e
      exact ⟨hn, Ch.self⟩
  obtain ⟨r, h1, D', rfl, h2⟩ := key
  exact ⟨D', h1, h2⟩
end LL
