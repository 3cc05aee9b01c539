/-! pure: best charge, checks, errors, undo, snapshot, type, lines -/
theorem nac_lt : ∀ a, a < 128 → vp_nar .char (z (a : Nat)) = z (a : Nat) := by decide +kernel
theorem uch_lt : ∀ a, a < 128 → ((z (a : Nat)).toUInt32 % 65536).toInt32 = z (a : Nat) := by decide +kernel
theorem dgt_lt : ∀ a, a < 10 → (((48 : Int32) + z (a : Nat)).toUInt32 % 65536).toInt32 = z ((48 + a : Nat)) := by decide +kernel
def bcF (F : Nat → Nat) : Nat → Nat
  | 0 => 0
  | i + 1 => if F (bcF F i) < F i then i else bcF F i
theorem bcF_s (F : Nat → Nat) (i : Nat) : bcF F (i + 1) = if F (bcF F i) < F i then i else bcF F i := rfl
theorem bcF_lt (F : Nat → Nat) : ∀ i, 0 < i → bcF F i < i
  | 0, h => absurd h (Nat.lt_irrefl 0)
  | 1, _ => by
    rw [bcF_s]
    split
    · omega
    · exact Nat.zero_lt_one
  | i + 2, _ => by
    rw [bcF_s]
    have := bcF_lt F (i + 1) (by omega)
    split <;> omega
section LL
variable {D D1 E : DD} {v : Nat → Nat} {n nx : Nat} {p : Nat → Nat → Nat} {sf : Bool} {sv : Nat → Nat} {e f : Int} {ln : Nat} {L : Nat → Nat} {tn : Nat} {T : Nat → Nat}
theorem s_bestCharge (hC : CS D v) (hW : WF v) (h3 : 0 < v 3) : ∃ D', S_X12_bestCharge D = some (0, some (.int (z (bcF (fun n => cnt (flB v n) 36) (v 3)))), D') ∧ FC D D' := by
  have h6 := hW.2.1
  have key : ∃ r, run T_X12_bestCharge FUEL 0 [] D = some r ∧ ∃ D', r = (0, some (.int (z (bcF (fun n => cnt (flB v n) 36) (v 3)))), D') ∧ FC D D' := by
    refine RunP.fin (c := 100) ?_ (by decide)
    refine RunP.go ?_
    show Wp (b_X12_bestCharge_0 _) _
    unfold b_X12_bestCharge_0
    simp (disch := omega) only [z_add, z_sub, z_mul, z_neg, ite_T, ite_F, zl_0, zl_1, zl_2, zl_3, zl_4, zl_5, zl_6, zl_7, zl_8, zl_9, zl_10, zl_11, zl_12, zl_13, zl_14, zl_15, zl_16, zl_17, zl_18, zl_19, zl_20, zl_21, zl_22, zl_23, zl_24, zl_25, zl_26, zl_27, zl_28, zl_29, zl_30, zl_31, zl_32, zl_33, zl_34, zl_35, zl_36, zl_37, zl_38, zl_39, zl_40, zl_41, zl_42, zl_43, zl_44, zl_45, zl_46, zl_47, zl_48, zl_49, zl_50, zl_51, zl_52, zl_53, zl_54, zl_55, zl_56, zl_57, zl_58, zl_59, zl_60, zl_61, zl_62, zl_63, zl_64, zl_97, zl_99, zl_100, zl_126, zl_255, zl_434, zl_496, zl_1000000, zl_100000, z_lt, z_le, z_eq, inB_z, z_div, Int.reduceToNat, Wp_some, Nx_l, Nx_r, cI_i, cV_v, cL_l, ite_t, ite_f, z_nn, toNat_c, bz_e0, hC.2.2.2.2.1]
    refine RunP.loop (fun i ls D' => FC D D' ∧ ∃ m : Int, ls = [z (bcF (fun n => cnt (flB v n) 36) i), z m, z i] ∧ ((i = 0 ∧ m = -1) ∨ (0 < i ∧ m = (cnt (flB v (bcF (fun n => cnt (flB v n) 36) i)) 36 : Nat)))) (v 3) 1 1 ?_ ?_ 0 _ _ (by omega) ⟨FC.rfl, -1, rfl, Or.inl ⟨rfl, rfl⟩⟩ (by omega)
    · rintro i ls D' c hi ⟨hf, m, rfl, hm⟩ hkk
      have hC' := hC.fc hf
      obtain ⟨D2, E, O, ord, q1, q2, q3, q4, q5⟩ := s_run hC' hW hi
      have hB := q3.cg q4 q5
      have hle := cnt_le (flB v i) 36
      have hle2 := cnt_le (flB v (bcF (fun n => cnt (flB v n) 36) i)) 36
      refine RunP.go ?_
      show Wp (b_X12_bestCharge_1 _ _ _ _) _
      unfold b_X12_bestCharge_1
      rw [hC'.2.2.2.2.1, if_neg (by rw [z_le (by omega) (by omega) (by omega) (by omega)]; omega), q1, cV_v, hB.2.2.2.1, show (1 : Int32) = z 1 from rfl, z_add]
      by_cases hlt : m < (cnt (flB v i) 36 : Nat)
      · rw [if_neg (by rw [z_le (by omega) (by omega) (by omega) (by omega)]; omega), Wp_some, Nx_l]
        have e : bcF (fun n => cnt (flB v n) 36) (i + 1) = i := by
          rw [bcF_s]
          rcases hm with ⟨rfl, -⟩ | ⟨-, rfl⟩
          · split
            · rfl
            · rfl
          · rw [if_pos (by omega)]
        exact hkk _ _ ⟨hf.trans q2, _, by rw [e]; rfl, Or.inr ⟨by omega, by rw [e]⟩⟩
      · rw [if_pos (by rw [z_le (by omega) (by omega) (by omega) (by omega)]; omega), Wp_some, Nx_l]
        have h0 : 0 < i := by omega
        rcases hm with ⟨rfl, -⟩ | ⟨-, rfl⟩
        · omega
        · have e : bcF (fun n => cnt (flB v n) 36) (i + 1) = bcF (fun n => cnt (flB v n) 36) i := by
            rw [bcF_s, if_neg (by omega)]
          exact hkk _ _ ⟨hf.trans q2, _, by rw [e]; rfl, Or.inr ⟨by omega, by rw [e]⟩⟩
    · rintro ls D' ⟨hf, m, rfl, hm⟩
      refine RunP.go ?_
      show Wp (b_X12_bestCharge_1 _ _ _ _) _
      unfold b_X12_bestCharge_1
      rw [(hC.fc hf).2.2.2.2.1, if_pos (by rw [z_le (by omega) (by omega) (by omega) (by omega)]; omega), Wp_some, Nx_r]
      exact ⟨D', rfl, hf⟩
  obtain ⟨r, h1, D', rfl, h2⟩ := key
  exact ⟨D', h1, h2⟩
theorem m_bestCharge (hM : MR D v) (hW : WF v) : S_X13_bestCharge D = some (0, some (.int (z (if v 3 = 0 then 0 else bcF (fun n => cnt (flB v n) 36) (v 3) : Nat))), setI D 140 (z (bz (v 3 = 0)))) := by
  have h6 := hW.2.1
  have e3 := hM 3 (by omega)
  have hM' : ∀ x, MR (setI D 140 x) v := fun x => hM
  unfold S_X13_bestCharge
  refine RunP.eqn (c := 100) ?_ (by decide)
  refine RunP.go ?_
  show Wp (b_X13_bestCharge_0 _) _
  unfold b_X13_bestCharge_0
  simp (disch := omega) only [z_add, z_sub, z_mul, z_neg, ite_T, ite_F, zl_0, zl_1, zl_2, zl_3, zl_4, zl_5, zl_6, zl_7, zl_8, zl_9, zl_10, zl_11, zl_12, zl_13, zl_14, zl_15, zl_16, zl_17, zl_18, zl_19, zl_20, zl_21, zl_22, zl_23, zl_24, zl_25, zl_26, zl_27, zl_28, zl_29, zl_30, zl_31, zl_32, zl_33, zl_34, zl_35, zl_36, zl_37, zl_38, zl_39, zl_40, zl_41, zl_42, zl_43, zl_44, zl_45, zl_46, zl_47, zl_48, zl_49, zl_50, zl_51, zl_52, zl_53, zl_54, zl_55, zl_56, zl_57, zl_58, zl_59, zl_60, zl_61, zl_62, zl_63, zl_64, zl_97, zl_99, zl_100, zl_126, zl_255, zl_434, zl_496, zl_1000000, zl_100000, Int.reduceToNat, Wp_some, Nx_l, Nx_r, cI_i, cV_v, cL_l, ite_t, ite_f, z_nn, toNat_c, bz_e0, e3]
  by_cases h0 : v 3 = 0
  · rw [if_pos (by rw [h0]; rfl), Wp_some, Nx_l, if_pos h0, bz_t h0]
    refine RunP.mono (c := 0 + 1) ?_ (by omega)
    refine RunP.go ?_
    show Wp (b_X13_bestCharge_1 _ _ _) _
    unfold b_X13_bestCharge_1
    have e3' := hM' (z 1) 3 (by omega)
    simp (disch := omega) only [z_add, z_sub, z_mul, z_neg, ite_T, ite_F, zl_0, zl_1, zl_2, zl_3, zl_4, zl_5, zl_6, zl_7, zl_8, zl_9, zl_10, zl_11, zl_12, zl_13, zl_14, zl_15, zl_16, zl_17, zl_18, zl_19, zl_20, zl_21, zl_22, zl_23, zl_24, zl_25, zl_26, zl_27, zl_28, zl_29, zl_30, zl_31, zl_32, zl_33, zl_34, zl_35, zl_36, zl_37, zl_38, zl_39, zl_40, zl_41, zl_42, zl_43, zl_44, zl_45, zl_46, zl_47, zl_48, zl_49, zl_50, zl_51, zl_52, zl_53, zl_54, zl_55, zl_56, zl_57, zl_58, zl_59, zl_60, zl_61, zl_62, zl_63, zl_64, zl_97, zl_99, zl_100, zl_126, zl_255, zl_434, zl_496, zl_1000000, zl_100000, z_lt, z_le, z_eq, inB_z, z_div, Int.reduceToNat, Wp_some, Nx_l, Nx_r, cI_i, cV_v, cL_l, ite_t, ite_f, z_nn, toNat_c, bz_e0, e3']
    rfl
  rw [if_neg (by rw [z_eq (by omega) (by omega) (by omega) (by omega)]; omega), Wp_some, Nx_l, if_neg h0, bz_f h0]
  refine RunP.loop (fun i ls D' => D' = setI D 140 (z 0) ∧ 1 ≤ i ∧ ls = [z (bcF (fun n => cnt (flB v n) 36) i), z i]) (v 3) 1 1 ?_ ?_ 1 _ _ (by omega) ⟨rfl, by omega, ?_⟩ (by omega)
  · rintro i ls D' c hi ⟨rfl, hi1, rfl⟩ hkk
    have e3' := hM' (z 0) 3 (by omega)
    have hb := bcF_lt (fun n => cnt (flB v n) 36) i (by omega)
    have hle := cnt_le (flB v i) 36
    have hle2 := cnt_le (flB v (bcF (fun n => cnt (flB v n) 36) i)) 36
    refine RunP.go ?_
    show Wp (b_X13_bestCharge_1 _ _ _) _
    unfold b_X13_bestCharge_1
    simp (disch := omega) only [z_add, z_sub, z_mul, z_neg, ite_T, ite_F, zl_0, zl_1, zl_2, zl_3, zl_4, zl_5, zl_6, zl_7, zl_8, zl_9, zl_10, zl_11, zl_12, zl_13, zl_14, zl_15, zl_16, zl_17, zl_18, zl_19, zl_20, zl_21, zl_22, zl_23, zl_24, zl_25, zl_26, zl_27, zl_28, zl_29, zl_30, zl_31, zl_32, zl_33, zl_34, zl_35, zl_36, zl_37, zl_38, zl_39, zl_40, zl_41, zl_42, zl_43, zl_44, zl_45, zl_46, zl_47, zl_48, zl_49, zl_50, zl_51, zl_52, zl_53, zl_54, zl_55, zl_56, zl_57, zl_58, zl_59, zl_60, zl_61, zl_62, zl_63, zl_64, zl_97, zl_99, zl_100, zl_126, zl_255, zl_434, zl_496, zl_1000000, zl_100000, z_lt, z_le, z_eq, inB_z, z_div, Int.reduceToNat, Wp_some, Nx_l, Nx_r, cI_i, cV_v, cL_l, ite_t, ite_f, z_nn, toNat_c, bz_e0, e3', m_fallsOf (hM' (z 0)) hW hi, m_fallsOf (hM' (z 0)) hW (show bcF (fun n => cnt (flB v n) 36) i < v 3 by omega)]
    by_cases hlt : cnt (flB v i) 36 ≤ cnt (flB v (bcF (fun n => cnt (flB v n) 36) i)) 36
    · rw [if_pos (by omega), Wp_some, Nx_l]
      refine hkk _ _ ⟨rfl, by omega, ?_⟩
      rw [bcF_s, if_neg (by omega)]
      rfl
    · rw [if_neg (by omega), Wp_some, Nx_l]
      refine hkk _ _ ⟨rfl, by omega, ?_⟩
      rw [bcF_s, if_pos (by omega)]
      rfl
  · rintro ls D' ⟨rfl, hi1, rfl⟩
    have e3' := hM' (z 0) 3 (by omega)
    refine RunP.go ?_
    show Wp (b_X13_bestCharge_1 _ _ _) _
    unfold b_X13_bestCharge_1
    simp (disch := omega) only [z_add, z_sub, z_mul, z_neg, ite_T, ite_F, zl_0, zl_1, zl_2, zl_3, zl_4, zl_5, zl_6, zl_7, zl_8, zl_9, zl_10, zl_11, zl_12, zl_13, zl_14, zl_15, zl_16, zl_17, zl_18, zl_19, zl_20, zl_21, zl_22, zl_23, zl_24, zl_25, zl_26, zl_27, zl_28, zl_29, zl_30, zl_31, zl_32, zl_33, zl_34, zl_35, zl_36, zl_37, zl_38, zl_39, zl_40, zl_41, zl_42, zl_43, zl_44, zl_45, zl_46, zl_47, zl_48, zl_49, zl_50, zl_51, zl_52, zl_53, zl_54, zl_55, zl_56, zl_57, zl_58, zl_59, zl_60, zl_61, zl_62, zl_63, zl_64, zl_97, zl_99, zl_100, zl_126, zl_255, zl_434, zl_496, zl_1000000, zl_100000, z_lt, z_le, z_eq, inB_z, z_div, Int.reduceToNat, Wp_some, Nx_l, Nx_r, cI_i, cV_v, cL_l, ite_t, ite_f, z_nn, toNat_c, bz_e0, e3']
  · have : bcF (fun n => cnt (flB v n) 36) 1 = 0 := by
      have := bcF_lt (fun n => cnt (flB v n) 36) 1 (by omega)
      omega
    rw [this]
    rfl
theorem c_bestCharge (hD : Inv D) : Ce S_L_bestCharge S_X13_bestCharge D := by
  obtain ⟨v, n, nx, p, sf, sv, e, f, ln, L, tn, T, hI⟩ := hD
  obtain ⟨hC, hP, hM, hQ, hJ⟩ := id hI
  have hW := hJ.1
  have h6 := hW.2.1
  by_cases h0 : v 3 = 0
  · refine q_no (k := 1) hI (by omega) ?_ (fun E hE => ⟨_, _, m_bestCharge hE hW, fm140, by rw [bz_t h0]; exact setI_same _ _ _⟩)
    have : S_X12_bestCharge D = some (5, none, D) := by
      unfold S_X12_bestCharge
      refine RunP.eqn (c := 1) ?_ (by decide)
      refine RunP.go ?_
      show Wp (b_X12_bestCharge_0 _) _
      unfold b_X12_bestCharge_0
      rw [hC.2.2.2.2.1, h0, if_pos (by decide), Wp_some, Nx_r]
    unfold S_L_bestCharge
    rw [this]
    rfl
  · obtain ⟨D1, q1, q2⟩ := s_bestCharge hC hW (by omega)
    refine q_ok (D1 := D1) (a := z (bcF (fun n => cnt (flB v n) 36) (v 3))) hI ?_ q2 (fun E hE => ⟨setI E 140 (z 0), ?_, fm140, setI_same _ _ _⟩)
    · unfold S_L_bestCharge
      rw [q1]
      rfl
    · have := m_bestCharge hE hW
      rw [if_neg h0, bz_f h0] at this
      exact this
theorem s_chainsAgree (hC : CS D v) (hW : WF v) : ∃ D', S_X12_chainsAgree D = some (0, some (.int (z 1)), D') ∧ FC D D' := by
  have h6 := hW.2.1
  have key : ∃ r, run T_X12_chainsAgree FUEL 0 [] D = some r ∧ ∃ D', r = (0, some (.int (z 1)), D') ∧ FC D D' := by
    refine RunP.fin (c := 100) ?_ (by decide)
    refine RunP.go ?_
    show Wp (b_X12_chainsAgree_0 _) _
    unfold b_X12_chainsAgree_0
    simp only [Int.reduceToNat, Wp_some, Nx_l, Nx_r, cI_i, cV_v, cL_l, ite_t, ite_f, z_nn, toNat_c, bz_e0, z_add, z_sub, z_mul, z_neg, ite_T, ite_F, zl_0, zl_1, zl_2, zl_3, zl_4, zl_5, zl_6, zl_7, zl_8, zl_9, zl_10, zl_11, zl_12, zl_13, zl_14, zl_15, zl_16, zl_17, zl_18, zl_19, zl_20, zl_21, zl_22, zl_23, zl_24, zl_25, zl_26, zl_27, zl_28, zl_29, zl_30, zl_31, zl_32, zl_33, zl_34, zl_35, zl_36, zl_37, zl_38, zl_39, zl_40, zl_41, zl_42, zl_43, zl_44, zl_45, zl_46, zl_47, zl_48, zl_49, zl_50, zl_51, zl_52, zl_53, zl_54, zl_55, zl_56, zl_57, zl_58, zl_59, zl_60, zl_61, zl_62, zl_63, zl_64, zl_97, zl_99, zl_100, zl_126, zl_255, zl_434, zl_496, zl_1000000, zl_100000]
    refine RunP.loop (fun i ls D' => ls = [z i] ∧ FC D D') (v 3) 1 1 ?_ ?_ 0 _ _ (by omega) ⟨rfl, FC.rfl⟩ (by omega)
    · rintro i ls D' c hi ⟨rfl, hf⟩ hkk
      have hC' := hC.fc hf
      obtain ⟨D2, q1, q2⟩ := s_countByRounds hC' hW hi
      obtain ⟨D3, E, O, ord, r1, r2, r3, r4, r5⟩ := s_run (hC'.fc q2) hW hi
      have hB := r3.cg r4 r5
      refine RunP.go ?_
      show Wp (b_X12_chainsAgree_1 _ _) _
      unfold b_X12_chainsAgree_1
      rw [hC'.2.2.2.2.1, if_neg (by rw [z_le (by omega) (by omega) (by omega) (by omega)]; omega), q1, cI_i, r1, cV_v, hB.2.2.1, if_pos rfl, Wp_some, Nx_l, show (1 : Int32) = z 1 from rfl, z_add]
      exact hkk _ _ ⟨rfl, (hf.trans q2).trans r2⟩
    · rintro ls D' ⟨rfl, hf⟩
      refine RunP.go ?_
      show Wp (b_X12_chainsAgree_1 _ _) _
      unfold b_X12_chainsAgree_1
      rw [(hC.fc hf).2.2.2.2.1, if_pos (by rw [z_le (by omega) (by omega) (by omega) (by omega)]; omega), Wp_some, Nx_r]
      exact ⟨D', rfl, hf⟩
  obtain ⟨r, h1, D', rfl, h2⟩ := key
  exact ⟨D', h1, h2⟩
theorem s_wallAgree (hC : CS D v) (hW : WF v) : ∃ D', S_X12_wallAnswersAgree D = some (0, some (.int (z 1)), D') ∧ FC D D' := by
  obtain ⟨D1, A1, a1, a2, a3⟩ := s_costByNearest hC hW
  obtain ⟨D2, A2, b1, b2, b3⟩ := s_costByRounds (hC.fc a2) hW
  obtain ⟨D3, K, c1, c2, c3⟩ := s_countByMoving ((hC.fc a2).fc b2) hW
  obtain ⟨D4, d1, d2⟩ := s_countByCells (((hC.fc a2).fc b2).fc c2) hW c3
  obtain ⟨A5, e1, e3⟩ := s_sizeByRectangles ((((hC.fc a2).fc b2).fc c2).fc d2) hW
  obtain ⟨D6, A6, f1, f2, f3⟩ := s_sizeByHeights ((((hC.fc a2).fc b2).fc c2).fc d2) hW
  refine ⟨D6, ?_, (((a2.trans b2).trans c2).trans d2).trans f2⟩
  unfold S_X12_wallAnswersAgree
  rw [a1, cI_i, b1, cI_i, a3.uniq b3, if_pos rfl, c1, cI_i, d1, cI_i, if_pos rfl, e1, cI_i, f1, cI_i, e3.uniq f3, if_pos rfl]
  rfl
theorem c_isConsistent (hD : Inv D) : Cd S_X12_isConsistent S_X13_isConsistent D := by
  obtain ⟨v, n, nx, p, sf, sv, e, f, ln, L, tn, T, hI⟩ := hD
  obtain ⟨hC, hP, hM, hQ, hJ⟩ := id hI
  have hW := hJ.1
  have hop := hW.opn
  have w5 := hW.2.2.2.2.1
  have w6 := hW.2.2.2.2.2.1
  obtain ⟨D1, a1, a2⟩ := s_chainsAgree hC hW
  obtain ⟨D2, b1, b2⟩ := s_wallAgree (hC.fc a2) hW
  obtain ⟨D3, c1, c2⟩ := s_cutsAgree ((hC.fc a2).fc b2) hW
  have hC3 := ((hC.fc a2).fc b2).fc c2
  refine d_ok (D1 := D3) (a := z 1) hI ?_ ((a2.trans b2).trans c2) (fun E hE => ⟨setI E 140 (z 0), ?_, fm140⟩)
  · unfold S_X12_isConsistent
    rw [a1, cI_i, if_neg (by decide), b1, cI_i, if_neg (by decide), c1, cI_i, if_neg (by decide), hC3.2.2.2.2.2.1, hC3.2.2.2.2.2.2.1, hC3.2.2.2.2.2.2.2.1, z_sub, if_pos rfl]
    rfl
  · unfold S_X13_isConsistent
    simp (disch := omega) only [z_add, z_sub, z_mul, z_neg, ite_T, ite_F, zl_0, zl_1, zl_2, zl_3, zl_4, zl_5, zl_6, zl_7, zl_8, zl_9, zl_10, zl_11, zl_12, zl_13, zl_14, zl_15, zl_16, zl_17, zl_18, zl_19, zl_20, zl_21, zl_22, zl_23, zl_24, zl_25, zl_26, zl_27, zl_28, zl_29, zl_30, zl_31, zl_32, zl_33, zl_34, zl_35, zl_36, zl_37, zl_38, zl_39, zl_40, zl_41, zl_42, zl_43, zl_44, zl_45, zl_46, zl_47, zl_48, zl_49, zl_50, zl_51, zl_52, zl_53, zl_54, zl_55, zl_56, zl_57, zl_58, zl_59, zl_60, zl_61, zl_62, zl_63, zl_64, zl_97, zl_99, zl_100, zl_126, zl_255, zl_434, zl_496, zl_1000000, zl_100000, z_lt, z_le, z_eq, inB_z, z_div, Int.reduceToNat, Wp_some, Nx_l, Nx_r, cI_i, cV_v, cL_l, ite_t, ite_f, z_nn, toNat_c, bz_e0, hE 1 (by omega), hE 2 (by omega)]
theorem c_errorPosition (hD : Inv D) : Ce S_L_errorPosition S_X13_errorPosition D := by
  obtain ⟨v, n, nx, p, sf, sv, e, f, ln, L, tn, T, hI⟩ := hD
  obtain ⟨hC, hP, hM, hQ, hJ⟩ := id hI
  have hW := hJ.1
  obtain ⟨-, -, -, -, -, ⟨he1, he2⟩, -⟩ := hJ
  have g1 := hP.2.2.1.1
  by_cases h : e = -1
  · have hE2 : ∀ E, (∃ a E', S_X13_errorPosition E = some (0, some (.int a), E') ∧ FM E E' ∧ E'.1 140 = z 1) ∨ E.1 142 ≠ z e := by
      intro E
      by_cases q : E.1 142 = z e
      · refine Or.inl ⟨z 0, setI E 140 (z 1), ?_, fm140, setI_same _ _ _⟩
        unfold S_X13_errorPosition
        rw [q, h]
        rfl
      · exact Or.inr q
    rcases hE2 D with ⟨a, E', r1, r2, r3⟩ | q
    · refine ce_no (k := 1) ?_ (by omega) hC hP ⟨a, E', r1, r2.fr.gm, r3, hM.fm r2, hQ.fr r2.fr⟩ hI.2.2.2.2
      unfold S_L_errorPosition S_X12_errorPosition
      rw [g1, h, if_pos (by decide)]
      rfl
    · exact absurd hQ.2.2.1.1 q
  · have r1 : S_X13_errorPosition (oL D (z e).toInt64) = some (0, some (.int (z e)), setI (oL D (z e).toInt64) 140 (z 0)) := by
      have q : (oL D (z e).toInt64).1 142 = z e := hQ.2.2.1.1
      unfold S_X13_errorPosition
      rw [q, if_pos (by rw [show (0 : Int32) = z 0 from rfl, z_le (by omega) (by omega) (by omega) (by omega)]; omega), if_pos rfl]
      rfl
    refine ce_ok (D1 := D) (a := z e) ?_ hC hP ⟨_, r1, fm140.fr.gm, setI_same _ _ _, hM, IQ.fr (D := oL D (z e).toInt64) hQ fm140.fr⟩ hI.2.2.2.2
    unfold S_L_errorPosition S_X12_errorPosition
    rw [g1, if_neg (by rw [show (-1 : Int32) = z (-1) from rfl, z_eq (by omega) (by omega) (by omega) (by omega)]; omega)]
    rfl
theorem c_failedCommand (hD : Inv D) : Ce S_L_failedCommand S_X13_failedCommand D := by
  obtain ⟨v, n, nx, p, sf, sv, e, f, ln, L, tn, T, hI⟩ := hD
  obtain ⟨hC, hP, hM, hQ, hJ⟩ := id hI
  have hW := hJ.1
  obtain ⟨-, -, -, -, -, -, ⟨he1, he2⟩, -⟩ := hJ
  have g1 := hP.2.2.1.2
  by_cases h : f = -1
  · have r1 : S_X13_failedCommand D = some (0, some (.int (z 0)), setI D 140 (z 1)) := by
      unfold S_X13_failedCommand
      rw [hQ.2.2.1.2, h]
      rfl
    refine ce_no (k := 1) ?_ (by omega) hC hP ⟨_, _, r1, fm140.fr.gm, setI_same _ _ _, hM, hQ.fr fm140.fr⟩ hI.2.2.2.2
    unfold S_L_failedCommand S_X12_failedCommand
    rw [g1, h, if_pos (by decide)]
    rfl
  · have r1 : S_X13_failedCommand (oL D (z f).toInt64) = some (0, some (.int (z f)), setI (oL D (z f).toInt64) 140 (z 0)) := by
      have q : (oL D (z f).toInt64).1 143 = z f := hQ.2.2.1.2
      unfold S_X13_failedCommand
      rw [q, if_pos (by rw [show (0 : Int32) = z 0 from rfl, z_le (by omega) (by omega) (by omega) (by omega)]; omega), if_pos rfl]
      rfl
    refine ce_ok (D1 := D) (a := z f) ?_ hC hP ⟨_, r1, fm140.fr.gm, setI_same _ _ _, hM, IQ.fr (D := oL D (z f).toInt64) hQ fm140.fr⟩ hI.2.2.2.2
    unfold S_L_failedCommand S_X12_failedCommand
    rw [g1, if_neg (by rw [show (-1 : Int32) = z (-1) from rfl, z_eq (by omega) (by omega) (by omega) (by omega)]; omega)]
    rfl
theorem c_undo (hD : Inv D) : Ce S_L_undo S_X13_undo D := by
  obtain ⟨v, n, nx, p, sf, sv, e, f, ln, L, tn, T, hI⟩ := hD
  obtain ⟨hC, hP, hM, hQ, hJ⟩ := id hI
  have hW := hJ.1
  obtain ⟨-, hn, hnx, hpW, hJ5⟩ := hJ
  obtain ⟨p1, p2, p3, p4, p5⟩ := hP
  have hHM := hQ.1
  by_cases h0 : n = 0
  · subst h0
    refine ce_no (k := 1) ?_ (by omega) hC ⟨p1, p2, p3, p4, p5⟩ ⟨_, _, m_undo_no hHM.1, fm140.fr.gm, setI_same _ _ _, hM, hQ.fr fm140.fr⟩ hI.2.2.2.2
    unfold S_L_undo S_X12_undo
    rw [p1.2.1, if_pos (by decide)]
    rfl
  · have hWp := hpW (n - 1) (by omega)
    obtain ⟨D1, q1, q2, q3, q4, q5, q6, q7⟩ := s_takeBack p1 (by omega) hn hnx hWp.2.1
    obtain ⟨g, r1, r2⟩ := m_undo_ok (D := oL D1 (z ((n - 1 : Nat))).toInt64) (p := p) (n := n) (by
      refine ⟨?_, fun i hi k hk => ?_⟩
      · show D1.1 141 = _
        rw [q4 141 (by omega)]
        exact hHM.1
      · show D1.2.2.1 73 (62 * i + k) = _
        rw [q6 73 (by omega)]
        exact hHM.2 i hi k hk) (by omega) hn
    have hS : S_X12_undo D = some (0, some (.int (z ((n - 1 : Nat)))), D1) := by
      unfold S_X12_undo
      rw [p1.2.1, if_neg (by rw [show (0 : Int32) = z 0 from rfl, z_eq (by omega) (by omega) (by omega) (by omega)]; omega), q1, cI_i]
    have hg : FG (fun k => k == 140 || k == 141) n0 (fun k => k == 70) false (oL D1 (z ((n - 1 : Nat))).toInt64) (setA (setI (setI (oL D1 (z ((n - 1 : Nat))).toInt64) 140 (z 0)) 141 (z ((n - 1 : Nat)))) 70 g) := ((FG.rfl.sI rfl).sI rfl).sA rfl
    have hQ1 : IQ (oL D1 (z ((n - 1 : Nat))).toInt64) n p sf sv e f ln L tn T := hQ.ag (E := oL D1 (z ((n - 1 : Nat))).toInt64) (fun k hk => q4 k (by omega)) (fun k hk => q6 k (by omega))
    refine ce_ok (D1 := D1) (a := z ((n - 1 : Nat))) (n' := n - 1) (nx' := (nx + 7) % 8) (p' := p) (v' := p (n - 1)) (by unfold S_L_undo; rw [hS]; rfl) q2 ⟨q3, p2.ag (q4 _ (by omega)) (fun k _ _ => q4 k (by omega)) (q5 2 (by omega)) (fun k _ _ => q6 k (by omega)), ?_, ?_, ?_⟩ ⟨_, r1, ?_, ?_, r2.mr, ?_⟩ ⟨hWp, by omega, Nat.mod_lt _ (by omega), fun i hi => hpW i (by omega), hJ5⟩
    · unfold EC
      rw [q4 121 (by omega), q4 122 (by omega)]
      exact p3
    · unfold LC
      rw [q4 128 (by omega), q6 64 (by omega)]
      exact p4
    · unfold TC
      rw [q4 129 (by omega), q6 65 (by omega)]
      exact p5
    · exact FG.mono hg (fun k hk => by
        have : k < 140 := by simpa [gmI] using hk
        simp
        omega) (fun k hk => hk) (fun k hk => by
        have : k < 70 := by simpa [gmA] using hk
        simp
        omega) (fun h => h)
    · rfl
    · obtain ⟨x1, x2, x3, x4, x5, x6⟩ := hQ1
      exact ⟨⟨rfl, fun i hi k hk => x1.2 i (by omega) k hk⟩, x2, x3, x4, x5, x6⟩
theorem c_save (hD : Inv D) : Cd S_X12_save S_X13_save D := by
  obtain ⟨v, n, nx, p, sf, sv, e, f, ln, L, tn, T, hI⟩ := hD
  obtain ⟨hC, hP, hM, hQ, hJ⟩ := id hI
  have hW := hJ.1
  obtain ⟨-, hn, hnx, hpW, hsW, hJ5⟩ := hJ
  obtain ⟨p1, p2, p3, p4, p5⟩ := hP
  obtain ⟨x1, x2, x3, x4, x5, x6⟩ := hQ
  have h6 := hW.2.1
  obtain ⟨D1, hD1⟩ : ∃ D1, D1 = setI (cp 2 0 D) 120 (z 1) := ⟨_, rfl⟩
  have fi : ∀ k, (k < 20 ∨ 24 ≤ k) → k ≠ 120 → D1.1 k = D.1 k := fun k h1 h2 => by rw [hD1, setI_1, if_neg h2, cp_i (by omega)]
  have fj : ∀ k, k ≠ 2 → D1.2.1 k = D.2.1 k := fun k h1 => by
    rw [hD1]
    show (cp 2 0 D).2.1 k = _
    exact cp_j h1
  have fa : ∀ k, (k < 8 ∨ 12 ≤ k) → D1.2.2.1 k = D.2.2.1 k := fun k h1 => by
    rw [hD1]
    show (cp 2 0 D).2.2.1 k = _
    exact cp_a (by omega)
  have hC1 : CS D1 v := QS.ag (o := 0) hC (fun k _ _ => fi k (by omega) (by omega)) (fj 0 (by omega)) (fun k _ _ => fa k (by omega))
  have hN1 : NC D1 true v := by
    refine ⟨by rw [hD1, setI_1, if_pos rfl]; rfl, fun _ => ?_⟩
    rw [hD1]
    exact (cp_QS (a := 2) (b := 0) hC h6).ag (fun k _ _ => by rw [setI_1, if_neg (by omega)]) rfl (fun k _ _ => rfl)
  have hS : S_X12_save D = some (0, some (.int (z (v 3))), D1) := by
    have e : (cp 2 0 D).1 0 = z (v 3) := by rw [cp_i (by omega)]; exact hC.2.2.2.2.1
    rw [hD1, ← e]
    rfl
  have hM1 : MR D1 v := by
    unfold MR
    rw [fa 70 (by omega)]
    exact hM
  obtain ⟨g, r1, r2⟩ := m_lays_m_saved_m_v (setI D1 140 (z 0))
  have hR : S_X13_save D1 = some (0, some (.int (z (v 3))), setI (setA (setI D1 140 (z 0)) 72 g) 144 (z 1)) := by
    unfold S_X13_save
    have e : (setA (setI D1 140 (z 0)) 72 g).2.2.1 70 3 = z (v 3) := hM1 3 (by omega)
    rw [show (0 : Int32) = z 0 from rfl, r1, cV_v, show (3 : Int32).toNatClampNeg = 3 by decide, e]
    rfl
  have hg : FG (fun k => k == 140 || k == 144) n0 (fun k => k == 72) false D1 (setI (setA (setI D1 140 (z 0)) 72 g) 144 (z 1)) := ((FG.rfl.sI rfl).sA rfl).sI rfl
  have hgm : GM D1 (setI (setA (setI D1 140 (z 0)) 72 g) 144 (z 1)) := FG.mono hg (fun k hk => by
    have : k < 140 := by simpa [gmI] using hk
    simp
    omega) (fun k hk => hk) (fun k hk => by
    have : k < 70 := by simpa [gmA] using hk
    simp
    omega) (fun h => h)
  have hP1 : IP D1 n nx p true v e f ln L tn T := by
    refine ⟨p1.ag (fi _ (by omega) (by omega)) (fi _ (by omega) (by omega)) (fun k _ _ => fi k (by omega) (by omega)) (fun k _ _ => fj k (by omega)) (fun k _ _ => fa k (by omega)), hN1, ?_, ?_, ?_⟩
    · unfold EC
      rw [fi 121 (by omega) (by omega), fi 122 (by omega) (by omega)]
      exact p3
    · unfold LC
      rw [fi 128 (by omega) (by omega), fa 64 (by omega)]
      exact p4
    · unfold TC
      rw [fi 129 (by omega) (by omega), fa 65 (by omega)]
      exact p5
  refine ⟨_, _, _, hS, hR, v, n, nx, p, true, v, e, f, ln, L, tn, T, hC1.gm hgm, hP1.gm hgm, ?_, ⟨?_, ?_, ?_, ?_, ?_, ?_⟩, hW, hn, hnx, hpW, fun _ => hW, hJ5⟩
  · unfold MR
    rw [hg.2.2.1 70 rfl]
    exact hM1
  · unfold HM
    rw [hg.1 141 rfl, hg.2.2.1 73 rfl, fi 141 (by omega) (by omega), fa 73 (by omega)]
    exact x1
  · refine ⟨rfl, fun _ k hk => ?_⟩
    show (setA (setI D1 140 (z 0)) 72 g).2.2.1 72 k = _
    rw [setA_same, r2 k hk]
    exact hM1 k hk
  · unfold EM
    rw [hg.1 142 rfl, hg.1 143 rfl, fi 142 (by omega) (by omega), fi 143 (by omega) (by omega)]
    exact x3
  · unfold LM
    rw [hg.1 148 rfl, hg.2.2.1 80 rfl, fi 148 (by omega) (by omega), fa 80 (by omega)]
    exact x4
  · unfold TM
    rw [hg.1 145 rfl, hg.2.2.1 79 rfl, fi 145 (by omega) (by omega), fa 79 (by omega)]
    exact x5
  · unfold WM
    rw [hg.2.2.1 82 rfl, hg.2.2.1 83 rfl, fa 82 (by omega), fa 83 (by omega)]
    exact x6
theorem c_restore (hD : Inv D) : Ce S_L_restore S_X13_restore D := by
  obtain ⟨v, n, nx, p, sf, sv, e, f, ln, L, tn, T, hI⟩ := hD
  obtain ⟨hC, hP, hM, hQ, hJ⟩ := id hI
  have hW := hJ.1
  obtain ⟨-, hn, hnx, hpW, hsW, hJ5⟩ := hJ
  obtain ⟨p1, p2, p3, p4, p5⟩ := hP
  obtain ⟨x1, x2, x3, x4, x5, x6⟩ := id hQ
  cases hsf : sf with
  | false =>
    subst hsf
    have r1 : S_X13_restore D = some (0, some (.int (z 0)), setI D 140 (z 1)) := by
      unfold S_X13_restore
      rw [x2.1, if_pos (by decide), if_neg (by decide)]
      rfl
    refine ce_no (k := 1) ?_ (by omega) hC ⟨p1, p2, p3, p4, p5⟩ ⟨_, _, r1, fm140.fr.gm, setI_same _ _ _, hM, hQ.fr fm140.fr⟩ hI.2.2.2.2
    unfold S_L_restore S_X12_restore
    rw [p2.1, if_pos (by decide)]
    rfl
  | true =>
    subst hsf
    have hWs := hsW rfl
    obtain ⟨D1, hD1⟩ : ∃ D1, D1 = setI (cp 0 2 D) 124 (z 0) := ⟨_, rfl⟩
    have fi : ∀ k, 4 ≤ k → k ≠ 124 → D1.1 k = D.1 k := fun k h1 h2 => by rw [hD1, setI_1, if_neg h2, cp_i (by omega)]
    have fj : ∀ k, k ≠ 0 → D1.2.1 k = D.2.1 k := fun k h1 => by
      rw [hD1]
      show (cp 0 2 D).2.1 k = _
      exact cp_j h1
    have fa : ∀ k, 4 ≤ k → D1.2.2.1 k = D.2.2.1 k := fun k h1 => by
      rw [hD1]
      show (cp 0 2 D).2.2.1 k = _
      exact cp_a (by omega)
    have hC1 : CS D1 sv := by
      rw [hD1]
      exact QS.ag (o := 0) (cp_QS (a := 0) (b := 2) (p2.2 rfl) hWs.2.1) (fun k _ _ => by rw [setI_1, if_neg (by omega)]) rfl (fun k _ _ => rfl)
    have hS : S_X12_restore D = some (0, some (.int (z (sv 3))), D1) := by
      have e : (setI (cp 0 2 D) 124 (z 0)).1 0 = z (sv 3) := by rw [← hD1]; exact hC1.2.2.2.2.1
      unfold S_X12_restore
      rw [p2.1, if_neg (by decide), hD1, ← e]
      rfl
    obtain ⟨g, r1, r2⟩ := m_lays_m_v_m_saved (setI (oL D1 (z (sv 3)).toInt64) 140 (z 0))
    have r3 : RV g sv := fun k hk => by
      rw [r2 k hk]
      show D1.2.2.1 72 k = _
      rw [fa 72 (by omega)]
      exact x2.2 rfl k hk
    have hR : S_X13_restore (oL D1 (z (sv 3)).toInt64) = some (0, some (.int (z (sv 3))), setI (setA (setI (oL D1 (z (sv 3)).toInt64) 140 (z 0)) 70 g) 141 (z 0)) := by
      have e : (setA (setI (oL D1 (z (sv 3)).toInt64) 140 (z 0)) 70 g).2.2.1 70 3 = z (sv 3) := by rw [setA_same]; exact r3 3 (by omega)
      have e2 : (oL D1 (z (sv 3)).toInt64).1 144 = z (zb true) := by
        show D1.1 144 = _
        rw [fi 144 (by omega) (by omega)]
        exact x2.1
      unfold S_X13_restore
      rw [e2, if_neg (by decide), if_pos (by decide), show (0 : Int32) = z 0 from rfl, r1, cV_v, show (3 : Int32).toNatClampNeg = 3 by decide, e]
    have hg : FG (fun k => k == 140 || k == 141) n0 (fun k => k == 70) false (oL D1 (z (sv 3)).toInt64) (setI (setA (setI (oL D1 (z (sv 3)).toInt64) 140 (z 0)) 70 g) 141 (z 0)) := ((FG.rfl.sI rfl).sA rfl).sI rfl
    have hP1 : IP D1 0 nx p true sv e f ln L tn T := by
      refine ⟨⟨by rw [fi 123 (by omega) (by omega)]; exact p1.1, by rw [hD1, setI_1, if_pos rfl]; rfl, fun i hi => by omega⟩, p2.ag (fi _ (by omega) (by omega)) (fun k _ _ => fi k (by omega) (by omega)) (fj 2 (by omega)) (fun k _ _ => fa k (by omega)), ?_, ?_, ?_⟩
      · unfold EC
        rw [fi 121 (by omega) (by omega), fi 122 (by omega) (by omega)]
        exact p3
      · unfold LC
        rw [fi 128 (by omega) (by omega), fa 64 (by omega)]
        exact p4
      · unfold TC
        rw [fi 129 (by omega) (by omega), fa 65 (by omega)]
        exact p5
    refine ce_ok (D1 := D1) (a := z (sv 3)) (v' := sv) (n' := 0) (nx' := nx) (p' := p) (by unfold S_L_restore; rw [hS]; rfl) hC1 hP1 ⟨_, hR, ?_, rfl, ?_, ⟨rfl, fun i hi => by omega⟩, ⟨?_, ?_⟩, ?_, ?_, ?_, ?_⟩ ⟨hWs, by omega, hnx, fun i hi => by omega, fun _ => hWs, hJ5⟩
    · exact FG.mono hg (fun k hk => by
        have : k < 140 := by simpa [gmI] using hk
        simp
        omega) (fun k hk => hk) (fun k hk => by
        have : k < 70 := by simpa [gmA] using hk
        simp
        omega) (fun h => h)
    · exact r3.mr
    · rw [hg.1 144 rfl]
      show D1.1 144 = _
      rw [fi 144 (by omega) (by omega)]
      exact x2.1
    · rw [hg.2.2.1 72 rfl]
      show true = true → ∀ k, k < 62 → D1.2.2.1 72 k = _
      rw [fa 72 (by omega)]
      exact x2.2
    · unfold EM
      rw [hg.1 142 rfl, hg.1 143 rfl]
      show D1.1 142 = _ ∧ D1.1 143 = _
      rw [fi 142 (by omega) (by omega), fi 143 (by omega) (by omega)]
      exact x3
    · unfold LM
      rw [hg.1 148 rfl, hg.2.2.1 80 rfl]
      show D1.1 148 = _ ∧ ∀ i, i < ln → D1.2.2.1 80 i = _
      rw [fi 148 (by omega) (by omega), fa 80 (by omega)]
      exact x4
    · unfold TM
      rw [hg.1 145 rfl, hg.2.2.1 79 rfl]
      show D1.1 145 = _ ∧ ∀ i, i < tn → D1.2.2.1 79 i = _
      rw [fi 145 (by omega) (by omega), fa 79 (by omega)]
      exact x5
    · unfold WM
      rw [hg.2.2.1 82 rfl, hg.2.2.1 83 rfl]
      show D1.2.2.1 82 = _ ∧ D1.2.2.1 83 = _
      rw [fa 82 (by omega), fa 83 (by omega)]
      exact x6
end LL
