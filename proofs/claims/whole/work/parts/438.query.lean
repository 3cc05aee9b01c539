/-! pure: the calls that only tell, both sides -/
def Cd (SX SM : DD → Option RT) (D : DD) : Prop := ∃ (a : Int32) (D1 D2 : DD), SX D = some (0, some (.int a), D1) ∧ SM D1 = some (0, some (.int a), D2) ∧ Inv D2
def CdL (SX SM : DD → Option RT) (D : DD) : Prop := ∃ (a : Int64) (D1 D2 : DD), SX D = some (0, some (.long a), D1) ∧ SM D1 = some (0, some (.long a), D2) ∧ Inv D2
section LL
variable {D D1 E : DD} {v : Nat → Nat} {n nx : Nat} {p : Nat → Nat → Nat} {sf : Bool} {sv : Nat → Nat} {e f : Int} {ln : Nat} {L : Nat → Nat} {tn : Nat} {T : Nat → Nat} {SL SM : DD → Option RT}
theorem q_ok {a : Int32} (hI : IV D v n nx p sf sv e f ln L tn T) (hS : SL D = some (0, some (.int (z 0)), oL D1 a.toInt64)) (hf : FC D D1) (hR : ∀ E, MR E v → ∃ E', SM E = some (0, some (.int a), E') ∧ FM E E' ∧ E'.1 140 = z 0) : Ce SL SM D := by
  obtain ⟨h1, h2, h3, h4, h5⟩ := hI
  have m1 : MR D1 v := h3.fc hf
  have m2 := h4.gc hf.fa.gc
  obtain ⟨E', r1, r2, r3⟩ := hR (oL D1 a.toInt64) m1
  exact ce_ok hS (h1.fc hf) (h2.fa hf.fa) ⟨E', r1, r2.fr.gm, r3, MR.fm (D := oL D1 a.toInt64) m1 r2, IQ.fr (D := oL D1 a.toInt64) m2 r2.fr⟩ h5
theorem q_no {k : Int} (hI : IV D v n nx p sf sv e f ln L tn T) (hk : 1 ≤ k ∧ k < 100) (hS : SL D = some (0, some (.int (z k)), D)) (hR : ∀ E, MR E v → ∃ a E', SM E = some (0, some (.int a), E') ∧ FM E E' ∧ E'.1 140 = z k) : Ce SL SM D := by
  obtain ⟨h1, h2, h3, h4, h5⟩ := hI
  obtain ⟨a, E', r1, r2, r3⟩ := hR D h3
  exact ce_no hS hk h1 h2 ⟨a, E', r1, r2.fr.gm, r3, h3.fm r2, h4.fr r2.fr⟩ h5
theorem d_ok {a : Int32} (hI : IV D v n nx p sf sv e f ln L tn T) (hS : SL D = some (0, some (.int a), D1)) (hf : FC D D1) (hR : ∀ E, MR E v → ∃ E', SM E = some (0, some (.int a), E') ∧ FM E E') : Cd SL SM D := by
  obtain ⟨E', r1, r2⟩ := hR D1 (hI.2.2.1.fc hf)
  exact ⟨a, D1, E', hS, r1, _, _, _, _, _, _, _, _, _, _, _, _, hI.q hf r2⟩
theorem dL_ok {a : Int64} (hI : IV D v n nx p sf sv e f ln L tn T) (hS : SL D = some (0, some (.long a), D1)) (hf : FC D D1) (hR : ∀ E, MR E v → ∃ E', SM E = some (0, some (.long a), E') ∧ FM E E') : CdL SL SM D := by
  obtain ⟨E', r1, r2⟩ := hR D1 (hI.2.2.1.fc hf)
  exact ⟨a, D1, E', hS, r1, _, _, _, _, _, _, _, _, _, _, _, _, hI.q hf r2⟩
theorem fm140 {x : Int32} : FM D (setI D 140 x) := FM.rfl.sI rfl
theorem m_looks (hM : MR D v) (hW : WF v) {a : Int} (h1 : -2147483648 ≤ a) (h2 : a < 2147483648) : S_X13_looks (z a) D = some (0, some (.int (z (bz (0 ≤ a ∧ a < v 3)))), setI D 140 (z (bz (¬ (0 ≤ a ∧ a < v 3))))) := by
  unfold S_X13_looks
  rw [m_isCharge hM hW h1 h2, cI_i]
  by_cases h : 0 ≤ a ∧ a < v 3
  · rw [bz_t h, bz_f (fun q => q h)]
    rfl
  · rw [bz_f h, bz_t h]
    rfl
theorem c_chargeRow {a : Int} (h1 : -2147483648 ≤ a) (h2 : a < 2147483648) (hD : Inv D) : Ce (S_L_chargeRow (z a)) (S_X13_chargeRow (z a)) D := by
  obtain ⟨v, n, nx, p, sf, sv, e, f, ln, L, tn, T, hI⟩ := hD
  obtain ⟨hC, hP, hM, hQ, hJ⟩ := id hI
  have hW := hJ.1
  have hF := s_hasCharge hC hW h1 h2
  have h6 := hW.2.1
  by_cases hf : 0 ≤ a ∧ a < v 3
  · obtain ⟨c, hc⟩ := Int.eq_ofNat_of_zero_le hf.1
    subst hc
    have hn : c < v 3 := by omega
    have hcell := hW.2.2.1 c hn
    refine q_ok (D1 := D) (a := z ((v (40 + 2 * c) : Int) / 6)) hI ?_ FC.rfl (fun E hE => ?_)
    · have : S_X12_chargeRow (z c) D = some (0, some (.int (z ((v (40 + 2 * c) : Int) / 6))), D) := by
        unfold S_X12_chargeRow
        rw [hF, bz_t hf, cI_i, if_neg (by decide)]
        simp (disch := omega) only [z_add, z_sub, z_mul, z_neg, ite_T, ite_F, zl_0, zl_1, zl_2, zl_3, zl_4, zl_5, zl_6, zl_7, zl_8, zl_9, zl_10, zl_11, zl_12, zl_13, zl_14, zl_15, zl_16, zl_17, zl_18, zl_19, zl_20, zl_21, zl_22, zl_23, zl_24, zl_25, zl_26, zl_27, zl_28, zl_29, zl_30, zl_31, zl_32, zl_33, zl_34, zl_35, zl_36, zl_37, zl_38, zl_39, zl_40, zl_41, zl_42, zl_43, zl_44, zl_45, zl_46, zl_47, zl_48, zl_49, zl_50, zl_51, zl_52, zl_53, zl_54, zl_55, zl_56, zl_57, zl_58, zl_59, zl_60, zl_61, zl_62, zl_63, zl_64, zl_97, zl_99, zl_100, zl_126, zl_255, zl_434, zl_496, zl_1000000, zl_100000, z_lt, z_le, z_eq, inB_z, z_div, Int.reduceToNat, Wp_some, Nx_l, Nx_r, cI_i, cV_v, cL_l, ite_t, ite_f, z_nn, toNat_c, bz_e0, s_cellOf hC hW hn]
      unfold S_L_chargeRow
      rw [this]
      rfl
    · refine ⟨setI E 140 (z 0), ?_, fm140, setI_same _ _ _⟩
      have hE' : MR (setI E 140 (z 0)) v := hE
      skip
      unfold S_X13_chargeRow
      rw [m_looks hE hW (by omega) (by omega), bz_t hf, bz_f (fun q => q hf), cI_i, if_neg (by decide)]
      simp (disch := omega) only [z_add, z_sub, z_mul, z_neg, ite_T, ite_F, zl_0, zl_1, zl_2, zl_3, zl_4, zl_5, zl_6, zl_7, zl_8, zl_9, zl_10, zl_11, zl_12, zl_13, zl_14, zl_15, zl_16, zl_17, zl_18, zl_19, zl_20, zl_21, zl_22, zl_23, zl_24, zl_25, zl_26, zl_27, zl_28, zl_29, zl_30, zl_31, zl_32, zl_33, zl_34, zl_35, zl_36, zl_37, zl_38, zl_39, zl_40, zl_41, zl_42, zl_43, zl_44, zl_45, zl_46, zl_47, zl_48, zl_49, zl_50, zl_51, zl_52, zl_53, zl_54, zl_55, zl_56, zl_57, zl_58, zl_59, zl_60, zl_61, zl_62, zl_63, zl_64, zl_97, zl_99, zl_100, zl_126, zl_255, zl_434, zl_496, zl_1000000, zl_100000, z_lt, z_le, z_eq, inB_z, z_div, Int.reduceToNat, Wp_some, Nx_l, Nx_r, cI_i, cV_v, cL_l, ite_t, ite_f, z_nn, toNat_c, bz_e0, m_placeOf hE' (show c < 6 by omega)]
  · refine q_no (k := 1) hI (by omega) ?_ (fun E hE => ⟨z 0, setI E 140 (z 1), ?_, fm140, setI_same _ _ _⟩)
    · unfold S_L_chargeRow S_X12_chargeRow
      rw [hF, bz_f hf, cI_i]
      rfl
    · skip
      unfold S_X13_chargeRow
      rw [m_looks hE hW h1 h2, bz_f hf, bz_t hf, cI_i]
      rfl
theorem c_chargeColumn {a : Int} (h1 : -2147483648 ≤ a) (h2 : a < 2147483648) (hD : Inv D) : Ce (S_L_chargeColumn (z a)) (S_X13_chargeColumn (z a)) D := by
  obtain ⟨v, n, nx, p, sf, sv, e, f, ln, L, tn, T, hI⟩ := hD
  obtain ⟨hC, hP, hM, hQ, hJ⟩ := id hI
  have hW := hJ.1
  have hF := s_hasCharge hC hW h1 h2
  have h6 := hW.2.1
  by_cases hf : 0 ≤ a ∧ a < v 3
  · obtain ⟨c, hc⟩ := Int.eq_ofNat_of_zero_le hf.1
    subst hc
    have hn : c < v 3 := by omega
    have hcell := hW.2.2.1 c hn
    refine q_ok (D1 := D) (a := z ((v (40 + 2 * c) : Int) - (v (40 + 2 * c) : Int) / 6 * 6)) hI ?_ FC.rfl (fun E hE => ?_)
    · have : S_X12_chargeColumn (z c) D = some (0, some (.int (z ((v (40 + 2 * c) : Int) - (v (40 + 2 * c) : Int) / 6 * 6))), D) := by
        unfold S_X12_chargeColumn
        rw [hF, bz_t hf, cI_i, if_neg (by decide)]
        simp (disch := omega) only [z_add, z_sub, z_mul, z_neg, ite_T, ite_F, zl_0, zl_1, zl_2, zl_3, zl_4, zl_5, zl_6, zl_7, zl_8, zl_9, zl_10, zl_11, zl_12, zl_13, zl_14, zl_15, zl_16, zl_17, zl_18, zl_19, zl_20, zl_21, zl_22, zl_23, zl_24, zl_25, zl_26, zl_27, zl_28, zl_29, zl_30, zl_31, zl_32, zl_33, zl_34, zl_35, zl_36, zl_37, zl_38, zl_39, zl_40, zl_41, zl_42, zl_43, zl_44, zl_45, zl_46, zl_47, zl_48, zl_49, zl_50, zl_51, zl_52, zl_53, zl_54, zl_55, zl_56, zl_57, zl_58, zl_59, zl_60, zl_61, zl_62, zl_63, zl_64, zl_97, zl_99, zl_100, zl_126, zl_255, zl_434, zl_496, zl_1000000, zl_100000, z_lt, z_le, z_eq, inB_z, z_div, Int.reduceToNat, Wp_some, Nx_l, Nx_r, cI_i, cV_v, cL_l, ite_t, ite_f, z_nn, toNat_c, bz_e0, s_cellOf hC hW hn]
      unfold S_L_chargeColumn
      rw [this]
      rfl
    · refine ⟨setI E 140 (z 0), ?_, fm140, setI_same _ _ _⟩
      have hE' : MR (setI E 140 (z 0)) v := hE
      skip
      unfold S_X13_chargeColumn
      rw [m_looks hE hW (by omega) (by omega), bz_t hf, bz_f (fun q => q hf), cI_i, if_neg (by decide)]
      simp (disch := omega) only [z_add, z_sub, z_mul, z_neg, ite_T, ite_F, zl_0, zl_1, zl_2, zl_3, zl_4, zl_5, zl_6, zl_7, zl_8, zl_9, zl_10, zl_11, zl_12, zl_13, zl_14, zl_15, zl_16, zl_17, zl_18, zl_19, zl_20, zl_21, zl_22, zl_23, zl_24, zl_25, zl_26, zl_27, zl_28, zl_29, zl_30, zl_31, zl_32, zl_33, zl_34, zl_35, zl_36, zl_37, zl_38, zl_39, zl_40, zl_41, zl_42, zl_43, zl_44, zl_45, zl_46, zl_47, zl_48, zl_49, zl_50, zl_51, zl_52, zl_53, zl_54, zl_55, zl_56, zl_57, zl_58, zl_59, zl_60, zl_61, zl_62, zl_63, zl_64, zl_97, zl_99, zl_100, zl_126, zl_255, zl_434, zl_496, zl_1000000, zl_100000, z_lt, z_le, z_eq, inB_z, z_div, Int.reduceToNat, Wp_some, Nx_l, Nx_r, cI_i, cV_v, cL_l, ite_t, ite_f, z_nn, toNat_c, bz_e0, m_placeOf hE' (show c < 6 by omega)]
  · refine q_no (k := 1) hI (by omega) ?_ (fun E hE => ⟨z 0, setI E 140 (z 1), ?_, fm140, setI_same _ _ _⟩)
    · unfold S_L_chargeColumn S_X12_chargeColumn
      rw [hF, bz_f hf, cI_i]
      rfl
    · skip
      unfold S_X13_chargeColumn
      rw [m_looks hE hW h1 h2, bz_f hf, bz_t hf, cI_i]
      rfl
theorem c_chargeStrength {a : Int} (h1 : -2147483648 ≤ a) (h2 : a < 2147483648) (hD : Inv D) : Ce (S_L_chargeStrength (z a)) (S_X13_chargeStrength (z a)) D := by
  obtain ⟨v, n, nx, p, sf, sv, e, f, ln, L, tn, T, hI⟩ := hD
  obtain ⟨hC, hP, hM, hQ, hJ⟩ := id hI
  have hW := hJ.1
  have hF := s_hasCharge hC hW h1 h2
  have h6 := hW.2.1
  by_cases hf : 0 ≤ a ∧ a < v 3
  · obtain ⟨c, hc⟩ := Int.eq_ofNat_of_zero_le hf.1
    subst hc
    have hn : c < v 3 := by omega
    have hcell := hW.2.2.1 c hn
    refine q_ok (D1 := D) (a := z (v (41 + 2 * c))) hI ?_ FC.rfl (fun E hE => ?_)
    · have : S_X12_chargeStrength (z c) D = some (0, some (.int (z (v (41 + 2 * c)))), D) := by
        unfold S_X12_chargeStrength
        rw [hF, bz_t hf, cI_i, if_neg (by decide)]
        rw [s_strengthOf hC hW hn, cI_i]
      unfold S_L_chargeStrength
      rw [this]
      rfl
    · refine ⟨setI E 140 (z 0), ?_, fm140, setI_same _ _ _⟩
      have hE' : MR (setI E 140 (z 0)) v := hE
      skip
      unfold S_X13_chargeStrength
      rw [m_looks hE hW (by omega) (by omega), bz_t hf, bz_f (fun q => q hf), cI_i, if_neg (by decide)]
      rw [m_strength hE' (show c < 6 by omega), cI_i]
  · refine q_no (k := 1) hI (by omega) ?_ (fun E hE => ⟨z 0, setI E 140 (z 1), ?_, fm140, setI_same _ _ _⟩)
    · unfold S_L_chargeStrength S_X12_chargeStrength
      rw [hF, bz_f hf, cI_i]
      rfl
    · skip
      unfold S_X13_chargeStrength
      rw [m_looks hE hW h1 h2, bz_f hf, bz_t hf, cI_i]
      rfl
theorem c_chainOf {a : Int} (h1 : -2147483648 ≤ a) (h2 : a < 2147483648) (hD : Inv D) : Ce (S_L_chainOf (z a)) (S_X13_chainOf (z a)) D := by
  obtain ⟨v, n, nx, p, sf, sv, e, f, ln, L, tn, T, hI⟩ := hD
  obtain ⟨hC, hP, hM, hQ, hJ⟩ := id hI
  have hW := hJ.1
  have hF := s_hasCharge hC hW h1 h2
  have h6 := hW.2.1
  by_cases hf : 0 ≤ a ∧ a < v 3
  · obtain ⟨c, hc⟩ := Int.eq_ofNat_of_zero_le hf.1
    subst hc
    have hn : c < v 3 := by omega
    have hcell := hW.2.2.1 c hn
    obtain ⟨D1, EE1, OO1, ord, q1, q2, q3, q4, q5⟩ := s_run hC hW hn
    have hB := q3.cg q4 q5
    refine q_ok (D1 := D1) (a := z (cnt (chB v c) 6)) hI ?_ q2 (fun E hE => ?_)
    · have : S_X12_chainOf (z c) D = some (0, some (.int (z (cnt (chB v c) 6))), D1) := by
        unfold S_X12_chainOf
        rw [hF, bz_t hf, cI_i, if_neg (by decide)]
        rw [q1, cV_v, hB.2.2.1]
      unfold S_L_chainOf
      rw [this]
      rfl
    · refine ⟨setI E 140 (z 0), ?_, fm140, setI_same _ _ _⟩
      have hE' : MR (setI E 140 (z 0)) v := hE
      skip
      unfold S_X13_chainOf
      rw [m_looks hE hW (by omega) (by omega), bz_t hf, bz_f (fun q => q hf), cI_i, if_neg (by decide)]
      obtain ⟨m, g1, g2, g3⟩ := m_chain hE' hW hn
      rw [g2, cI_i, m_count g1, cI_i]
      have : pc6 m = cnt (chB v c) 6 := cnt_congr 6 g3
      rw [this]
  · refine q_no (k := 1) hI (by omega) ?_ (fun E hE => ⟨z 0, setI E 140 (z 1), ?_, fm140, setI_same _ _ _⟩)
    · unfold S_L_chainOf S_X12_chainOf
      rw [hF, bz_f hf, cI_i]
      rfl
    · skip
      unfold S_X13_chainOf
      rw [m_looks hE hW h1 h2, bz_f hf, bz_t hf, cI_i]
      rfl
theorem c_chainByRounds {a : Int} (h1 : -2147483648 ≤ a) (h2 : a < 2147483648) (hD : Inv D) : Ce (S_L_chainByRounds (z a)) (S_X13_chainByRounds (z a)) D := by
  obtain ⟨v, n, nx, p, sf, sv, e, f, ln, L, tn, T, hI⟩ := hD
  obtain ⟨hC, hP, hM, hQ, hJ⟩ := id hI
  have hW := hJ.1
  have hF := s_hasCharge hC hW h1 h2
  have h6 := hW.2.1
  by_cases hf : 0 ≤ a ∧ a < v 3
  · obtain ⟨c, hc⟩ := Int.eq_ofNat_of_zero_le hf.1
    subst hc
    have hn : c < v 3 := by omega
    have hcell := hW.2.2.1 c hn
    obtain ⟨D1, q1, q2⟩ := s_countByRounds hC hW hn
    refine q_ok (D1 := D1) (a := z (cnt (chB v c) 6)) hI ?_ q2 (fun E hE => ?_)
    · have : S_X12_chainByRounds (z c) D = some (0, some (.int (z (cnt (chB v c) 6))), D1) := by
        unfold S_X12_chainByRounds
        rw [hF, bz_t hf, cI_i, if_neg (by decide)]
        rw [q1, cI_i]
      unfold S_L_chainByRounds
      rw [this]
      rfl
    · refine ⟨setI E 140 (z 0), ?_, fm140, setI_same _ _ _⟩
      have hE' : MR (setI E 140 (z 0)) v := hE
      unfold S_X13_chainByRounds
      unfold S_X13_chainOf
      rw [m_looks hE hW (by omega) (by omega), bz_t hf, bz_f (fun q => q hf), cI_i, if_neg (by decide)]
      obtain ⟨m, g1, g2, g3⟩ := m_chain hE' hW hn
      rw [g2, cI_i, m_count g1, cI_i]
      have : pc6 m = cnt (chB v c) 6 := cnt_congr 6 g3
      rw [this]
      rfl
  · refine q_no (k := 1) hI (by omega) ?_ (fun E hE => ⟨z 0, setI E 140 (z 1), ?_, fm140, setI_same _ _ _⟩)
    · unfold S_L_chainByRounds S_X12_chainByRounds
      rw [hF, bz_f hf, cI_i]
      rfl
    · unfold S_X13_chainByRounds
      unfold S_X13_chainOf
      rw [m_looks hE hW h1 h2, bz_f hf, bz_t hf, cI_i]
      rfl
theorem c_opensOf {a : Int} (h1 : -2147483648 ≤ a) (h2 : a < 2147483648) (hD : Inv D) : Ce (S_L_opensOf (z a)) (S_X13_opensOf (z a)) D := by
  obtain ⟨v, n, nx, p, sf, sv, e, f, ln, L, tn, T, hI⟩ := hD
  obtain ⟨hC, hP, hM, hQ, hJ⟩ := id hI
  have hW := hJ.1
  have hF := s_hasCharge hC hW h1 h2
  have h6 := hW.2.1
  by_cases hf : 0 ≤ a ∧ a < v 3
  · obtain ⟨c, hc⟩ := Int.eq_ofNat_of_zero_le hf.1
    subst hc
    have hn : c < v 3 := by omega
    have hcell := hW.2.2.1 c hn
    obtain ⟨D1, EE1, OO1, ord, q1, q2, q3, q4, q5⟩ := s_run hC hW hn
    have hB := q3.cg q4 q5
    refine q_ok (D1 := D1) (a := z (cnt (flB v c) 36)) hI ?_ q2 (fun E hE => ?_)
    · have : S_X12_opensOf (z c) D = some (0, some (.int (z (cnt (flB v c) 36))), D1) := by
        unfold S_X12_opensOf
        rw [hF, bz_t hf, cI_i, if_neg (by decide)]
        rw [q1, cV_v, hB.2.2.2.1]
      unfold S_L_opensOf
      rw [this]
      rfl
    · refine ⟨setI E 140 (z 0), ?_, fm140, setI_same _ _ _⟩
      have hE' : MR (setI E 140 (z 0)) v := hE
      skip
      unfold S_X13_opensOf
      rw [m_looks hE hW (by omega) (by omega), bz_t hf, bz_f (fun q => q hf), cI_i, if_neg (by decide)]
      rw [m_fallsOf hE' hW hn, cI_i]
  · refine q_no (k := 1) hI (by omega) ?_ (fun E hE => ⟨z 0, setI E 140 (z 1), ?_, fm140, setI_same _ _ _⟩)
    · unfold S_L_opensOf S_X12_opensOf
      rw [hF, bz_f hf, cI_i]
      rfl
    · skip
      unfold S_X13_opensOf
      rw [m_looks hE hW h1 h2, bz_f hf, bz_t hf, cI_i]
      rfl
theorem c_hardnessOf {a b : Int} (h1 : -2147483648 ≤ a) (h2 : a < 2147483648) (h3 : -2147483648 ≤ b) (h4 : b < 2147483648) (hD : Inv D) : Ce (S_L_hardnessOf (z a) (z b)) (S_X13_hardnessOf (z a) (z b)) D := by
  obtain ⟨v, n, nx, p, sf, sv, e, f, ln, L, tn, T, hI⟩ := hD
  obtain ⟨hC, hP, hM, hQ, hJ⟩ := id hI
  have hW := hJ.1
  have hlo := cellZ_lo a b
  have hhi := cellZ_hi a b
  by_cases hc : cellZ a b < 0
  · refine q_no (k := 1) hI (by omega) ?_ (fun E hE => ⟨z 0, setI E 140 (z 1), ?_, fm140, setI_same _ _ _⟩)
    · unfold S_L_hardnessOf S_X12_hardnessOf
      rw [s_cellAt h1 h2 h3 h4, show cellZ a b = -1 by omega, cI_i, if_pos (by decide)]
      rfl
    · unfold S_X13_hardnessOf
      rw [m_isCell h1 h2 h3 h4, bz_f (by omega), cI_i]
      rfl
  · obtain ⟨c, hc2⟩ := Int.eq_ofNat_of_zero_le (show 0 ≤ cellZ a b by omega)
    have h9 := hW.1 c (by omega)
    have hx : S_X12_cellAt (z a) (z b) D = some (0, some (.int (z (c : Nat))), D) := by rw [s_cellAt h1 h2 h3 h4, hc2]
    by_cases h0 : v (4 + c) = 0
    · refine q_no (k := 2) hI (by omega) ?_ (fun E hE => ⟨z 0, setI E 140 (z 2), ?_, fm140, setI_same _ _ _⟩)
      · unfold S_L_hardnessOf S_X12_hardnessOf
        rw [hx, cI_i, if_neg (by rw [show (-1 : Int32) = z (-1) from rfl, z_eq (by omega) (by omega) (by omega) (by omega)]; omega), s_openAt hC hW (by omega), bz_t h0]
        rfl
      · unfold S_X13_hardnessOf
        rw [m_isCell h1 h2 h3 h4, bz_t (by omega), cI_i, if_neg (by decide), m_cell (by omega), cI_i, hc2, m_hard hE (by omega), h0, cI_i]
        rfl
    · refine q_ok (D1 := D) (a := z (v (4 + c))) hI ?_ FC.rfl (fun E hE => ⟨setI E 140 (z 0), ?_, fm140, setI_same _ _ _⟩)
      · have : S_X12_hardnessOf (z a) (z b) D = some (0, some (.int (z (v (4 + c)))), D) := by
          unfold S_X12_hardnessOf
          rw [hx, cI_i, if_neg (by rw [show (-1 : Int32) = z (-1) from rfl, z_eq (by omega) (by omega) (by omega) (by omega)]; omega), s_openAt hC hW (by omega), bz_f h0, cI_i, if_pos (show z 0 = 0 from rfl), s_hardnessAt hC (by omega), cI_i]
        unfold S_L_hardnessOf
        rw [this]
        rfl
      · unfold S_X13_hardnessOf
        rw [m_isCell h1 h2 h3 h4, bz_t (by omega), cI_i, if_neg (by decide), m_cell (by omega), cI_i, hc2, m_hard hE (by omega), cI_i, if_neg (by rw [show (0 : Int32) = z 0 from rfl, z_eq (by omega) (by omega) (by omega) (by omega)]; omega), if_pos rfl, m_cell (by omega), cI_i, hc2, show (0 : Int32) = z 0 from rfl, m_hard (D := setI E 140 (z 0)) hE (by omega), cI_i]
theorem c_isOpen {a b : Int} (h1 : -2147483648 ≤ a) (h2 : a < 2147483648) (h3 : -2147483648 ≤ b) (h4 : b < 2147483648) (hD : Inv D) : ∃ (k : Int) (x : Int32) (D1 D2 : DD), S_L_isOpen (z a) (z b) D = some (0, some (.int (z k)), D1) ∧ (k = 0 → (x = 0 ∧ D1.2.2.2.1 0 0 = 0) ∨ (x = 1 ∧ D1.2.2.2.1 0 0 = 1)) ∧ S_X13_isOpen (z a) (z b) D1 = some (0, some (.int x), D2) ∧ D2.2.2.2.1 = D1.2.2.2.1 ∧ D2.1 140 = z k ∧ 0 ≤ k ∧ k < 100 ∧ Inv D2 := by
  obtain ⟨v, n, nx, p, sf, sv, e, f, ln, L, tn, T, hI⟩ := hD
  obtain ⟨hC, hP, hM, hQ, hJ⟩ := id hI
  have hW := hJ.1
  have hlo := cellZ_lo a b
  have hhi := cellZ_hi a b
  have hm : ∀ (E : DD) (y : Int32), IV E v n nx p sf sv e f ln L tn T → Inv (setI E 140 y) := fun E y hE => ⟨_, _, _, _, _, _, _, _, _, _, _, _, hE.q FC.rfl fm140⟩
  by_cases hc : cellZ a b < 0
  · refine ⟨1, z 0, D, setI D 140 (z 1), ?_, fun q => by omega, ?_, rfl, setI_same _ _ _, by omega, by omega, hm D _ hI⟩
    · unfold S_L_isOpen S_X12_isOpen
      rw [s_cellAt h1 h2 h3 h4, show cellZ a b = -1 by omega, cI_i, if_pos (by decide)]
      rfl
    · unfold S_X13_isOpen
      rw [m_isCell h1 h2 h3 h4, bz_f (by omega), cI_i]
      rfl
  · obtain ⟨c, hc2⟩ := Int.eq_ofNat_of_zero_le (show 0 ≤ cellZ a b by omega)
    have h9 := hW.1 c (by omega)
    have hx : S_X12_cellAt (z a) (z b) D = some (0, some (.int (z (c : Nat))), D) := by rw [s_cellAt h1 h2 h3 h4, hc2]
    have hX : S_X12_isOpen (z a) (z b) D = some (0, some (.int (z (bz (v (4 + c) = 0)))), D) := by
      unfold S_X12_isOpen
      rw [hx, cI_i, if_neg (by rw [show (-1 : Int32) = z (-1) from rfl, z_eq (by omega) (by omega) (by omega) (by omega)]; omega), s_openAt hC hW (by omega), cI_i]
      by_cases h0 : v (4 + c) = 0
      · rw [bz_t h0, na_1, if_pos rfl]
      · rw [bz_f h0, na_0, if_pos rfl]
    by_cases h0 : v (4 + c) = 0
    · rw [bz_t h0] at hX
      refine ⟨0, z 1, oL D 1, setI (oL D 1) 140 (z 0), ?_, fun _ => Or.inr ⟨rfl, oL_0 _ _⟩, ?_, rfl, setI_same _ _ _, by omega, by omega, hm (oL D 1) _ hI⟩
      · unfold S_L_isOpen
        rw [hX]
        rfl
      · unfold S_X13_isOpen
        have hM2 : MR (setI (oL D 1) 140 (z 0)) v := hM
        rw [m_isCell h1 h2 h3 h4, bz_t (by omega), cI_i, if_neg (by decide), if_pos rfl, m_cell (by omega), cI_i, hc2, show (0 : Int32) = z 0 from rfl, m_hard hM2 (by omega), h0, cI_i]
        first | done | rfl
    · rw [bz_f h0] at hX
      refine ⟨0, z 0, oL D 0, setI (oL D 0) 140 (z 0), ?_, fun _ => Or.inl ⟨rfl, oL_0 _ _⟩, ?_, rfl, setI_same _ _ _, by omega, by omega, hm (oL D 0) _ hI⟩
      · unfold S_L_isOpen
        rw [hX]
        rfl
      · unfold S_X13_isOpen
        have hM2 : MR (setI (oL D 0) 140 (z 0)) v := hM
        rw [m_isCell h1 h2 h3 h4, bz_t (by omega), cI_i, if_neg (by decide), if_pos rfl, m_cell (by omega), cI_i, hc2, show (0 : Int32) = z 0 from rfl, m_hard hM2 (by omega), cI_i, if_neg (by rw [z_eq (by omega) (by omega) (by omega) (by omega)]; omega)]
        first | done | rfl
theorem c_veinSize {a b : Int} (h1 : -2147483648 ≤ a) (h2 : a < 2147483648) (h3 : -2147483648 ≤ b) (h4 : b < 2147483648) (hD : Inv D) : Ce (S_L_veinSize (z a) (z b)) (S_X13_veinSize (z a) (z b)) D := by
  obtain ⟨v, n, nx, p, sf, sv, e, f, ln, L, tn, T, hI⟩ := hD
  obtain ⟨hC, hP, hM, hQ, hJ⟩ := id hI
  have hW := hJ.1
  have hlo := cellZ_lo a b
  have hhi := cellZ_hi a b
  by_cases hc : cellZ a b < 0
  · refine q_no (k := 1) hI (by omega) ?_ (fun E hE => ⟨z 0, setI E 140 (z 1), ?_, fm140, setI_same _ _ _⟩)
    · unfold S_L_veinSize S_X12_veinSize
      rw [s_cellAt h1 h2 h3 h4, show cellZ a b = -1 by omega, cI_i, if_pos (by decide)]
      rfl
    · unfold S_X13_veinSize
      rw [m_isCell h1 h2 h3 h4, bz_f (by omega), cI_i]
      rfl
  · obtain ⟨c, hc2⟩ := Int.eq_ofNat_of_zero_le (show 0 ≤ cellZ a b by omega)
    have h9 := hW.1 c (by omega)
    have hx : S_X12_cellAt (z a) (z b) D = some (0, some (.int (z (c : Nat))), D) := by rw [s_cellAt h1 h2 h3 h4, hc2]
    by_cases h0 : v (4 + c) = 0
    · refine q_no (k := 2) hI (by omega) ?_ (fun E hE => ⟨z 0, setI E 140 (z 2), ?_, fm140, setI_same _ _ _⟩)
      · unfold S_L_veinSize S_X12_veinSize
        rw [hx, cI_i, if_neg (by rw [show (-1 : Int32) = z (-1) from rfl, z_eq (by omega) (by omega) (by omega) (by omega)]; omega), s_openAt hC hW (by omega), bz_t h0]
        rfl
      · unfold S_X13_veinSize
        rw [m_isCell h1 h2 h3 h4, bz_t (by omega), cI_i, if_neg (by decide), m_cell (by omega), cI_i, hc2, m_hard hE (by omega), h0, cI_i]
        rfl
    · obtain ⟨D1, q1, q2⟩ := s_sizeFrom hC hW (a := c) (by omega)
      refine q_ok (D1 := D1) (a := z (cnt (vnB v c) 36)) hI ?_ q2 (fun E hE => ?_)
      · have : S_X12_veinSize (z a) (z b) D = some (0, some (.int (z (cnt (vnB v c) 36))), D1) := by
          unfold S_X12_veinSize
          rw [hx, cI_i, if_neg (by rw [show (-1 : Int32) = z (-1) from rfl, z_eq (by omega) (by omega) (by omega) (by omega)]; omega), s_openAt hC hW (by omega), bz_f h0, cI_i, if_pos (show z 0 = 0 from rfl), q1, cI_i]
        unfold S_L_veinSize
        rw [this]
        rfl
      · obtain ⟨E', r1, r2, r3⟩ := m_veinSize_in hE hW h1 h2 h3 h4 (by omega) (by rw [hc2]; exact h0)
        rw [hc2] at r1
        exact ⟨E', r1, r2, r3⟩
theorem c_veinCount {a : Int} (h1 : -2147483648 ≤ a) (h2 : a < 2147483648) (hD : Inv D) : Ce (S_L_veinCount (z a)) (S_X13_veinCount (z a)) D := by
  obtain ⟨v, n, nx, p, sf, sv, e, f, ln, L, tn, T, hI⟩ := hD
  obtain ⟨hC, hP, hM, hQ, hJ⟩ := id hI
  have hW := hJ.1
  have hF := s_inRange (D := D) (a := a) (b := 1) (c := 9) h1 h2 (by omega) (by omega) (by omega) (by omega)
  by_cases hf : 1 ≤ a ∧ a ≤ 9
  · obtain ⟨c, hc⟩ := Int.eq_ofNat_of_zero_le (show 0 ≤ a by omega)
    subst hc
    obtain ⟨D1, q1, q2⟩ := s_countOf hC hW (H := c) (by omega)
    refine q_ok (D1 := D1) (a := z (cnt (vcB v c) 36)) hI ?_ q2 (fun E hE => m_veinCount_in hE hW (by omega) (by omega))
    have : S_X12_veinCount (z c) D = some (0, some (.int (z (cnt (vcB v c) 36))), D1) := by
      unfold S_X12_veinCount
      rw [show (1 : Int32) = z 1 from rfl, show (9 : Int32) = z 9 from rfl, hF, bz_t hf, cI_i, if_neg (by decide), q1, cI_i]
    unfold S_L_veinCount
    rw [this]
    rfl
  · refine q_no (k := 1) hI (by omega) ?_ (fun E hE => ⟨z 0, setI E 140 (z 1), ?_, fm140, setI_same _ _ _⟩)
    · unfold S_L_veinCount S_X12_veinCount
      rw [show (1 : Int32) = z 1 from rfl, show (9 : Int32) = z 9 from rfl, hF, bz_f hf]
      rfl
    · unfold S_X13_veinCount
      refine RunP.eqn (c := 1) ?_ (by decide)
      refine RunP.go ?_
      show Wp (b_X13_veinCount_0 _ _) _
      unfold b_X13_veinCount_0
      rw [show (1 : Int32) = z 1 from rfl, show (9 : Int32) = z 9 from rfl, m_isIn h1 h2 (by omega) (by omega) (by omega) (by omega), bz_f hf, cI_i, if_pos (by decide), if_neg (by decide), Wp_some, Nx_r]
      rfl
theorem c_priceOf {a : Int} (h1 : -2147483648 ≤ a) (h2 : a < 2147483648) (hD : Inv D) : Ce (S_L_priceOf (z a)) (S_X13_priceOf (z a)) D := by
  obtain ⟨v, n, nx, p, sf, sv, e, f, ln, L, tn, T, hI⟩ := hD
  obtain ⟨hC, hP, hM, hQ, hJ⟩ := id hI
  have hW := hJ.1
  have hF := s_inRange (D := D) (a := a) (b := 1) (c := 10) h1 h2 (by omega) (by omega) (by omega) (by omega)
  by_cases hf : 1 ≤ a ∧ a ≤ 10
  · obtain ⟨c, hc⟩ := Int.eq_ofNat_of_zero_le (show 0 ≤ a by omega)
    subst hc
    refine q_ok (D1 := D) (a := z (v (51 + c))) hI ?_ FC.rfl (fun E hE => ⟨setI E 140 (z 0), ?_, fm140, setI_same _ _ _⟩)
    · have : S_X12_priceOf (z c) D = some (0, some (.int (z (v (51 + c)))), D) := by
        unfold S_X12_priceOf
        rw [show (1 : Int32) = z 1 from rfl, show (10 : Int32) = z 10 from rfl, hF, bz_t hf, cI_i, if_neg (by decide), s_priceAt hC (by omega) (by omega), cI_i]
      unfold S_L_priceOf
      rw [this]
      rfl
    · unfold S_X13_priceOf
      simp (disch := omega) only [z_add, z_sub, z_mul, z_neg, ite_T, ite_F, zl_0, zl_1, zl_2, zl_3, zl_4, zl_5, zl_6, zl_7, zl_8, zl_9, zl_10, zl_11, zl_12, zl_13, zl_14, zl_15, zl_16, zl_17, zl_18, zl_19, zl_20, zl_21, zl_22, zl_23, zl_24, zl_25, zl_26, zl_27, zl_28, zl_29, zl_30, zl_31, zl_32, zl_33, zl_34, zl_35, zl_36, zl_37, zl_38, zl_39, zl_40, zl_41, zl_42, zl_43, zl_44, zl_45, zl_46, zl_47, zl_48, zl_49, zl_50, zl_51, zl_52, zl_53, zl_54, zl_55, zl_56, zl_57, zl_58, zl_59, zl_60, zl_61, zl_62, zl_63, zl_64, zl_97, zl_99, zl_100, zl_126, zl_255, zl_434, zl_496, zl_1000000, zl_100000, z_lt, z_le, z_eq, inB_z, z_div, Int.reduceToNat, Wp_some, Nx_l, Nx_r, cI_i, cV_v, cL_l, ite_t, ite_f, z_nn, toNat_c, bz_e0, m_isIn]
      rw [show ((52 : Int) + c - 1).toNat = 51 + c by omega, hE (51 + c) (by omega)]
  · refine q_no (k := 1) hI (by omega) ?_ (fun E hE => ⟨z 0, setI E 140 (z 1), ?_, fm140, setI_same _ _ _⟩)
    · unfold S_L_priceOf S_X12_priceOf
      rw [show (1 : Int32) = z 1 from rfl, show (10 : Int32) = z 10 from rfl, hF, bz_f hf]
      rfl
    · unfold S_X13_priceOf
      rw [show (1 : Int32) = z 1 from rfl, show (10 : Int32) = z 10 from rfl, m_isIn h1 h2 (by omega) (by omega) (by omega) (by omega), bz_f hf]
      rfl
theorem m_isBar (hM : MR D v) (hW : WF v) {a : Int} (h1 : -2147483648 ≤ a) (h2 : a < 2147483648) : ∃ (D' : DD) (w p : Nat → Nat), S_X13_isBar (z a) D = some (0, some (.int (z (bz (1 ≤ a ∧ a ≤ 30)))), D') ∧ FM D D' ∧ D'.1 140 = z (bz (¬ (1 ≤ a ∧ a ≤ 30))) ∧ CT v w p 30 ∧ ∀ j, j < 31 → D'.2.2.1 77 j = z (w j) ∧ D'.2.2.1 78 j = z (p j) := by
  by_cases hf : 1 ≤ a ∧ a ≤ 30
  · obtain ⟨D', w, p, q1, q2, q3, q4, q5⟩ := m_cuts (D := setI D 140 (z 0)) (v := v) hM hW
    have e : D'.1 140 = z 0 := q3.trans (setI_same _ _ _)
    refine ⟨D', w, p, ?_, fm140.trans q2, by rw [e, bz_f (fun q => q hf)], q4, q5⟩
    unfold S_X13_isBar
    rw [show (1 : Int32) = z 1 from rfl, show (30 : Int32) = z 30 from rfl, m_isIn h1 h2 (by omega) (by omega) (by omega) (by omega), bz_t hf, cI_i, if_neg (by decide), show (0 : Int32) = z 0 from rfl, q1, cV_v, e, if_pos rfl]
  · obtain ⟨D', w, p, q1, q2, q3, q4, q5⟩ := m_cuts (D := setI D 140 (z 1)) (v := v) hM hW
    have e : D'.1 140 = z 1 := q3.trans (setI_same _ _ _)
    refine ⟨D', w, p, ?_, fm140.trans q2, by rw [e, bz_t hf], q4, q5⟩
    unfold S_X13_isBar
    rw [show (1 : Int32) = z 1 from rfl, show (30 : Int32) = z 30 from rfl, m_isIn h1 h2 (by omega) (by omega) (by omega) (by omega), bz_f hf, cI_i, if_pos (by decide), q1, cV_v, e, if_neg (by decide)]
    rfl
theorem c_bestCut {a : Int} (h1 : -2147483648 ≤ a) (h2 : a < 2147483648) (hD : Inv D) : Ce (S_L_bestCut (z a)) (S_X13_bestCut (z a)) D := by
  obtain ⟨v, n, nx, p, sf, sv, e, f, ln, L, tn, T, hI⟩ := hD
  obtain ⟨hC, hP, hM, hQ, hJ⟩ := id hI
  have hW := hJ.1
  have hF := s_inRange (D := D) (a := a) (b := 1) (c := 30) h1 h2 (by omega) (by omega) (by omega) (by omega)
  by_cases hf : 1 ≤ a ∧ a ≤ 30
  · obtain ⟨c, hc⟩ := Int.eq_ofNat_of_zero_le (show 0 ≤ a by omega)
    subst hc
    obtain ⟨D1, w, pw, q1, q2, q3⟩ := s_coinsByTable hC hW (n := c) (by omega)
    refine q_ok (D1 := D1) (a := z (w c)) hI ?_ q2 (fun E hE => ?_)
    · have : S_X12_bestCut (z c) D = some (0, some (.int (z (w c))), D1) := by
        unfold S_X12_bestCut
        rw [show (1 : Int32) = z 1 from rfl, show (30 : Int32) = z 30 from rfl, hF, bz_t hf, cI_i, if_neg (by decide), q1, cI_i]
      unfold S_L_bestCut
      rw [this]
      rfl
    · obtain ⟨E', w', pw', r1, r2, r3, r4, r5⟩ := m_isBar hE hW h1 h2
      rw [bz_f (fun q => q hf)] at r3
      refine ⟨E', ?_, r2, r3⟩
      have e1 := (q3.uniq r4 c (by omega)).1
      have e2 := (r5 c (by omega)).1
      skip
      unfold S_X13_bestCut
      rw [r1, bz_t hf, cI_i, if_neg (by decide), if_pos (by rw [inB_z (by omega) (by omega)]; omega), z_nn (by omega) (by omega), toNat_c, e2, e1]
      
  · obtain ⟨E0, w0, p0, r1, r2, r3, r4, r5⟩ := m_isBar hM hW h1 h2
    refine q_no (k := 1) hI (by omega) ?_ (fun E hE => ?_)
    · unfold S_L_bestCut S_X12_bestCut
      rw [show (1 : Int32) = z 1 from rfl, show (30 : Int32) = z 30 from rfl, hF, bz_f hf]
      rfl
    · obtain ⟨E', w', pw', r1, r2, r3, r4, r5⟩ := m_isBar hE hW h1 h2
      rw [bz_t hf] at r3
      refine ⟨z 0, E', ?_, r2, r3⟩
      skip
      unfold S_X13_bestCut
      rw [r1, bz_f hf]
      rfl
theorem c_bestCutByTrial {a : Int} (h1 : -2147483648 ≤ a) (h2 : a < 2147483648) (hD : Inv D) : Ce (S_L_bestCutByTrial (z a)) (S_X13_bestCutByTrial (z a)) D := by
  obtain ⟨v, n, nx, p, sf, sv, e, f, ln, L, tn, T, hI⟩ := hD
  obtain ⟨hC, hP, hM, hQ, hJ⟩ := id hI
  have hW := hJ.1
  have hF := s_inRange (D := D) (a := a) (b := 1) (c := 30) h1 h2 (by omega) (by omega) (by omega) (by omega)
  by_cases hf : 1 ≤ a ∧ a ≤ 30
  · obtain ⟨c, hc⟩ := Int.eq_ofNat_of_zero_le (show 0 ≤ a by omega)
    subst hc
    obtain ⟨D0, w, pw, q0, -, q3, -⟩ := s_fillTable hC hW
    obtain ⟨D1, q1, q2⟩ : ∃ D1, S_X5_coinsByTrial (z c) D = some (0, some (.int (z (w c))), D1) ∧ FC D D1 := ⟨D, s_coinsByTrial hC hW q3 (by omega), FC.rfl⟩
    refine q_ok (D1 := D1) (a := z (w c)) hI ?_ q2 (fun E hE => ?_)
    · have : S_X12_bestCutByTrial (z c) D = some (0, some (.int (z (w c))), D1) := by
        unfold S_X12_bestCutByTrial
        rw [show (1 : Int32) = z 1 from rfl, show (30 : Int32) = z 30 from rfl, hF, bz_t hf, cI_i, if_neg (by decide), q1, cI_i]
      unfold S_L_bestCutByTrial
      rw [this]
      rfl
    · obtain ⟨E', w', pw', r1, r2, r3, r4, r5⟩ := m_isBar hE hW h1 h2
      rw [bz_f (fun q => q hf)] at r3
      refine ⟨E', ?_, r2, r3⟩
      have e1 := (q3.uniq r4 c (by omega)).1
      have e2 := (r5 c (by omega)).1
      unfold S_X13_bestCutByTrial
      unfold S_X13_bestCut
      rw [r1, bz_t hf, cI_i, if_neg (by decide), if_pos (by rw [inB_z (by omega) (by omega)]; omega), z_nn (by omega) (by omega), toNat_c, e2, e1]
      rfl
  · obtain ⟨E0, w0, p0, r1, r2, r3, r4, r5⟩ := m_isBar hM hW h1 h2
    refine q_no (k := 1) hI (by omega) ?_ (fun E hE => ?_)
    · unfold S_L_bestCutByTrial S_X12_bestCutByTrial
      rw [show (1 : Int32) = z 1 from rfl, show (30 : Int32) = z 30 from rfl, hF, bz_f hf]
      rfl
    · obtain ⟨E', w', pw', r1, r2, r3, r4, r5⟩ := m_isBar hE hW h1 h2
      rw [bz_t hf] at r3
      refine ⟨z 0, E', ?_, r2, r3⟩
      unfold S_X13_bestCutByTrial
      unfold S_X13_bestCut
      rw [r1, bz_f hf]
      rfl
theorem c_fewestPieces {a : Int} (h1 : -2147483648 ≤ a) (h2 : a < 2147483648) (hD : Inv D) : Ce (S_L_fewestPieces (z a)) (S_X13_fewestPieces (z a)) D := by
  obtain ⟨v, n, nx, p, sf, sv, e, f, ln, L, tn, T, hI⟩ := hD
  obtain ⟨hC, hP, hM, hQ, hJ⟩ := id hI
  have hW := hJ.1
  have hF := s_inRange (D := D) (a := a) (b := 1) (c := 30) h1 h2 (by omega) (by omega) (by omega) (by omega)
  by_cases hf : 1 ≤ a ∧ a ≤ 30
  · obtain ⟨c, hc⟩ := Int.eq_ofNat_of_zero_le (show 0 ≤ a by omega)
    subst hc
    obtain ⟨D1, w, pw, q1, q2, q3⟩ := s_piecesByTable hC hW (n := c) (by omega)
    refine q_ok (D1 := D1) (a := z (pw c)) hI ?_ q2 (fun E hE => ?_)
    · have : S_X12_fewestPieces (z c) D = some (0, some (.int (z (pw c))), D1) := by
        unfold S_X12_fewestPieces
        rw [show (1 : Int32) = z 1 from rfl, show (30 : Int32) = z 30 from rfl, hF, bz_t hf, cI_i, if_neg (by decide), q1, cI_i]
      unfold S_L_fewestPieces
      rw [this]
      rfl
    · obtain ⟨E', w', pw', r1, r2, r3, r4, r5⟩ := m_isBar hE hW h1 h2
      rw [bz_f (fun q => q hf)] at r3
      refine ⟨E', ?_, r2, r3⟩
      have e1 := (q3.uniq r4 c (by omega)).2
      have e2 := (r5 c (by omega)).2
      skip
      unfold S_X13_fewestPieces
      rw [r1, bz_t hf, cI_i, if_neg (by decide), if_pos (by rw [inB_z (by omega) (by omega)]; omega), z_nn (by omega) (by omega), toNat_c, e2, e1]
      
  · obtain ⟨E0, w0, p0, r1, r2, r3, r4, r5⟩ := m_isBar hM hW h1 h2
    refine q_no (k := 1) hI (by omega) ?_ (fun E hE => ?_)
    · unfold S_L_fewestPieces S_X12_fewestPieces
      rw [show (1 : Int32) = z 1 from rfl, show (30 : Int32) = z 30 from rfl, hF, bz_f hf]
      rfl
    · obtain ⟨E', w', pw', r1, r2, r3, r4, r5⟩ := m_isBar hE hW h1 h2
      rw [bz_t hf] at r3
      refine ⟨z 0, E', ?_, r2, r3⟩
      skip
      unfold S_X13_fewestPieces
      rw [r1, bz_f hf]
      rfl
theorem c_openCount (hD : Inv D) : Cd S_X12_openCount S_X13_openCount D := by
  obtain ⟨v, n, nx, p, sf, sv, e, f, ln, L, tn, T, hI⟩ := hD
  obtain ⟨hC, hP, hM, hQ, hJ⟩ := id hI
  have hW := hJ.1
  refine d_ok (D1 := D) (a := z (openN v)) hI (by unfold S_X12_openCount; rw [s_countOpen hC hW, cI_i]) FC.rfl (fun E hE => ⟨setI E 140 (z 0), ?_, fm140⟩)
  unfold S_X13_openCount
  rw [show (0 : Int32) = z 0 from rfl, m_opened (D := setI E 140 (z 0)) hE hW, cI_i]
theorem m_tells (hM : MR D v) {k : Nat} (hk : k < 62) : S_X13_tells (z k) D = some (0, some (.int (z (v k))), setI D 140 (z 0)) := by
  unfold S_X13_tells
  rw [if_pos (by rw [inB_z (by omega) (by omega)]; omega), z_nn (by omega) (by omega), toNat_c, hM k hk]
  rfl
theorem c_chargeCount (hD : Inv D) : Cd S_X12_chargeCount S_X13_chargeCount D := by
  obtain ⟨v, n, nx, p, sf, sv, e, f, ln, L, tn, T, hI⟩ := hD
  obtain ⟨hC, hP, hM, hQ, hJ⟩ := id hI
  have hW := hJ.1
  refine d_ok (D1 := D) (a := z (v 3)) hI (by unfold S_X12_chargeCount; rw [hC.2.2.2.2.1]) FC.rfl (fun E hE => ⟨setI E 140 (z 0), ?_, fm140⟩)
  unfold S_X13_chargeCount
  rw [show (3 : Int32) = z ((3 : Nat) : Int) from rfl, m_tells hE (by omega), cI_i]
theorem c_quarried (hD : Inv D) : Cd S_X12_quarried S_X13_quarried D := by
  obtain ⟨v, n, nx, p, sf, sv, e, f, ln, L, tn, T, hI⟩ := hD
  obtain ⟨hC, hP, hM, hQ, hJ⟩ := id hI
  have hW := hJ.1
  refine d_ok (D1 := D) (a := z (v 1)) hI (by unfold S_X12_quarried; rw [hC.2.2.2.2.2.2.1]) FC.rfl (fun E hE => ⟨setI E 140 (z 0), ?_, fm140⟩)
  unfold S_X13_quarried
  rw [show (1 : Int32) = z ((1 : Nat) : Int) from rfl, m_tells hE (by omega), cI_i]
theorem c_sold (hD : Inv D) : Cd S_X12_sold S_X13_sold D := by
  obtain ⟨v, n, nx, p, sf, sv, e, f, ln, L, tn, T, hI⟩ := hD
  obtain ⟨hC, hP, hM, hQ, hJ⟩ := id hI
  have hW := hJ.1
  refine d_ok (D1 := D) (a := z (v 2)) hI (by unfold S_X12_sold; rw [hC.2.2.2.2.2.2.2.1]) FC.rfl (fun E hE => ⟨setI E 140 (z 0), ?_, fm140⟩)
  unfold S_X13_sold
  rw [show (2 : Int32) = z ((2 : Nat) : Int) from rfl, m_tells hE (by omega), cI_i]
theorem c_stone (hD : Inv D) : Cd S_X12_stone S_X13_stone D := by
  obtain ⟨v, n, nx, p, sf, sv, e, f, ln, L, tn, T, hI⟩ := hD
  obtain ⟨hC, hP, hM, hQ, hJ⟩ := id hI
  have hW := hJ.1
  refine d_ok (D1 := D) (a := z ((v 1 : Int) - v 2)) hI (by unfold S_X12_stone; rw [hC.2.2.2.2.2.1]) FC.rfl (fun E hE => ⟨setI E 140 (z 0), ?_, fm140⟩)
  unfold S_X13_stone
  simp (disch := omega) only [z_add, z_sub, z_mul, z_neg, ite_T, ite_F, zl_0, zl_1, zl_2, zl_3, zl_4, zl_5, zl_6, zl_7, zl_8, zl_9, zl_10, zl_11, zl_12, zl_13, zl_14, zl_15, zl_16, zl_17, zl_18, zl_19, zl_20, zl_21, zl_22, zl_23, zl_24, zl_25, zl_26, zl_27, zl_28, zl_29, zl_30, zl_31, zl_32, zl_33, zl_34, zl_35, zl_36, zl_37, zl_38, zl_39, zl_40, zl_41, zl_42, zl_43, zl_44, zl_45, zl_46, zl_47, zl_48, zl_49, zl_50, zl_51, zl_52, zl_53, zl_54, zl_55, zl_56, zl_57, zl_58, zl_59, zl_60, zl_61, zl_62, zl_63, zl_64, zl_97, zl_99, zl_100, zl_126, zl_255, zl_434, zl_496, zl_1000000, zl_100000, z_lt, z_le, z_eq, inB_z, z_div, Int.reduceToNat, Wp_some, Nx_l, Nx_r, cI_i, cV_v, cL_l, ite_t, ite_f, z_nn, toNat_c, bz_e0, hE 1 (by omega), hE 2 (by omega)]
theorem c_coins (hD : Inv D) : CdL S_X12_coins S_X13_coins D := by
  obtain ⟨v, n, nx, p, sf, sv, e, f, ln, L, tn, T, hI⟩ := hD
  obtain ⟨hC, hP, hM, hQ, hJ⟩ := id hI
  have hW := hJ.1
  have hop := hW.opn
  have w5 := hW.2.2.2.2.1
  have w6 := hW.2.2.2.2.2.1
  have w7 := hW.2.2.2.2.2.2
  refine dL_ok (D1 := D) (a := zl (v 0)) hI (by unfold S_X12_coins; rw [hC.2.2.2.2.2.2.2.2]) FC.rfl (fun E hE => ⟨setI E 140 (z 0), ?_, fm140⟩)
  unfold S_X13_coins
  rw [show (0 : Int32) = z ((0 : Nat) : Int) from rfl, m_tells hE (by omega), cI_i, z_l (by omega) (by omega)]
theorem c_tunnelCost (hD : Inv D) : Cd S_X12_tunnelCost S_X13_tunnelCost D := by
  obtain ⟨v, n, nx, p, sf, sv, e, f, ln, L, tn, T, hI⟩ := hD
  obtain ⟨hC, hP, hM, hQ, hJ⟩ := id hI
  have hW := hJ.1
  obtain ⟨D1, A, q1, q2, q3⟩ := s_costByNearest hC hW
  refine d_ok (D1 := D1) (a := z A) hI (by unfold S_X12_tunnelCost; rw [q1, cI_i]) q2 (fun E hE => ?_)
  obtain ⟨E', B, r1, r2, r3, r4⟩ := m_tunnelCost hE hW
  rw [r4.uniq q3] at r1
  exact ⟨E', r1, r2⟩
theorem c_tunnelByRounds (hD : Inv D) : Cd S_X12_tunnelByRounds S_X13_tunnelByRounds D := by
  obtain ⟨v, n, nx, p, sf, sv, e, f, ln, L, tn, T, hI⟩ := hD
  obtain ⟨hC, hP, hM, hQ, hJ⟩ := id hI
  have hW := hJ.1
  obtain ⟨D1, A, q1, q2, q3⟩ := s_costByRounds hC hW
  refine d_ok (D1 := D1) (a := z A) hI (by unfold S_X12_tunnelByRounds; rw [q1, cI_i]) q2 (fun E hE => ?_)
  obtain ⟨E', B, r1, r2, r3, r4⟩ := m_tunnelCost hE hW
  rw [r4.uniq q3] at r1
  exact ⟨E', by unfold S_X13_tunnelByRounds; rw [r1, cI_i], r2⟩
theorem c_mostSlabs (hD : Inv D) : Cd S_X12_mostSlabs S_X13_mostSlabs D := by
  obtain ⟨v, n, nx, p, sf, sv, e, f, ln, L, tn, T, hI⟩ := hD
  obtain ⟨hC, hP, hM, hQ, hJ⟩ := id hI
  have hW := hJ.1
  obtain ⟨D1, K, q1, q2, q3⟩ := s_countByMoving hC hW
  refine d_ok (D1 := D1) (a := z K) hI (by unfold S_X12_mostSlabs; rw [q1, cI_i]) q2 (fun E hE => ?_)
  obtain ⟨E', r1, r2, r3⟩ := m_mostSlabs hE hW q3
  exact ⟨E', r1, r2⟩
theorem c_slabsByCells (hD : Inv D) : Cd S_X12_slabsByCells S_X13_slabsByCells D := by
  obtain ⟨v, n, nx, p, sf, sv, e, f, ln, L, tn, T, hI⟩ := hD
  obtain ⟨hC, hP, hM, hQ, hJ⟩ := id hI
  have hW := hJ.1
  obtain ⟨-, K, -, -, q3⟩ := s_countByMoving hC hW
  obtain ⟨D1, q1, q2⟩ := s_countByCells hC hW q3
  refine d_ok (D1 := D1) (a := z K) hI (by unfold S_X12_slabsByCells; rw [q1, cI_i]) q2 (fun E hE => ?_)
  obtain ⟨E', r1, r2, r3⟩ := m_mostSlabs hE hW q3
  exact ⟨E', by unfold S_X13_slabsByCells; rw [r1, cI_i], r2⟩
theorem c_largestBlock (hD : Inv D) : Cd S_X12_largestBlock S_X13_largestBlock D := by
  obtain ⟨v, n, nx, p, sf, sv, e, f, ln, L, tn, T, hI⟩ := hD
  obtain ⟨hC, hP, hM, hQ, hJ⟩ := id hI
  have hW := hJ.1
  obtain ⟨A, q1, q3⟩ := s_sizeByRectangles hC hW
  refine d_ok (D1 := D) (a := z A) hI (by unfold S_X12_largestBlock; rw [q1, cI_i]) FC.rfl (fun E hE => ?_)
  obtain ⟨B, r1, r4⟩ := m_largestBlock hE hW
  rw [r4.uniq q3] at r1
  exact ⟨_, r1, fm140⟩
theorem c_blockByHeights (hD : Inv D) : Cd S_X12_blockByHeights S_X13_blockByHeights D := by
  obtain ⟨v, n, nx, p, sf, sv, e, f, ln, L, tn, T, hI⟩ := hD
  obtain ⟨hC, hP, hM, hQ, hJ⟩ := id hI
  have hW := hJ.1
  obtain ⟨D1, A, q1, q2, q3⟩ := s_sizeByHeights hC hW
  refine d_ok (D1 := D1) (a := z A) hI (by unfold S_X12_blockByHeights; rw [q1, cI_i]) q2 (fun E hE => ?_)
  obtain ⟨B, r1, r4⟩ := m_largestBlock hE hW
  rw [r4.uniq q3] at r1
  exact ⟨_, by unfold S_X13_blockByHeights; rw [r1, cI_i], fm140⟩
end LL
