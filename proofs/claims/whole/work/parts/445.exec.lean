/-! pure: commands done, both sides -/
def carry (w : Nat) (a : Int32) (D : DD) : Option RT := match w with
  | 0 => S_X12_carryOut_x_K0 a D
  | 1 => S_X12_carryOut_x_K1 a D
  | 2 => S_X12_carryOut_x_K2 a D
  | 3 => S_X12_carryOut_x_K3 a D
  | 4 => S_X12_carryOut_x_K4 a D
  | 5 => S_X12_carryOut_x_K5 a D
  | _ => S_X12_carryOut_x_K6 a D
def SR (D : DD) (i : Nat) (g : CG) : Prop := D.2.2.1 66 (3 * i) = z g.2.1 ∧ (2 ≤ wnp g.1 → D.2.2.1 66 (3 * i + 1) = z g.2.2.1) ∧ (wnp g.1 = 3 → D.2.2.1 66 (3 * i + 2) = z g.2.2.2.1)
/-- a command that can be done, from v to v' -/
def Okc (g : CG) (v v' : Nat → Nat) : Prop := WF v' ∧ (∀ D i, i < 10 → CS D v → SR D i g → ∃ D', carry g.1 (z (i : Nat)) D = some (0, some (.int (z 1)), D') ∧ FA D D' ∧ CS D' v') ∧ ∀ D, MR D v → ∃ x D', S_X13_does (z g.1) (z g.2.1) (z g.2.2.1) (z g.2.2.2.1) D = some (0, some (.int x), D') ∧ FR D D' ∧ MR D' v' ∧ D'.1 140 = D.1 140
def Noc (g : CG) (v : Nat → Nat) : Prop := (∀ D i, i < 10 → CS D v → SR D i g → carry g.1 (z (i : Nat)) D = some (0, some (.int (z 0)), D)) ∧ ∀ D, MR D v → ∃ (x : Int32) (t : Int), 1 ≤ t ∧ t < 100 ∧ S_X13_does (z g.1) (z g.2.1) (z g.2.2.1) (z g.2.2.2.1) D = some (0, some (.int x), setI D 140 (z t))
section LL
variable {D : DD} {v : Nat → Nat}
theorem s_par {i j : Nat} (hi : i < 10) (hj : j < 3) : S_X4_parameterAt (z i) (z j) D = some (0, some (.int (D.2.2.1 66 (3 * i + j))), D) := by
  unfold S_X4_parameterAt
  simp (disch := omega) only [z_add, z_sub, z_mul, z_neg, ite_T, ite_F, zl_0, zl_1, zl_2, zl_3, zl_4, zl_5, zl_6, zl_7, zl_8, zl_9, zl_10, zl_11, zl_12, zl_13, zl_14, zl_15, zl_16, zl_17, zl_18, zl_19, zl_20, zl_21, zl_22, zl_23, zl_24, zl_25, zl_26, zl_27, zl_28, zl_29, zl_30, zl_31, zl_32, zl_33, zl_34, zl_35, zl_36, zl_37, zl_38, zl_39, zl_40, zl_41, zl_42, zl_43, zl_44, zl_45, zl_46, zl_47, zl_48, zl_49, zl_50, zl_51, zl_52, zl_53, zl_54, zl_55, zl_56, zl_57, zl_58, zl_59, zl_60, zl_61, zl_62, zl_63, zl_64, zl_97, zl_99, zl_100, zl_126, zl_255, zl_434, zl_496, zl_1000000, zl_100000, z_lt, z_le, z_eq, inB_z, z_div, Int.reduceToNat, Wp_some, Nx_l, Nx_r, cI_i, cV_v, cL_l, ite_t, ite_f, z_nn, toNat_c, bz_e0, s_inRange]
  rw [show ((i : Int) * 3 + j).toNat = 3 * i + j by omega]
theorem dich_0 (hW : WF v) {g : CG} (hw : g.1 = 0) (ha : g.2.1 ≤ 99) (hb : g.2.2.1 ≤ 99) (hc : g.2.2.2.1 ≤ 99) : (∃ v', Okc g v v') ∨ Noc g v := by
  obtain ⟨w, a, b, c, pp, qq⟩ := g
  dsimp only at hw ha hb hc
  subst hw
  have hle := fHard_le v a b c
  by_cases hf : fHard v a b c = 0
  · obtain ⟨c1, e1, e2, e3, e6⟩ : ∃ c1 : Nat, cellZ a b = c1 ∧ c1 < 36 ∧ (1 ≤ c ∧ c ≤ 9) ∧ v (4 + c1) ≠ 0 := by
      have hlo := cellZ_lo a b
      have hhi := cellZ_hi a b
      unfold fHard at hf
      by_cases h1 : cellZ a b < 0 ∨ ¬ (1 ≤ (c : Int) ∧ (c : Int) ≤ 9)
      · rw [if_pos h1] at hf
        omega
      rw [if_neg h1] at hf
      obtain ⟨c1, h2⟩ := Int.eq_ofNat_of_zero_le (show 0 ≤ cellZ a b by omega)
      rw [h2, toNat_c] at hf
      refine ⟨c1, h2, by omega, by omega, ?_⟩
      intro h0
      rw [if_pos h0] at hf
      omega
    refine Or.inl ⟨upv v (4 + c1) c, hW.hard e2 e6 (by omega) (by omega), fun D i hi hC hS => ?_, fun D hM => ?_⟩
    · obtain ⟨r0, r1, r2⟩ := hS
      dsimp only at r0 r1 r2
      have hfs : FS D (setA D 0 (upd (D.2.2.1 0) c1 (z (c : Nat)))) := FG.rfl.sA rfl
      refine ⟨setA D 0 (upd (D.2.2.1 0) c1 (z (c : Nat))), ?_, hfs.fa, hC.hard e2⟩
      have p0 : S_X4_parameterAt (z (i : Nat)) (0 : Int32) D = some (0, some (.int (D.2.2.1 66 (3 * i))), D) := s_par (j := 0) hi (by omega)
      have p1 : S_X4_parameterAt (z (i : Nat)) (1 : Int32) D = some (0, some (.int (D.2.2.1 66 (3 * i + 1))), D) := s_par (j := 1) hi (by omega)
      have p2 : S_X4_parameterAt (z (i : Nat)) (2 : Int32) D = some (0, some (.int (D.2.2.1 66 (3 * i + 2))), D) := s_par (j := 2) hi (by omega)
      show S_X12_carryOut_x_K0 (z (i : Nat)) D = _
      have hFC : S_X12_faultOfCommand_x_K0 (D.2.2.1 66 (3 * i)) (D.2.2.1 66 (3 * i + 1)) (D.2.2.1 66 (3 * i + 2)) D = some (0, some (.int (z 0)), D) := by
        unfold S_X12_faultOfCommand_x_K0
        rw [if_pos (by decide), r0, r1 (by decide), r2 (by decide)]
        rw [s_faultOfHardness hC hW (by omega) (by omega) (by omega) (by omega) (by omega) (by omega), hf]; rfl
      unfold S_X12_carryOut_x_K0
      rw [p0, cI_i, p1, cI_i, p2, cI_i, hFC, cI_i, if_pos (by decide), if_pos (by decide), r0, r1 (by decide), r2 (by decide)]
      rw [s_cellAt (by omega) (by omega) (by omega) (by omega), cI_i, e1, s_harden hC e2, cI_i]; rfl
    · obtain ⟨c', x', e1', e2', e3', e4', e5', e6', D', g1, g2, g3, g4⟩ := m_hardens_ok hM hW (by omega) (by omega) (by omega) (by omega) (by omega) (by omega) hf
      have : c' = c1 := by omega
      have : x' = c := by omega
      subst c'
      subst x'
      refine ⟨z (v (4 + c1)), D', ?_, g2, g3, g4⟩
      show S_X13_does (z ((0 : Nat) : Int)) (z (a : Nat)) (z (b : Nat)) (z (c : Nat)) D = _
      unfold S_X13_does
      rw [if_pos (by decide), g1, cI_i]
  · refine Or.inr ⟨fun D i hi hC hS => ?_, fun D hM => ?_⟩
    · obtain ⟨r0, r1, r2⟩ := hS
      dsimp only at r0 r1 r2
      have p0 : S_X4_parameterAt (z (i : Nat)) (0 : Int32) D = some (0, some (.int (D.2.2.1 66 (3 * i))), D) := s_par (j := 0) hi (by omega)
      have p1 : S_X4_parameterAt (z (i : Nat)) (1 : Int32) D = some (0, some (.int (D.2.2.1 66 (3 * i + 1))), D) := s_par (j := 1) hi (by omega)
      have p2 : S_X4_parameterAt (z (i : Nat)) (2 : Int32) D = some (0, some (.int (D.2.2.1 66 (3 * i + 2))), D) := s_par (j := 2) hi (by omega)
      show S_X12_carryOut_x_K0 (z (i : Nat)) D = _
      have hFC : ∃ f : Int, f ≠ 0 ∧ 0 ≤ f ∧ f < 10 ∧ S_X12_faultOfCommand_x_K0 (D.2.2.1 66 (3 * i)) (D.2.2.1 66 (3 * i + 1)) (D.2.2.1 66 (3 * i + 2)) D = some (0, some (.int (z f)), D) := by
        unfold S_X12_faultOfCommand_x_K0
        rw [if_pos (by decide), r0, r1 (by decide), r2 (by decide)]
        exact ⟨(fHard v a b c : Nat), by omega, by omega, by omega, by rw [s_faultOfHardness hC hW (by omega) (by omega) (by omega) (by omega) (by omega) (by omega)]; rfl⟩
      obtain ⟨f, f0, f1, f2, hFC⟩ := hFC
      unfold S_X12_carryOut_x_K0
      rw [p0, cI_i, p1, cI_i, p2, cI_i, hFC, cI_i, if_neg (by rw [show (0 : Int32) = z 0 from rfl, z_eq (by omega) (by omega) (by omega) (by omega)]; exact f0)]
      rfl
    · refine ⟨z 0, (fHard v a b c : Nat), by omega, by omega, ?_⟩
      show S_X13_does (z ((0 : Nat) : Int)) (z (a : Nat)) (z (b : Nat)) (z (c : Nat)) D = _
      unfold S_X13_does
      rw [if_pos (by decide), m_hardens_no hM hW (by omega) (by omega) (by omega) (by omega) (by omega) (by omega) hf, cI_i]
theorem dich_1 (hW : WF v) {g : CG} (hw : g.1 = 1) (ha : g.2.1 ≤ 99) (hb : g.2.2.1 ≤ 99) (hc : g.2.2.2.1 ≤ 99) : (∃ v', Okc g v v') ∨ Noc g v := by
  obtain ⟨w, a, b, c, pp, qq⟩ := g
  dsimp only at hw ha hb hc
  subst hw
  have hle := fLay_le v a b c
  by_cases hf : fLay v a b c = 0
  · obtain ⟨c1, e1, e2, e3, e6⟩ : ∃ c1 : Nat, cellZ a b = c1 ∧ c1 < 36 ∧ (1 ≤ c ∧ c ≤ 9) ∧ v 3 < 6 := by
      have hlo := cellZ_lo a b
      have hhi := cellZ_hi a b
      unfold fLay at hf
      by_cases h1 : cellZ a b < 0 ∨ ¬ (1 ≤ (c : Int) ∧ (c : Int) ≤ 9)
      · rw [if_pos h1] at hf
        omega
      rw [if_neg h1] at hf
      obtain ⟨c1, h2⟩ := Int.eq_ofNat_of_zero_le (show 0 ≤ cellZ a b by omega)
      rw [h2, toNat_c] at hf
      refine ⟨c1, h2, by omega, by omega, ?_⟩
      by_cases h6 : v 3 < 6
      · exact h6
      · rw [if_pos (Or.inl (by omega))] at hf; omega
    refine Or.inl ⟨lyv v c1 c, hW.lay e6 e2 (by omega) (by omega), fun D i hi hC hS => ?_, fun D hM => ?_⟩
    · obtain ⟨r0, r1, r2⟩ := hS
      dsimp only at r0 r1 r2
      obtain ⟨D1, s1, s2, s3⟩ := s_lay hC hW (c := c1) (s := c) e6
      refine ⟨D1, ?_, s2.fa, s3⟩
      have p0 : S_X4_parameterAt (z (i : Nat)) (0 : Int32) D = some (0, some (.int (D.2.2.1 66 (3 * i))), D) := s_par (j := 0) hi (by omega)
      have p1 : S_X4_parameterAt (z (i : Nat)) (1 : Int32) D = some (0, some (.int (D.2.2.1 66 (3 * i + 1))), D) := s_par (j := 1) hi (by omega)
      have p2 : S_X4_parameterAt (z (i : Nat)) (2 : Int32) D = some (0, some (.int (D.2.2.1 66 (3 * i + 2))), D) := s_par (j := 2) hi (by omega)
      show S_X12_carryOut_x_K1 (z (i : Nat)) D = _
      have hFC : S_X12_faultOfCommand_x_K1 (D.2.2.1 66 (3 * i)) (D.2.2.1 66 (3 * i + 1)) (D.2.2.1 66 (3 * i + 2)) D = some (0, some (.int (z 0)), D) := by
        unfold S_X12_faultOfCommand_x_K1
        rw [if_neg (by decide), if_pos (by decide), r0, r1 (by decide), r2 (by decide)]
        rw [s_faultOfLaying hC hW (by omega) (by omega) (by omega) (by omega) (by omega) (by omega), hf]; rfl
      unfold S_X12_carryOut_x_K1
      rw [p0, cI_i, p1, cI_i, p2, cI_i, hFC, cI_i, if_pos (by decide), if_neg (by decide), if_pos (by decide), r0, r1 (by decide), r2 (by decide)]
      rw [s_cellAt (by omega) (by omega) (by omega) (by omega), cI_i, e1, s1, cI_i]; rfl
    · obtain ⟨c', x', e1', e2', e3', e4', e5', e6', D', g1, g2, g3, g4⟩ := m_charges_ok hM hW (by omega) (by omega) (by omega) (by omega) (by omega) (by omega) hf
      have : c' = c1 := by omega
      have : x' = c := by omega
      subst c'
      subst x'
      refine ⟨z (v 3), D', ?_, g2, g3, g4⟩
      show S_X13_does (z ((1 : Nat) : Int)) (z (a : Nat)) (z (b : Nat)) (z (c : Nat)) D = _
      unfold S_X13_does
      rw [if_neg (by decide), if_pos (by decide), g1, cI_i]
  · refine Or.inr ⟨fun D i hi hC hS => ?_, fun D hM => ?_⟩
    · obtain ⟨r0, r1, r2⟩ := hS
      dsimp only at r0 r1 r2
      have p0 : S_X4_parameterAt (z (i : Nat)) (0 : Int32) D = some (0, some (.int (D.2.2.1 66 (3 * i))), D) := s_par (j := 0) hi (by omega)
      have p1 : S_X4_parameterAt (z (i : Nat)) (1 : Int32) D = some (0, some (.int (D.2.2.1 66 (3 * i + 1))), D) := s_par (j := 1) hi (by omega)
      have p2 : S_X4_parameterAt (z (i : Nat)) (2 : Int32) D = some (0, some (.int (D.2.2.1 66 (3 * i + 2))), D) := s_par (j := 2) hi (by omega)
      show S_X12_carryOut_x_K1 (z (i : Nat)) D = _
      have hFC : ∃ f : Int, f ≠ 0 ∧ 0 ≤ f ∧ f < 10 ∧ S_X12_faultOfCommand_x_K1 (D.2.2.1 66 (3 * i)) (D.2.2.1 66 (3 * i + 1)) (D.2.2.1 66 (3 * i + 2)) D = some (0, some (.int (z f)), D) := by
        unfold S_X12_faultOfCommand_x_K1
        rw [if_neg (by decide), if_pos (by decide), r0, r1 (by decide), r2 (by decide)]
        exact ⟨(fLay v a b c : Nat), by omega, by omega, by omega, by rw [s_faultOfLaying hC hW (by omega) (by omega) (by omega) (by omega) (by omega) (by omega)]; rfl⟩
      obtain ⟨f, f0, f1, f2, hFC⟩ := hFC
      unfold S_X12_carryOut_x_K1
      rw [p0, cI_i, p1, cI_i, p2, cI_i, hFC, cI_i, if_neg (by rw [show (0 : Int32) = z 0 from rfl, z_eq (by omega) (by omega) (by omega) (by omega)]; exact f0)]
      rfl
    · refine ⟨z 0, (fLay v a b c : Nat), by omega, by omega, ?_⟩
      show S_X13_does (z ((1 : Nat) : Int)) (z (a : Nat)) (z (b : Nat)) (z (c : Nat)) D = _
      unfold S_X13_does
      rw [if_neg (by decide), if_pos (by decide), m_charges_no hM hW (by omega) (by omega) (by omega) (by omega) (by omega) (by omega) hf, cI_i]
theorem dich_2 (hW : WF v) {g : CG} (hw : g.1 = 2) (ha : g.2.1 ≤ 99) (hb : g.2.2.1 ≤ 99) (hc : g.2.2.2.1 ≤ 99) : (∃ v', Okc g v v') ∨ Noc g v := by
  obtain ⟨w, a, b, c, pp, qq⟩ := g
  dsimp only at hw ha hb hc
  subst hw
  by_cases hf : a < v 3
  · refine Or.inl ⟨gsv a v, hW.keep (KS.goes hW.2.1 (by omega)), fun D i hi hC hS => ?_, fun D hM => ?_⟩
    · obtain ⟨r0, r1, r2⟩ := hS
      dsimp only at r0 r1 r2
      obtain ⟨D1, s1, s2, s3⟩ := s_takeAway hC hW (n := a) (by omega) (KS.goes hW.2.1 (by omega))
      refine ⟨D1, ?_, s2.fa, s3⟩
      have p0 : S_X4_parameterAt (z (i : Nat)) (0 : Int32) D = some (0, some (.int (D.2.2.1 66 (3 * i))), D) := s_par (j := 0) hi (by omega)
      have p1 : S_X4_parameterAt (z (i : Nat)) (1 : Int32) D = some (0, some (.int (D.2.2.1 66 (3 * i + 1))), D) := s_par (j := 1) hi (by omega)
      have p2 : S_X4_parameterAt (z (i : Nat)) (2 : Int32) D = some (0, some (.int (D.2.2.1 66 (3 * i + 2))), D) := s_par (j := 2) hi (by omega)
      show S_X12_carryOut_x_K2 (z (i : Nat)) D = _
      have hFC : S_X12_faultOfCommand_x_K2 (D.2.2.1 66 (3 * i)) (D.2.2.1 66 (3 * i + 1)) (D.2.2.1 66 (3 * i + 2)) D = some (0, some (.int (z 0)), D) := by
        unfold S_X12_faultOfCommand_x_K2
        rw [if_neg (by decide), if_neg (by decide), if_pos (by decide), r0]
        rw [s_hasCharge hC hW (by omega) (by omega), bz_t (by omega), cI_i, if_neg (by decide)]; rfl
      unfold S_X12_carryOut_x_K2
      rw [p0, cI_i, p1, cI_i, p2, cI_i, hFC, cI_i, if_pos (by decide), if_neg (by decide), if_neg (by decide), if_pos (by decide), r0]
      rw [s1, cI_i]; rfl
    · obtain ⟨D', g1, g2, g3, g4⟩ := m_removes_ok hM hW (n := a) (by omega)
      refine ⟨z (gsv a v 3), D', ?_, g2, g3, g4⟩
      show S_X13_does (z ((2 : Nat) : Int)) (z (a : Nat)) (z (b : Nat)) (z (c : Nat)) D = _
      unfold S_X13_does
      rw [if_neg (by decide), if_neg (by decide), if_pos (by decide), g1, cI_i]
  · refine Or.inr ⟨fun D i hi hC hS => ?_, fun D hM => ?_⟩
    · obtain ⟨r0, r1, r2⟩ := hS
      dsimp only at r0 r1 r2
      have p0 : S_X4_parameterAt (z (i : Nat)) (0 : Int32) D = some (0, some (.int (D.2.2.1 66 (3 * i))), D) := s_par (j := 0) hi (by omega)
      have p1 : S_X4_parameterAt (z (i : Nat)) (1 : Int32) D = some (0, some (.int (D.2.2.1 66 (3 * i + 1))), D) := s_par (j := 1) hi (by omega)
      have p2 : S_X4_parameterAt (z (i : Nat)) (2 : Int32) D = some (0, some (.int (D.2.2.1 66 (3 * i + 2))), D) := s_par (j := 2) hi (by omega)
      show S_X12_carryOut_x_K2 (z (i : Nat)) D = _
      have hFC : ∃ f : Int, f ≠ 0 ∧ 0 ≤ f ∧ f < 10 ∧ S_X12_faultOfCommand_x_K2 (D.2.2.1 66 (3 * i)) (D.2.2.1 66 (3 * i + 1)) (D.2.2.1 66 (3 * i + 2)) D = some (0, some (.int (z f)), D) := by
        unfold S_X12_faultOfCommand_x_K2
        rw [if_neg (by decide), if_neg (by decide), if_pos (by decide), r0]
        exact ⟨1, by omega, by omega, by omega, by rw [s_hasCharge hC hW (by omega) (by omega), bz_f (by omega), cI_i, if_pos (by decide)]; rfl⟩
      obtain ⟨f, f0, f1, f2, hFC⟩ := hFC
      unfold S_X12_carryOut_x_K2
      rw [p0, cI_i, p1, cI_i, p2, cI_i, hFC, cI_i, if_neg (by rw [show (0 : Int32) = z 0 from rfl, z_eq (by omega) (by omega) (by omega) (by omega)]; exact f0)]
      rfl
    · refine ⟨z 0, 1, by omega, by omega, ?_⟩
      show S_X13_does (z ((2 : Nat) : Int)) (z (a : Nat)) (z (b : Nat)) (z (c : Nat)) D = _
      unfold S_X13_does
      rw [if_neg (by decide), if_neg (by decide), if_pos (by decide), m_removes_no hM hW (by omega) (by omega) (by omega), cI_i]
theorem dich_3 (hW : WF v) {g : CG} (hw : g.1 = 3) (ha : g.2.1 ≤ 99) (hb : g.2.2.1 ≤ 99) (hc : g.2.2.2.1 ≤ 99) : (∃ v', Okc g v v') ∨ Noc g v := by
  obtain ⟨w, a, b, c, pp, qq⟩ := g
  dsimp only at hw ha hb hc
  subst hw
  by_cases hf : a < v 3
  · refine Or.inl ⟨igw v a, hW.blow, fun D i hi hC hS => ?_, fun D hM => ?_⟩
    · obtain ⟨r0, r1, r2⟩ := hS
      dsimp only at r0 r1 r2
      obtain ⟨D1, s1, s2, s3⟩ := s_blowUp hC hW (n := a) (by omega)
      refine ⟨D1, ?_, s2, s3⟩
      have p0 : S_X4_parameterAt (z (i : Nat)) (0 : Int32) D = some (0, some (.int (D.2.2.1 66 (3 * i))), D) := s_par (j := 0) hi (by omega)
      have p1 : S_X4_parameterAt (z (i : Nat)) (1 : Int32) D = some (0, some (.int (D.2.2.1 66 (3 * i + 1))), D) := s_par (j := 1) hi (by omega)
      have p2 : S_X4_parameterAt (z (i : Nat)) (2 : Int32) D = some (0, some (.int (D.2.2.1 66 (3 * i + 2))), D) := s_par (j := 2) hi (by omega)
      show S_X12_carryOut_x_K3 (z (i : Nat)) D = _
      have hFC : S_X12_faultOfCommand_x_K3 (D.2.2.1 66 (3 * i)) (D.2.2.1 66 (3 * i + 1)) (D.2.2.1 66 (3 * i + 2)) D = some (0, some (.int (z 0)), D) := by
        unfold S_X12_faultOfCommand_x_K3
        rw [if_neg (by decide), if_neg (by decide), if_neg (by decide), if_pos (by decide), r0]
        rw [s_hasCharge hC hW (by omega) (by omega), bz_t (by omega), cI_i, if_neg (by decide)]; rfl
      unfold S_X12_carryOut_x_K3
      rw [p0, cI_i, p1, cI_i, p2, cI_i, hFC, cI_i, if_pos (by decide), if_neg (by decide), if_neg (by decide), if_neg (by decide), if_pos (by decide), r0]
      rw [s1, cI_i]; rfl
    · obtain ⟨D', g1, g2, g3, g4⟩ := m_ignites_ok hM hW (n := a) (by omega)
      refine ⟨z (cnt (flB v a) 36), D', ?_, g2, g3, g4⟩
      show S_X13_does (z ((3 : Nat) : Int)) (z (a : Nat)) (z (b : Nat)) (z (c : Nat)) D = _
      unfold S_X13_does
      rw [if_neg (by decide), if_neg (by decide), if_neg (by decide), if_pos (by decide), g1, cI_i]
  · refine Or.inr ⟨fun D i hi hC hS => ?_, fun D hM => ?_⟩
    · obtain ⟨r0, r1, r2⟩ := hS
      dsimp only at r0 r1 r2
      have p0 : S_X4_parameterAt (z (i : Nat)) (0 : Int32) D = some (0, some (.int (D.2.2.1 66 (3 * i))), D) := s_par (j := 0) hi (by omega)
      have p1 : S_X4_parameterAt (z (i : Nat)) (1 : Int32) D = some (0, some (.int (D.2.2.1 66 (3 * i + 1))), D) := s_par (j := 1) hi (by omega)
      have p2 : S_X4_parameterAt (z (i : Nat)) (2 : Int32) D = some (0, some (.int (D.2.2.1 66 (3 * i + 2))), D) := s_par (j := 2) hi (by omega)
      show S_X12_carryOut_x_K3 (z (i : Nat)) D = _
      have hFC : ∃ f : Int, f ≠ 0 ∧ 0 ≤ f ∧ f < 10 ∧ S_X12_faultOfCommand_x_K3 (D.2.2.1 66 (3 * i)) (D.2.2.1 66 (3 * i + 1)) (D.2.2.1 66 (3 * i + 2)) D = some (0, some (.int (z f)), D) := by
        unfold S_X12_faultOfCommand_x_K3
        rw [if_neg (by decide), if_neg (by decide), if_neg (by decide), if_pos (by decide), r0]
        exact ⟨1, by omega, by omega, by omega, by rw [s_hasCharge hC hW (by omega) (by omega), bz_f (by omega), cI_i, if_pos (by decide)]; rfl⟩
      obtain ⟨f, f0, f1, f2, hFC⟩ := hFC
      unfold S_X12_carryOut_x_K3
      rw [p0, cI_i, p1, cI_i, p2, cI_i, hFC, cI_i, if_neg (by rw [show (0 : Int32) = z 0 from rfl, z_eq (by omega) (by omega) (by omega) (by omega)]; exact f0)]
      rfl
    · refine ⟨z 0, 1, by omega, by omega, ?_⟩
      show S_X13_does (z ((3 : Nat) : Int)) (z (a : Nat)) (z (b : Nat)) (z (c : Nat)) D = _
      unfold S_X13_does
      rw [if_neg (by decide), if_neg (by decide), if_neg (by decide), if_pos (by decide), m_ignites_no hM hW (by omega) (by omega) (by omega), cI_i]
theorem dich_4 (hW : WF v) {g : CG} (hw : g.1 = 4) (ha : g.2.1 ≤ 99) (hb : g.2.2.1 ≤ 99) (hc : g.2.2.2.1 ≤ 99) : (∃ v', Okc g v v') ∨ Noc g v := by
  obtain ⟨w, a, b, c, pp, qq⟩ := g
  dsimp only at hw ha hb hc
  subst hw
  have hle := fDig_le v a b
  by_cases hf : fDig v a b = 0
  · obtain ⟨c1, e1, e2, e3⟩ : ∃ c1 : Nat, cellZ a b = c1 ∧ c1 < 36 ∧ v (4 + c1) ≤ v 0 := by
      have hlo := cellZ_lo a b
      have hhi := cellZ_hi a b
      unfold fDig at hf
      by_cases h1 : cellZ a b < 0
      · rw [if_pos h1] at hf
        omega
      rw [if_neg h1] at hf
      obtain ⟨c1, h2⟩ := Int.eq_ofNat_of_zero_le (show 0 ≤ cellZ a b by omega)
      rw [h2, toNat_c] at hf
      refine ⟨c1, h2, by omega, ?_⟩
      by_cases hx : v (4 + c1) = 0 ∨ chdB v c1 = true ∨ ¬ rchB v c1 = true
      · rw [if_pos hx] at hf
        omega
      · rw [if_neg hx] at hf
        by_cases hm : v 0 < v (4 + c1)
        · rw [if_pos hm] at hf
          omega
        · omega
    refine Or.inl ⟨dgv v c1, hW.dig e2, fun D i hi hC hS => ?_, fun D hM => ?_⟩
    · obtain ⟨r0, r1, r2⟩ := hS
      dsimp only at r0 r1 r2
      obtain ⟨D1, s1, s2, s3⟩ := s_digOut hC hW e2 e3
      refine ⟨D1, ?_, s2.fa, s3⟩
      have p0 : S_X4_parameterAt (z (i : Nat)) (0 : Int32) D = some (0, some (.int (D.2.2.1 66 (3 * i))), D) := s_par (j := 0) hi (by omega)
      have p1 : S_X4_parameterAt (z (i : Nat)) (1 : Int32) D = some (0, some (.int (D.2.2.1 66 (3 * i + 1))), D) := s_par (j := 1) hi (by omega)
      have p2 : S_X4_parameterAt (z (i : Nat)) (2 : Int32) D = some (0, some (.int (D.2.2.1 66 (3 * i + 2))), D) := s_par (j := 2) hi (by omega)
      show S_X12_carryOut_x_K4 (z (i : Nat)) D = _
      have hFC : S_X12_faultOfCommand_x_K4 (D.2.2.1 66 (3 * i)) (D.2.2.1 66 (3 * i + 1)) (D.2.2.1 66 (3 * i + 2)) D = some (0, some (.int (z 0)), D) := by
        unfold S_X12_faultOfCommand_x_K4
        rw [if_neg (by decide), if_neg (by decide), if_neg (by decide), if_neg (by decide), if_pos (by decide), r0, r1 (by decide)]
        rw [s_faultOfDigging hC hW (by omega) (by omega) (by omega) (by omega), hf]; rfl
      unfold S_X12_carryOut_x_K4
      rw [p0, cI_i, p1, cI_i, p2, cI_i, hFC, cI_i, if_pos (by decide), if_neg (by decide), if_neg (by decide), if_neg (by decide), if_neg (by decide), if_pos (by decide), r0, r1 (by decide)]
      rw [s_cellAt (by omega) (by omega) (by omega) (by omega), cI_i, e1, s1, cL_l]; rfl
    · obtain ⟨c', e1', e2', e3', D', g1, g2, g3, g4⟩ := m_digs_ok hM hW (by omega) (by omega) (by omega) (by omega) hf
      have : c' = c1 := by omega
      subst c'
      refine ⟨z ((v 0 - v (4 + c1) : Nat)), D', ?_, g2, g3, g4⟩
      show S_X13_does (z ((4 : Nat) : Int)) (z (a : Nat)) (z (b : Nat)) (z (c : Nat)) D = _
      unfold S_X13_does
      rw [if_neg (by decide), if_neg (by decide), if_neg (by decide), if_neg (by decide), if_pos (by decide), g1, cI_i]
  · refine Or.inr ⟨fun D i hi hC hS => ?_, fun D hM => ?_⟩
    · obtain ⟨r0, r1, r2⟩ := hS
      dsimp only at r0 r1 r2
      have p0 : S_X4_parameterAt (z (i : Nat)) (0 : Int32) D = some (0, some (.int (D.2.2.1 66 (3 * i))), D) := s_par (j := 0) hi (by omega)
      have p1 : S_X4_parameterAt (z (i : Nat)) (1 : Int32) D = some (0, some (.int (D.2.2.1 66 (3 * i + 1))), D) := s_par (j := 1) hi (by omega)
      have p2 : S_X4_parameterAt (z (i : Nat)) (2 : Int32) D = some (0, some (.int (D.2.2.1 66 (3 * i + 2))), D) := s_par (j := 2) hi (by omega)
      show S_X12_carryOut_x_K4 (z (i : Nat)) D = _
      have hFC : ∃ f : Int, f ≠ 0 ∧ 0 ≤ f ∧ f < 10 ∧ S_X12_faultOfCommand_x_K4 (D.2.2.1 66 (3 * i)) (D.2.2.1 66 (3 * i + 1)) (D.2.2.1 66 (3 * i + 2)) D = some (0, some (.int (z f)), D) := by
        unfold S_X12_faultOfCommand_x_K4
        rw [if_neg (by decide), if_neg (by decide), if_neg (by decide), if_neg (by decide), if_pos (by decide), r0, r1 (by decide)]
        exact ⟨(fDig v a b : Nat), by omega, by omega, by omega, by rw [s_faultOfDigging hC hW (by omega) (by omega) (by omega) (by omega)]; rfl⟩
      obtain ⟨f, f0, f1, f2, hFC⟩ := hFC
      unfold S_X12_carryOut_x_K4
      rw [p0, cI_i, p1, cI_i, p2, cI_i, hFC, cI_i, if_neg (by rw [show (0 : Int32) = z 0 from rfl, z_eq (by omega) (by omega) (by omega) (by omega)]; exact f0)]
      rfl
    · refine ⟨z 0, (fDig v a b : Nat), by omega, by omega, ?_⟩
      show S_X13_does (z ((4 : Nat) : Int)) (z (a : Nat)) (z (b : Nat)) (z (c : Nat)) D = _
      unfold S_X13_does
      rw [if_neg (by decide), if_neg (by decide), if_neg (by decide), if_neg (by decide), if_pos (by decide), m_digs_no hM hW (by omega) (by omega) (by omega) (by omega) hf, cI_i]
theorem dich_5 (hW : WF v) {g : CG} (hw : g.1 = 5) (ha : g.2.1 ≤ 99) (hb : g.2.2.1 ≤ 99) (hc : g.2.2.2.1 ≤ 99) : (∃ v', Okc g v v') ∨ Noc g v := by
  obtain ⟨w, a, b, c, pp, qq⟩ := g
  dsimp only at hw ha hb hc
  subst hw
  have hle := fPrice_le a b
  by_cases hf : fPrice a b = 0
  · obtain ⟨e1, e2, e3⟩ : 1 ≤ a ∧ a ≤ 10 ∧ b ≤ 99 := by
      unfold fPrice at hf
      by_cases h1 : (1 ≤ (a : Int) ∧ (a : Int) ≤ 10) ∧ 0 ≤ (b : Int) ∧ (b : Int) ≤ 99
      · omega
      · rw [if_neg h1] at hf
        omega
    refine Or.inl ⟨upv v (51 + a) b, hW.price e1 e2 e3, fun D i hi hC hS => ?_, fun D hM => ?_⟩
    · obtain ⟨r0, r1, r2⟩ := hS
      dsimp only at r0 r1 r2
      obtain ⟨D1, s1, s2, s3⟩ := s_putPrice hC hW (l := a) (p := b) e1 e2
      refine ⟨D1, ?_, s2.fa, s3⟩
      have p0 : S_X4_parameterAt (z (i : Nat)) (0 : Int32) D = some (0, some (.int (D.2.2.1 66 (3 * i))), D) := s_par (j := 0) hi (by omega)
      have p1 : S_X4_parameterAt (z (i : Nat)) (1 : Int32) D = some (0, some (.int (D.2.2.1 66 (3 * i + 1))), D) := s_par (j := 1) hi (by omega)
      have p2 : S_X4_parameterAt (z (i : Nat)) (2 : Int32) D = some (0, some (.int (D.2.2.1 66 (3 * i + 2))), D) := s_par (j := 2) hi (by omega)
      show S_X12_carryOut_x_K5 (z (i : Nat)) D = _
      have hFC : S_X12_faultOfCommand_x_K5 (D.2.2.1 66 (3 * i)) (D.2.2.1 66 (3 * i + 1)) (D.2.2.1 66 (3 * i + 2)) D = some (0, some (.int (z 0)), D) := by
        unfold S_X12_faultOfCommand_x_K5
        rw [if_neg (by decide), if_neg (by decide), if_neg (by decide), if_neg (by decide), if_neg (by decide), if_pos (by decide), r0, r1 (by decide)]
        rw [s_faultOfPrice (by omega) (by omega) (by omega) (by omega), hf]; rfl
      unfold S_X12_carryOut_x_K5
      rw [p0, cI_i, p1, cI_i, p2, cI_i, hFC, cI_i, if_pos (by decide), if_neg (by decide), if_neg (by decide), if_neg (by decide), if_neg (by decide), if_neg (by decide), if_pos (by decide), r0, r1 (by decide)]
      rw [s1, cI_i]; rfl
    · obtain ⟨c', x', e1', e2', e3', e4', e5', D', g1, g2, g3, g4⟩ := m_prices_ok hM hW (by omega) (by omega) (by omega) (by omega) hf
      have : c' = a := by omega
      have : x' = b := by omega
      subst c'
      subst x'
      refine ⟨z (v (51 + a)), D', ?_, g2, g3, g4⟩
      show S_X13_does (z ((5 : Nat) : Int)) (z (a : Nat)) (z (b : Nat)) (z (c : Nat)) D = _
      unfold S_X13_does
      rw [if_neg (by decide), if_neg (by decide), if_neg (by decide), if_neg (by decide), if_neg (by decide), if_pos (by decide), g1, cI_i]
  · refine Or.inr ⟨fun D i hi hC hS => ?_, fun D hM => ?_⟩
    · obtain ⟨r0, r1, r2⟩ := hS
      dsimp only at r0 r1 r2
      have p0 : S_X4_parameterAt (z (i : Nat)) (0 : Int32) D = some (0, some (.int (D.2.2.1 66 (3 * i))), D) := s_par (j := 0) hi (by omega)
      have p1 : S_X4_parameterAt (z (i : Nat)) (1 : Int32) D = some (0, some (.int (D.2.2.1 66 (3 * i + 1))), D) := s_par (j := 1) hi (by omega)
      have p2 : S_X4_parameterAt (z (i : Nat)) (2 : Int32) D = some (0, some (.int (D.2.2.1 66 (3 * i + 2))), D) := s_par (j := 2) hi (by omega)
      show S_X12_carryOut_x_K5 (z (i : Nat)) D = _
      have hFC : ∃ f : Int, f ≠ 0 ∧ 0 ≤ f ∧ f < 10 ∧ S_X12_faultOfCommand_x_K5 (D.2.2.1 66 (3 * i)) (D.2.2.1 66 (3 * i + 1)) (D.2.2.1 66 (3 * i + 2)) D = some (0, some (.int (z f)), D) := by
        unfold S_X12_faultOfCommand_x_K5
        rw [if_neg (by decide), if_neg (by decide), if_neg (by decide), if_neg (by decide), if_neg (by decide), if_pos (by decide), r0, r1 (by decide)]
        exact ⟨(fPrice a b : Nat), by omega, by omega, by omega, by rw [s_faultOfPrice (by omega) (by omega) (by omega) (by omega)]; rfl⟩
      obtain ⟨f, f0, f1, f2, hFC⟩ := hFC
      unfold S_X12_carryOut_x_K5
      rw [p0, cI_i, p1, cI_i, p2, cI_i, hFC, cI_i, if_neg (by rw [show (0 : Int32) = z 0 from rfl, z_eq (by omega) (by omega) (by omega) (by omega)]; exact f0)]
      rfl
    · refine ⟨z 0, (fPrice a b : Nat), by omega, by omega, ?_⟩
      show S_X13_does (z ((5 : Nat) : Int)) (z (a : Nat)) (z (b : Nat)) (z (c : Nat)) D = _
      unfold S_X13_does
      rw [if_neg (by decide), if_neg (by decide), if_neg (by decide), if_neg (by decide), if_neg (by decide), if_pos (by decide), m_prices_no (D := D) (by omega) (by omega) (by omega) (by omega) hf, cI_i]
theorem dich_6 (hW : WF v) {g : CG} (hw : g.1 = 6) (ha : g.2.1 ≤ 99) (hb : g.2.2.1 ≤ 99) (hc : g.2.2.2.1 ≤ 99) : (∃ v', Okc g v v') ∨ Noc g v := by
  obtain ⟨w, a, b, c, pp, qq⟩ := g
  dsimp only at hw ha hb hc
  subst hw
  have hge := gSell_eq v a
  by_cases hf : gSell v a = 0
  · have hf2 : fSell v a = 0 := by omega
    obtain ⟨D0, w, p, q0⟩ : ∃ (D0 : DD) (w p : Nat → Nat), CT v w p 30 := by
      obtain ⟨D1, hD1⟩ : ∃ D1 : DD, D1 = ((fun _ => 0), (fun _ => 0), (fun _ k => z (v k)), (fun _ _ => 0), (fun _ _ => 0), (fun _ => none)) := ⟨_, rfl⟩
      have hM1 : MR D1 v := by
        rw [hD1]
        exact fun i hi => rfl
      obtain ⟨D2, w, p, -, -, -, q4, -⟩ := m_cuts hM1 hW
      exact ⟨D2, w, p, q4⟩
    obtain ⟨e2, e3, e4⟩ : 1 ≤ a ∧ a ≤ 30 ∧ v 2 + a ≤ v 1 := by
      have w5 := hW.2.2.2.2.1
      unfold gSell at hf
      by_cases h1 : ¬ (1 ≤ (a : Int) ∧ (a : Int) ≤ 30)
      · rw [if_pos h1] at hf
        omega
      · rw [if_neg h1] at hf
        by_cases h2 : (v 1 : Int) - v 2 < a
        · rw [if_pos h2] at hf
          omega
        · omega
    have hb1 := (q0.bound hW a e3).1
    refine Or.inl ⟨slv v a (w a), hW.sale e4 hb1, fun D i hi hC hS => ?_, fun D hM => ?_⟩
    · obtain ⟨r0, r1, r2⟩ := hS
      dsimp only at r0 r1 r2
      obtain ⟨D1, s1, s2, s3⟩ := s_sellBar hC hW e3 e4 q0
      refine ⟨D1, ?_, s2, s3⟩
      have p0 : S_X4_parameterAt (z (i : Nat)) (0 : Int32) D = some (0, some (.int (D.2.2.1 66 (3 * i))), D) := s_par (j := 0) hi (by omega)
      have p1 : S_X4_parameterAt (z (i : Nat)) (1 : Int32) D = some (0, some (.int (D.2.2.1 66 (3 * i + 1))), D) := s_par (j := 1) hi (by omega)
      have p2 : S_X4_parameterAt (z (i : Nat)) (2 : Int32) D = some (0, some (.int (D.2.2.1 66 (3 * i + 2))), D) := s_par (j := 2) hi (by omega)
      show S_X12_carryOut_x_K6 (z (i : Nat)) D = _
      have hFC : S_X12_faultOfCommand_x_K6 (D.2.2.1 66 (3 * i)) (D.2.2.1 66 (3 * i + 1)) (D.2.2.1 66 (3 * i + 2)) D = some (0, some (.int (z 0)), D) := by
        unfold S_X12_faultOfCommand_x_K6
        rw [if_neg (by decide), if_neg (by decide), if_neg (by decide), if_neg (by decide), if_neg (by decide), if_neg (by decide), r0]
        rw [s_faultOfSelling hC hW (by omega) (by omega), hf2]; rfl
      unfold S_X12_carryOut_x_K6
      rw [p0, cI_i, p1, cI_i, p2, cI_i, hFC, cI_i, if_pos (by decide), if_neg (by decide), if_neg (by decide), if_neg (by decide), if_neg (by decide), if_neg (by decide), if_neg (by decide), r0]
      rw [s1, cI_i]; rfl
    · obtain ⟨c', e1', e2', e3', e4', D', w', pw', hT', hb', g1, g2, g3, g4⟩ := m_sells_ok hM hW (by omega) (by omega) hf
      have : c' = a := by omega
      subst c'
      have ew := (q0.uniq hT' a e3).1
      rw [← ew] at g1 g3
      refine ⟨z (w a), D', ?_, g2, g3, g4⟩
      show S_X13_does (z ((6 : Nat) : Int)) (z (a : Nat)) (z (b : Nat)) (z (c : Nat)) D = _
      unfold S_X13_does
      rw [if_neg (by decide), if_neg (by decide), if_neg (by decide), if_neg (by decide), if_neg (by decide), if_neg (by decide), g1, cI_i]
  · refine Or.inr ⟨fun D i hi hC hS => ?_, fun D hM => ?_⟩
    · obtain ⟨r0, r1, r2⟩ := hS
      dsimp only at r0 r1 r2
      have p0 : S_X4_parameterAt (z (i : Nat)) (0 : Int32) D = some (0, some (.int (D.2.2.1 66 (3 * i))), D) := s_par (j := 0) hi (by omega)
      have p1 : S_X4_parameterAt (z (i : Nat)) (1 : Int32) D = some (0, some (.int (D.2.2.1 66 (3 * i + 1))), D) := s_par (j := 1) hi (by omega)
      have p2 : S_X4_parameterAt (z (i : Nat)) (2 : Int32) D = some (0, some (.int (D.2.2.1 66 (3 * i + 2))), D) := s_par (j := 2) hi (by omega)
      show S_X12_carryOut_x_K6 (z (i : Nat)) D = _
      have hFC : ∃ f : Int, f ≠ 0 ∧ 0 ≤ f ∧ f < 10 ∧ S_X12_faultOfCommand_x_K6 (D.2.2.1 66 (3 * i)) (D.2.2.1 66 (3 * i + 1)) (D.2.2.1 66 (3 * i + 2)) D = some (0, some (.int (z f)), D) := by
        unfold S_X12_faultOfCommand_x_K6
        rw [if_neg (by decide), if_neg (by decide), if_neg (by decide), if_neg (by decide), if_neg (by decide), if_neg (by decide), r0]
        exact ⟨(fSell v a : Nat), by omega, by omega, by omega, by rw [s_faultOfSelling hC hW (by omega) (by omega)]; rfl⟩
      obtain ⟨f, f0, f1, f2, hFC⟩ := hFC
      unfold S_X12_carryOut_x_K6
      rw [p0, cI_i, p1, cI_i, p2, cI_i, hFC, cI_i, if_neg (by rw [show (0 : Int32) = z 0 from rfl, z_eq (by omega) (by omega) (by omega) (by omega)]; exact f0)]
      rfl
    · refine ⟨z 0, (gSell v a : Nat), by omega, by omega, ?_⟩
      show S_X13_does (z ((6 : Nat) : Int)) (z (a : Nat)) (z (b : Nat)) (z (c : Nat)) D = _
      unfold S_X13_does
      rw [if_neg (by decide), if_neg (by decide), if_neg (by decide), if_neg (by decide), if_neg (by decide), if_neg (by decide), m_sells_no hM hW (by omega) (by omega) hf, cI_i]
theorem dich (hW : WF v) {n : Nat} {T : Nat → Nat} {g : CG} (hg : Gd n T g) : (∃ v', Okc g v v') ∨ Noc g v := by
  obtain ⟨-, -, h1, h2, h3, h4⟩ := hg.len
  have : g.1 = 0 ∨ g.1 = 1 ∨ g.1 = 2 ∨ g.1 = 3 ∨ g.1 = 4 ∨ g.1 = 5 ∨ g.1 = 6 := by omega
  rcases this with h | h | h | h | h | h | h
  · exact dich_0 hW h h2 h3 h4
  · exact dich_1 hW h h2 h3 h4
  · exact dich_2 hW h h2 h3 h4
  · exact dich_3 hW h h2 h3 h4
  · exact dich_4 hW h h2 h3 h4
  · exact dich_5 hW h h2 h3 h4
  · exact dich_6 hW h h2 h3 h4
theorem sim (hW : WF v) {n : Nat} {T : Nat → Nat} {G : Nat → CG} : ∀ K, (∀ i, i < K → Gd n T (G i)) → ∃ (J : Nat) (V : Nat → Nat → Nat), J ≤ K ∧ V 0 = v ∧ (∀ i, i < J → Okc (G i) (V i) (V (i + 1))) ∧ (∀ i, i ≤ J → WF (V i)) ∧ (J = K ∨ (J < K ∧ Noc (G J) (V J))) := by
  intro K
  induction K with
  | zero => intro _; exact ⟨0, fun _ => v, Nat.le_refl _, rfl, fun i h => by omega, fun _ _ => hW, Or.inl rfl⟩
  | succ K ih =>
    intro hG
    obtain ⟨J, V, h1, h2, h3, h4, h5⟩ := ih (fun i hi => hG i (by omega))
    rcases h5 with h5 | ⟨h5, h6⟩
    · subst h5
      rcases dich (h4 J (Nat.le_refl _)) (hG J (by omega)) with ⟨v', hv⟩ | hno
      · refine ⟨J + 1, fun i => if i = J + 1 then v' else V i, Nat.le_refl _, ?_, fun i hi => ?_, fun i hi => ?_, Or.inl rfl⟩
        · show (if 0 = J + 1 then v' else V 0) = v
          rw [if_neg (by omega)]
          exact h2
        · show Okc (G i) (if i = J + 1 then v' else V i) (if i + 1 = J + 1 then v' else V (i + 1))
          rw [if_neg (by omega)]
          by_cases e : i = J
          · rw [if_pos (by omega), e]
            exact hv
          · rw [if_neg (by omega)]
            exact h3 i (by omega)
        · show WF (if i = J + 1 then v' else V i)
          by_cases e : i = J + 1
          · rw [if_pos e]
            exact hv.1
          · rw [if_neg e]
            exact h4 i (by omega)
      · exact ⟨J, V, by omega, h2, h3, h4, Or.inr ⟨by omega, hno⟩⟩
    · exact ⟨J, V, by omega, h2, h3, h4, Or.inr ⟨by omega, h6⟩⟩
end LL
