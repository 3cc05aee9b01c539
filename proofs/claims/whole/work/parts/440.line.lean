/-! pure: shares, means, the line, typed characters -/
theorem sm_le {f : Nat → Nat} : ∀ n, (∀ j, j < n → f j ≤ 9) → sm f n ≤ 9 * n
  | 0, _ => Nat.le_refl _
  | n + 1, h => by
    have h1 := sm_le n (fun j hj => h j (by omega))
    have h2 := h n (by omega)
    rw [sm]
    omega
def oF (D : DD) (x : UInt64) : DD := setF D 0 (vf_upd (D.2.2.2.2.1 0) (0 : Int32).toNatClampNeg x)
theorem oF_0 (D : DD) (x : UInt64) : (oF D x).2.2.2.2.1 0 0 = x := rfl
/-- the line's row g with i characters -/
def Pl (D : DD) (i : Nat) (g : Nat → Int32) : DD := setI (setA D 64 g) 128 (z (i : Nat))
def sgn (v : Nat → Nat) (c : Nat) : Nat := if chdB v c = true then 42 else if v (4 + c) = 0 then 46 else 48 + v (4 + c)
def chv (v : Nat → Nat) (c : Nat) : Nat → Nat := fun i => if i = 0 then 48 + c else if i = 1 then 64 else if i = 2 then 48 + v (40 + 2 * c) / 6 else if i = 3 then 44 else if i = 4 then 48 + v (40 + 2 * c) % 6 else if i = 5 then 58 else 48 + v (41 + 2 * c)
section LL
variable {D D1 E : DD} {v : Nat → Nat} {n nx : Nat} {p : Nat → Nat → Nat} {sf : Bool} {sv : Nat → Nat} {e f : Int} {ln ln' : Nat} {L L' : Nat → Nat} {tn tn' : Nat} {T T' : Nat → Nat}
theorem IP.agT (h : IP D n nx p sf sv e f ln L tn T) (hi : ∀ k, k < 129 → E.1 k = D.1 k) (hj : ∀ k, E.2.1 k = D.2.1 k) (ha : ∀ k, k < 65 → E.2.2.1 k = D.2.2.1 k) (ht : TC E tn' T') : IP E n nx p sf sv e f ln L tn' T' := by
  obtain ⟨h1, h2, h3, h4, h5⟩ := h
  refine ⟨h1.ag (hi _ (by omega)) (hi _ (by omega)) (fun k _ _ => hi k (by omega)) (fun k _ _ => hj k) (fun k _ _ => ha k (by omega)), h2.ag (hi _ (by omega)) (fun k _ _ => hi k (by omega)) (hj _) (fun k _ _ => ha k (by omega)), ?_, ?_, ht⟩
  · unfold EC
    rw [hi 121 (by omega), hi 122 (by omega)]
    exact h3
  · unfold LC
    rw [hi 128 (by omega), ha 64 (by omega)]
    exact h4
theorem IP.agL (h : IP D n nx p sf sv e f ln L tn T) (hi : ∀ k, k < 128 ∨ k = 129 → E.1 k = D.1 k) (hj : ∀ k, E.2.1 k = D.2.1 k) (ha : ∀ k, k < 64 ∨ k = 65 → E.2.2.1 k = D.2.2.1 k) (ht : LC E ln' L') : IP E n nx p sf sv e f ln' L' tn T := by
  obtain ⟨h1, h2, h3, h4, h5⟩ := h
  refine ⟨h1.ag (hi _ (by omega)) (hi _ (by omega)) (fun k _ _ => hi k (by omega)) (fun k _ _ => hj k) (fun k _ _ => ha k (by omega)), h2.ag (hi _ (by omega)) (fun k _ _ => hi k (by omega)) (hj _) (fun k _ _ => ha k (by omega)), ?_, ht, ?_⟩
  · unfold EC
    rw [hi 121 (by omega), hi 122 (by omega)]
    exact h3
  · unfold TC
    rw [hi 129 (by omega), ha 65 (by omega)]
    exact h5
theorem IQ.agT (h : IQ D n p sf sv e f ln L tn T) (hi : ∀ k, 141 ≤ k → k ≠ 145 → E.1 k = D.1 k) (ha : ∀ k, 72 ≤ k → k ≠ 79 → E.2.2.1 k = D.2.2.1 k) (ht : TM E tn' T') : IQ E n p sf sv e f ln L tn' T' := by
  obtain ⟨h1, h2, h3, h4, h5, h6⟩ := h
  refine ⟨?_, ?_, ?_, ?_, ht, ?_⟩
  · unfold HM
    rw [hi 141 (by omega) (by omega), ha 73 (by omega) (by omega)]
    exact h1
  · unfold NM
    rw [hi 144 (by omega) (by omega), ha 72 (by omega) (by omega)]
    exact h2
  · unfold EM
    rw [hi 142 (by omega) (by omega), hi 143 (by omega) (by omega)]
    exact h3
  · unfold LM
    rw [hi 148 (by omega) (by omega), ha 80 (by omega) (by omega)]
    exact h4
  · unfold WM
    rw [ha 82 (by omega) (by omega), ha 83 (by omega) (by omega)]
    exact h6
theorem IQ.agL (h : IQ D n p sf sv e f ln L tn T) (hi : ∀ k, 141 ≤ k → k ≠ 148 → E.1 k = D.1 k) (ha : ∀ k, 72 ≤ k → k ≠ 80 → E.2.2.1 k = D.2.2.1 k) (ht : LM E ln' L') : IQ E n p sf sv e f ln' L' tn T := by
  obtain ⟨h1, h2, h3, h4, h5, h6⟩ := h
  refine ⟨?_, ?_, ?_, ht, ?_, ?_⟩
  · unfold HM
    rw [hi 141 (by omega) (by omega), ha 73 (by omega) (by omega)]
    exact h1
  · unfold NM
    rw [hi 144 (by omega) (by omega), ha 72 (by omega) (by omega)]
    exact h2
  · unfold EM
    rw [hi 142 (by omega) (by omega), hi 143 (by omega) (by omega)]
    exact h3
  · unfold TM
    rw [hi 145 (by omega) (by omega), ha 79 (by omega) (by omega)]
    exact h5
  · unfold WM
    rw [ha 82 (by omega) (by omega), ha 83 (by omega) (by omega)]
    exact h6
theorem m_mean (hM : MR D v) (hW : WF v) : S_X13_meanHardness D = some (0, some (.double (if openN v = 36 then FP.dconst0 else FP.ddiv (FP.i2d (z (sm (fun c => v (4 + c)) 36))) (FP.i2d (z ((36 - openN v : Nat)))))), setI D 140 (z (bz (openN v = 36)))) := by
  have hop := hW.opn
  have hs := sm_le (f := fun c => v (4 + c)) 36 (fun j hj => hW.1 j hj)
  have key : ∀ t : Int, t = 0 ∨ t = 1 → RunP T_X13_meanHardness 50 1 [z ((36 - openN v : Nat)), z 0, z 0] (setI D 140 (z t)) (fun r => ∃ D', D' = setI D 140 (z t) ∧ r = (0, some (.double (if z t = z 0 then FP.ddiv (FP.i2d (z (sm (fun c => v (4 + c)) 36))) (FP.i2d (z ((36 - openN v : Nat)))) else FP.dconst0)), D')) ∨ (t = 0 ∧ openN v = 36) := by
    intro t ht01
    by_cases hbad : t = 0 ∧ openN v = 36
    · exact Or.inr hbad
    refine Or.inl ?_
    refine RunP.loop (fun i ls D' => D' = setI D 140 (z t) ∧ ls = [z ((36 - openN v : Nat)), z (sm (fun c => v (4 + c)) i), z i]) 36 1 1 ?_ ?_ 0 _ _ (by omega) ⟨rfl, rfl⟩ (by omega)
    · rintro i ls D' c hi ⟨rfl, rfl⟩ hkk
      refine RunP.go ?_
      show Wp (b_X13_meanHardness_1 _ _ _ _) _
      unfold b_X13_meanHardness_1
      rw [show (36 : Int32) = z 36 from rfl, if_neg (by rw [z_le (by omega) (by omega) (by omega) (by omega)]; omega), m_hard (D := setI D 140 (z t)) hM hi, cI_i, show (1 : Int32) = z 1 from rfl, z_add, z_add, Wp_some, Nx_l]
      exact hkk _ _ ⟨rfl, rfl⟩
    · rintro ls D' ⟨rfl, rfl⟩
      refine RunP.go ?_
      show Wp (b_X13_meanHardness_1 _ _ _ _) _
      unfold b_X13_meanHardness_1
      rw [show (36 : Int32) = z 36 from rfl, if_pos (by rw [z_le (by omega) (by omega) (by omega) (by omega)]; omega), setI_same, show (0 : Int32) = z 0 from rfl]
      by_cases ht : z t = z 0
      · rw [if_pos ht, if_pos ht]
        by_cases h36 : openN v = 36
        · rcases ht01 with rfl | rfl
          · exact absurd ⟨rfl, h36⟩ hbad
          · exact absurd ht (by decide)
        · rw [if_pos (dv_num _ (by omega) _ (by omega) (by omega)), Wp_some, Nx_r]
          exact ⟨_, rfl, rfl⟩
      · rw [if_neg ht, if_neg ht, Wp_some, Nx_r]
        exact ⟨_, rfl, rfl⟩
  unfold S_X13_meanHardness
  refine RunP.eqn (c := 51) ?_ (by decide)
  refine RunP.go ?_
  show Wp (b_X13_meanHardness_0 _) _
  unfold b_X13_meanHardness_0
  rw [m_opened hM hW, cI_i, show (36 : Int32) - z (openN v) = z ((36 - openN v : Nat)) by rw [show (36 : Int32) = z 36 from rfl, z_sub]; congr 1; omega, show (0 : Int32) = z 0 from rfl, show (1 : Int32) = z 1 from rfl]
  by_cases h36 : openN v = 36
  · rw [if_pos (by rw [h36]; rfl), Wp_some, Nx_l, if_pos h36, bz_t h36]
    rcases key 1 (Or.inr rfl) with h | h
    · obtain ⟨m, r, k1, k2, D', rfl, k3⟩ := h
      exact ⟨m, r, k1, k2, by rw [k3, if_neg (by decide)]⟩
    · omega
  · rw [if_neg (by rw [z_eq (by omega) (by omega) (by omega) (by omega)]; omega), Wp_some, Nx_l, if_neg h36, bz_f h36]
    rcases key 0 (Or.inl rfl) with h | h
    · obtain ⟨m, r, k1, k2, D', rfl, k3⟩ := h
      exact ⟨m, r, k1, k2, by rw [k3, if_pos rfl]⟩
    · omega
theorem c_meanHardness (hD : Inv D) : ∃ (k : Int) (x : UInt64) (D1 D2 : DD), S_L_meanHardness D = some (0, some (.int (z k)), D1) ∧ (k = 0 → D1.2.2.2.2.1 0 0 = x) ∧ S_X13_meanHardness D1 = some (0, some (.double x), D2) ∧ D2.2.2.2.2.1 = D1.2.2.2.2.1 ∧ D2.1 140 = z k ∧ 0 ≤ k ∧ k < 100 ∧ Inv D2 := by
  obtain ⟨v, n, nx, p, sf, sv, e, f, ln, L, tn, T, hI⟩ := hD
  obtain ⟨hC, hP, hM, hQ, hJ⟩ := id hI
  have hW := hJ.1
  have hop := hW.opn
  have hs := sm_le (f := fun c => v (4 + c)) 36 (fun j hj => hW.1 j hj)
  have hX : S_X12_meanHardness D = if openN v = 36 then some (6, none, D) else some (0, some (.double (FP.ddiv (FP.i2d (z (sm (fun c => v (4 + c)) 36))) (FP.i2d (z ((36 - openN v : Nat)))))), D) := by
    unfold S_X12_meanHardness
    rw [s_countOpen hC hW, cI_i, show (36 : Int32) - z (openN v) = z ((36 - openN v : Nat)) by rw [show (36 : Int32) = z 36 from rfl, z_sub]; congr 1; omega, show (0 : Int32) = z 0 from rfl]
    by_cases h36 : openN v = 36
    · rw [if_pos h36, if_pos (by rw [h36]; rfl)]
    · rw [if_neg h36, if_neg (by rw [z_eq (by omega) (by omega) (by omega) (by omega)]; omega), s_sumOfHardness hC hW, cI_i, if_pos (dv_num _ (by omega) _ (by omega) (by omega))]
  by_cases h36 : openN v = 36
  · rw [if_pos h36] at hX
    have hR := m_mean hM hW
    rw [if_pos h36, bz_t h36] at hR
    refine ⟨1, _, D, _, ?_, fun q => by omega, hR, rfl, setI_same _ _ _, by omega, by omega, _, _, _, _, _, _, _, _, _, _, _, _, hI.q FC.rfl fm140⟩
    unfold S_L_meanHardness
    rw [hX]
    rfl
  · rw [if_neg h36] at hX
    have hR := m_mean (D := oF D (FP.ddiv (FP.i2d (z (sm (fun c => v (4 + c)) 36))) (FP.i2d (z ((36 - openN v : Nat)))))) hM hW
    rw [if_neg h36, bz_f h36] at hR
    have hI2 : IV (oF D (FP.ddiv (FP.i2d (z (sm (fun c => v (4 + c)) 36))) (FP.i2d (z ((36 - openN v : Nat)))))) v n nx p sf sv e f ln L tn T := hI
    refine ⟨0, _, _, _, ?_, fun q => oF_0 _ _, hR, rfl, setI_same _ _ _, by omega, by omega, _, _, _, _, _, _, _, _, _, _, _, _, hI2.q FC.rfl fm140⟩
    unfold S_L_meanHardness
    rw [hX]
    rfl
theorem c_openShare (hD : Inv D) : ∃ (x : UInt32) (D1 D2 : DD), S_X12_openShare D = some (0, some (.float x), D1) ∧ (FP.f2d x) &&& 0x7fffffffffffffff ≤ 0x7ff0000000000000 ∧ S_X13_openShare D1 = some (0, some (.float x), D2) ∧ Inv D2 := by
  obtain ⟨v, n, nx, p, sf, sv, e, f, ln, L, tn, T, hI⟩ := hD
  obtain ⟨hC, hP, hM, hQ, hJ⟩ := id hI
  have hW := hJ.1
  have hop := hW.opn
  obtain ⟨f1, f2⟩ := fv_num (openN v) (by omega)
  refine ⟨_, D, setI D 140 (z 0), ?_, f2, ?_, _, _, _, _, _, _, _, _, _, _, _, _, hI.q FC.rfl fm140⟩
  · unfold S_X12_openShare
    rw [s_countOpen hC hW, cI_i, if_pos f1]
  · unfold S_X13_openShare
    rw [show (0 : Int32) = z 0 from rfl, m_opened (D := setI D 140 (z 0)) hM hW, cI_i, if_pos f1]
theorem c_type {c : Nat} (hc : c < 65536) (hD : Inv D) : Ce (S_L_type (z c)) (S_X13_type (z c)) D := by
  obtain ⟨v, n, nx, p, sf, sv, e, f, ln, L, tn, T, hI⟩ := hD
  obtain ⟨hC, hP, hM, hQ, hJ⟩ := id hI
  have hW := hJ.1
  obtain ⟨-, hn, hnx, hpW, hsW, he, hf, hln, hL, htn, hT⟩ := hJ
  obtain ⟨t1, t2⟩ := hP.2.2.2.2
  obtain ⟨u1, u2⟩ := hQ.2.2.2.2.1
  by_cases hr : 32 ≤ c ∧ c ≤ 126
  · by_cases hfull : tn = 60
    · have hR : S_X13_type (z c) D = some (0, some (.int (z 0)), setI D 140 (z 2)) := by
        unfold S_X13_type
        rw [show (32 : Int32) = z 32 from rfl, show (126 : Int32) = z 126 from rfl, m_isIn (by omega) (by omega) (by omega) (by omega) (by omega) (by omega), bz_t (by omega), cI_i, if_neg (by decide), u1, hfull, if_pos (by decide), if_neg (by decide)]
        rfl
      refine ce_no (k := 2) ?_ (by omega) hC hP ⟨_, _, hR, fm140.fr.gm, setI_same _ _ _, hM, hQ.fr fm140.fr⟩ hI.2.2.2.2
      have hX : S_X12_type (z c) D = some (2, none, D) := by
        unfold S_X12_type S_X4_isFull
        simp (disch := omega) only [z_add, z_sub, z_mul, z_neg, ite_T, ite_F, zl_0, zl_1, zl_2, zl_3, zl_4, zl_5, zl_6, zl_7, zl_8, zl_9, zl_10, zl_11, zl_12, zl_13, zl_14, zl_15, zl_16, zl_17, zl_18, zl_19, zl_20, zl_21, zl_22, zl_23, zl_24, zl_25, zl_26, zl_27, zl_28, zl_29, zl_30, zl_31, zl_32, zl_33, zl_34, zl_35, zl_36, zl_37, zl_38, zl_39, zl_40, zl_41, zl_42, zl_43, zl_44, zl_45, zl_46, zl_47, zl_48, zl_49, zl_50, zl_51, zl_52, zl_53, zl_54, zl_55, zl_56, zl_57, zl_58, zl_59, zl_60, zl_61, zl_62, zl_63, zl_64, zl_97, zl_99, zl_100, zl_126, zl_255, zl_434, zl_496, zl_1000000, zl_100000, z_lt, z_le, z_eq, inB_z, z_div, Int.reduceToNat, Wp_some, Nx_l, Nx_r, cI_i, cV_v, cL_l, ite_t, ite_f, z_nn, toNat_c, bz_e0, t1]
      unfold S_L_type
      rw [hX]
      rfl
    · have hX : S_X12_type (z c) D = some (0, some (.int (z ((tn + 1 : Nat)))), setI (setA D 65 (upd (D.2.2.1 65) tn (z c))) 129 (z ((tn + 1 : Nat)))) := by
        unfold S_X12_type S_X4_isFull S_X4_append
        simp (disch := omega) only [z_add, z_sub, z_mul, z_neg, ite_T, ite_F, zl_0, zl_1, zl_2, zl_3, zl_4, zl_5, zl_6, zl_7, zl_8, zl_9, zl_10, zl_11, zl_12, zl_13, zl_14, zl_15, zl_16, zl_17, zl_18, zl_19, zl_20, zl_21, zl_22, zl_23, zl_24, zl_25, zl_26, zl_27, zl_28, zl_29, zl_30, zl_31, zl_32, zl_33, zl_34, zl_35, zl_36, zl_37, zl_38, zl_39, zl_40, zl_41, zl_42, zl_43, zl_44, zl_45, zl_46, zl_47, zl_48, zl_49, zl_50, zl_51, zl_52, zl_53, zl_54, zl_55, zl_56, zl_57, zl_58, zl_59, zl_60, zl_61, zl_62, zl_63, zl_64, zl_97, zl_99, zl_100, zl_126, zl_255, zl_434, zl_496, zl_1000000, zl_100000, z_lt, z_le, z_eq, inB_z, z_div, Int.reduceToNat, Wp_some, Nx_l, Nx_r, cI_i, cV_v, cL_l, ite_t, ite_f, z_nn, toNat_c, bz_e0, t1, s_inRange, nac_lt c (by omega)]
        rfl
      have hE : ∀ E : DD, E.1 145 = z tn → S_X13_type (z c) E = some (0, some (.int (z ((tn + 1 : Nat)))), setI (setA (setI E 140 (z 0)) 79 (upd (E.2.2.1 79) tn (z c))) 145 (z ((tn + 1 : Nat)))) := by
        intro E hE
        unfold S_X13_type
        simp (disch := omega) only [z_add, z_sub, z_mul, z_neg, ite_T, ite_F, zl_0, zl_1, zl_2, zl_3, zl_4, zl_5, zl_6, zl_7, zl_8, zl_9, zl_10, zl_11, zl_12, zl_13, zl_14, zl_15, zl_16, zl_17, zl_18, zl_19, zl_20, zl_21, zl_22, zl_23, zl_24, zl_25, zl_26, zl_27, zl_28, zl_29, zl_30, zl_31, zl_32, zl_33, zl_34, zl_35, zl_36, zl_37, zl_38, zl_39, zl_40, zl_41, zl_42, zl_43, zl_44, zl_45, zl_46, zl_47, zl_48, zl_49, zl_50, zl_51, zl_52, zl_53, zl_54, zl_55, zl_56, zl_57, zl_58, zl_59, zl_60, zl_61, zl_62, zl_63, zl_64, zl_97, zl_99, zl_100, zl_126, zl_255, zl_434, zl_496, zl_1000000, zl_100000, z_lt, z_le, z_eq, inB_z, z_div, Int.reduceToNat, Wp_some, Nx_l, Nx_r, cI_i, cV_v, cL_l, ite_t, ite_f, z_nn, toNat_c, bz_e0, hE, m_isIn]
        rfl
      have hR := hE (oL (setI (setA D 65 (upd (D.2.2.1 65) tn (z c))) 129 (z ((tn + 1 : Nat)))) (z ((tn + 1 : Nat))).toInt64) u1
      have hg1 : FG (fun k => k == 129) n0 (fun k => k == 65) false D (setI (setA D 65 (upd (D.2.2.1 65) tn (z c))) 129 (z ((tn + 1 : Nat)))) := (FG.rfl.sA rfl).sI rfl
      have hg2 : FG (fun k => k == 140 || k == 145) n0 (fun k => k == 79) false (oL (setI (setA D 65 (upd (D.2.2.1 65) tn (z c))) 129 (z ((tn + 1 : Nat)))) (z ((tn + 1 : Nat))).toInt64) (setI (setA (setI (oL (setI (setA D 65 (upd (D.2.2.1 65) tn (z c))) 129 (z ((tn + 1 : Nat)))) (z ((tn + 1 : Nat))).toInt64) 140 (z 0)) 79 (upd (D.2.2.1 79) tn (z c))) 145 (z ((tn + 1 : Nat)))) := ((FG.rfl.sI rfl).sA rfl).sI rfl
      have hQ1 : IQ (oL (setI (setA D 65 (upd (D.2.2.1 65) tn (z c))) 129 (z ((tn + 1 : Nat)))) (z ((tn + 1 : Nat))).toInt64) n p sf sv e f ln L tn T := hQ.ag (E := oL (setI (setA D 65 (upd (D.2.2.1 65) tn (z c))) 129 (z ((tn + 1 : Nat)))) (z ((tn + 1 : Nat))).toInt64) (fun k hk => hg1.1 k (by simp; omega)) (fun k hk => hg1.2.2.1 k (by simp; omega))
      refine ce_ok (D1 := setI (setA D 65 (upd (D.2.2.1 65) tn (z c))) 129 (z ((tn + 1 : Nat)))) (a := z ((tn + 1 : Nat))) (v' := v) (tn' := tn + 1) (T' := fun i => if i = tn then c else T i) (by unfold S_L_type; rw [hX]; rfl) ?_ (hP.agT (fun k hk => hg1.1 k (by simp; omega)) (fun k => hg1.2.1 k rfl) (fun k hk => hg1.2.2.1 k (by simp; omega)) ⟨rfl, fun i hi => ?_⟩) ⟨_, hR, ?_, rfl, hM, hQ1.agT (fun k h1 h2 => hg2.1 k (by simp; omega)) (fun k h1 h2 => hg2.2.2.1 k (by simp; omega)) ⟨rfl, fun i hi => ?_⟩⟩ ⟨hW, hn, hnx, hpW, hsW, he, hf, hln, hL, by omega, fun i hi => ?_⟩
      · exact QS.ag (o := 0) hC (fun k _ _ => hg1.1 k (by simp; omega)) (hg1.2.1 0 rfl) (fun k _ _ => hg1.2.2.1 k (by simp; omega))
      · show upd (D.2.2.1 65) tn (z c) i = z ((if i = tn then c else T i : Nat))
        by_cases q : i = tn
        · rw [q, upd_same, if_pos rfl]
        · rw [upd_ne _ _ q, if_neg q]
          exact t2 i (by omega)
      · exact FG.mono hg2 (fun k hk => by
          have : k < 140 := by simpa [gmI] using hk
          simp
          omega) (fun k hk => hk) (fun k hk => by
          have : k < 70 := by simpa [gmA] using hk
          simp
          omega) (fun h => h)
      · show upd (D.2.2.1 79) tn (z c) i = z ((if i = tn then c else T i : Nat))
        by_cases q : i = tn
        · rw [q, upd_same, if_pos rfl]
        · rw [upd_ne _ _ q, if_neg q]
          exact u2 i (by omega)
      · show 32 ≤ (if i = tn then c else T i) ∧ (if i = tn then c else T i) ≤ 126
        by_cases q : i = tn
        · rw [if_pos q]
          exact hr
        · rw [if_neg q]
          exact hT i (by omega)
  · refine q_no (k := 1) hI (by omega) ?_ (fun E hE => ⟨z 0, setI E 140 (z 1), ?_, fm140, setI_same _ _ _⟩)
    · have hX : S_X12_type (z c) D = some (1, none, D) := by
        unfold S_X12_type
        rw [show (32 : Int32) = z 32 from rfl, show (126 : Int32) = z 126 from rfl]
        by_cases q : c < 32
        · rw [if_pos (by rw [z_lt (by omega) (by omega) (by omega) (by omega)]; omega)]
        · rw [if_neg (by rw [z_lt (by omega) (by omega) (by omega) (by omega)]; omega), if_neg (by rw [z_le (by omega) (by omega) (by omega) (by omega)]; omega)]
      unfold S_L_type
      rw [hX]
      rfl
    · unfold S_X13_type
      rw [show (32 : Int32) = z 32 from rfl, show (126 : Int32) = z 126 from rfl, m_isIn (by omega) (by omega) (by omega) (by omega) (by omega) (by omega), bz_f (by omega), cI_i, if_pos (by decide), if_neg (by decide)]
      rfl
theorem c_lineAt {a : Int} (h1 : -2147483648 ≤ a) (h2 : a < 2147483648) (hD : Inv D) : Ce (S_L_lineAt (z a)) (S_X13_lineAt (z a)) D := by
  obtain ⟨v, n, nx, p, sf, sv, e, f, ln, L, tn, T, hI⟩ := hD
  obtain ⟨hC, hP, hM, hQ, hJ⟩ := id hI
  have hW := hJ.1
  obtain ⟨-, hn, hnx, hpW, hsW, he, hf, hln, hL, htn, hT⟩ := hJ
  obtain ⟨t1, t2⟩ := hP.2.2.2.1
  obtain ⟨u1, u2⟩ := hQ.2.2.2.1
  have hhs : S_X7_hasSign (z a) D = some (0, some (.int (z (bz (0 ≤ a ∧ a < ln)))), D) := by
    unfold S_X7_hasSign
    simp (disch := omega) only [z_add, z_sub, z_mul, z_neg, ite_T, ite_F, zl_0, zl_1, zl_2, zl_3, zl_4, zl_5, zl_6, zl_7, zl_8, zl_9, zl_10, zl_11, zl_12, zl_13, zl_14, zl_15, zl_16, zl_17, zl_18, zl_19, zl_20, zl_21, zl_22, zl_23, zl_24, zl_25, zl_26, zl_27, zl_28, zl_29, zl_30, zl_31, zl_32, zl_33, zl_34, zl_35, zl_36, zl_37, zl_38, zl_39, zl_40, zl_41, zl_42, zl_43, zl_44, zl_45, zl_46, zl_47, zl_48, zl_49, zl_50, zl_51, zl_52, zl_53, zl_54, zl_55, zl_56, zl_57, zl_58, zl_59, zl_60, zl_61, zl_62, zl_63, zl_64, zl_97, zl_99, zl_100, zl_126, zl_255, zl_434, zl_496, zl_1000000, zl_100000, z_lt, z_le, z_eq, inB_z, z_div, t1]
    split
    · rw [bz_f (by omega)]
    · split
      · rw [bz_f (by omega)]
      · split
        · rw [bz_f (by omega)]
        · rw [bz_t (by omega)]
  by_cases hr : 0 ≤ a ∧ a < ln
  · obtain ⟨c, hc⟩ := Int.eq_ofNat_of_zero_le hr.1
    subst hc
    have hLc := hL c (by omega)
    have hX : S_X12_lineAt (z c) D = some (0, some (.int (z (L c))), D) := by
      unfold S_X12_lineAt S_X7_signAt
      rw [hhs, bz_t hr, cI_i, if_neg (by decide), hhs, bz_t hr, cI_i, if_neg (by decide), if_pos (by rw [inB_z (by omega) (by omega)]; omega), z_nn (by omega) (by omega), toNat_c, t2 c (by omega), nac_lt _ hLc, if_pos rfl, cI_i, nac_lt _ hLc, if_pos rfl]
    have hR : S_X13_lineAt (z c) (oL D (z (L c)).toInt64) = some (0, some (.int (z (L c))), setI (oL D (z (L c)).toInt64) 140 (z 0)) := by
      have w1 : (oL D (z (L c)).toInt64).1 148 = z ln := u1
      have w2 : (oL D (z (L c)).toInt64).2.2.1 80 c = z (L c) := u2 c (by omega)
      unfold S_X13_lineAt
      rw [w1, show (1 : Int32) = z 1 from rfl, z_sub, show (0 : Int32) = z 0 from rfl, m_isIn (by omega) (by omega) (by omega) (by omega) (by omega) (by omega), bz_t (by omega), cI_i, if_neg (by decide), if_pos rfl, if_pos (by rw [inB_z (by omega) (by omega)]; omega), z_nn (by omega) (by omega), toNat_c, w2, uch_lt _ hLc, nac_lt _ hLc, if_pos rfl]
    refine ce_ok (D1 := D) (a := z (L c)) (by unfold S_L_lineAt; rw [hX]; rfl) hC hP ⟨_, hR, fm140.fr.gm, setI_same _ _ _, hM, IQ.fr (D := oL D (z (L c)).toInt64) hQ fm140.fr⟩ hI.2.2.2.2
  · have hR : S_X13_lineAt (z a) D = some (0, some (.int (97 : Int32)), setI D 140 (z 1)) := by
      unfold S_X13_lineAt
      rw [u1, show (1 : Int32) = z 1 from rfl, z_sub, show (0 : Int32) = z 0 from rfl, m_isIn (by omega) (by omega) (by omega) (by omega) (by omega) (by omega), bz_f (by omega), cI_i, if_pos (by decide), if_neg (by decide)]
    refine ce_no (k := 1) ?_ (by omega) hC hP ⟨_, _, hR, fm140.fr.gm, setI_same _ _ _, hM, hQ.fr fm140.fr⟩ hI.2.2.2.2
    unfold S_L_lineAt S_X12_lineAt
    rw [hhs, bz_f hr]
    rfl
theorem Pl_put (D : DD) {i x : Nat} (g : Nat → Int32) (hi : i < 7) (hx : x < 128) : S_X7_put (z x) (Pl D i g) = some (0, none, Pl D (i + 1) (upd g i (z x))) := by
  have e1 : (Pl D i g).1 128 = z i := setI_same _ _ _
  have e2 : (Pl D i g).2.2.1 64 = g := setA_same _ _ _
  have e3 : setI (setA (Pl D i g) 64 (upd g i (z x))) 128 (z ((i : Int) + 1)) = Pl D (i + 1) (upd g i (z x)) := by
    unfold Pl setI setA
    dsimp only
    rw [up_two, up_two]
    rfl
  unfold S_X7_put
  simp (disch := omega) only [z_add, z_sub, z_mul, z_neg, ite_T, ite_F, zl_0, zl_1, zl_2, zl_3, zl_4, zl_5, zl_6, zl_7, zl_8, zl_9, zl_10, zl_11, zl_12, zl_13, zl_14, zl_15, zl_16, zl_17, zl_18, zl_19, zl_20, zl_21, zl_22, zl_23, zl_24, zl_25, zl_26, zl_27, zl_28, zl_29, zl_30, zl_31, zl_32, zl_33, zl_34, zl_35, zl_36, zl_37, zl_38, zl_39, zl_40, zl_41, zl_42, zl_43, zl_44, zl_45, zl_46, zl_47, zl_48, zl_49, zl_50, zl_51, zl_52, zl_53, zl_54, zl_55, zl_56, zl_57, zl_58, zl_59, zl_60, zl_61, zl_62, zl_63, zl_64, zl_97, zl_99, zl_100, zl_126, zl_255, zl_434, zl_496, zl_1000000, zl_100000, z_lt, z_le, z_eq, inB_z, z_div, Int.reduceToNat, Wp_some, Nx_l, Nx_r, cI_i, cV_v, cL_l, ite_t, ite_f, z_nn, toNat_c, bz_e0, e1, e2, s_inRange, nac_lt x hx]
  rw [e3]
theorem Pl_fg (D : DD) (i : Nat) (g : Nat → Int32) : FG (fun k => k == 128) n0 (fun k => k == 64) false D (Pl D i g) := (FG.rfl.sA rfl).sI rfl
theorem CS.pl (hC : CS D v) (i : Nat) (g : Nat → Int32) : CS (Pl D i g) v := QS.ag (o := 0) hC (fun k _ _ => (Pl_fg D i g).1 k (by simp; omega)) ((Pl_fg D i g).2.1 0 rfl) (fun k _ _ => (Pl_fg D i g).2.2.1 k (by simp; omega))
theorem Pl_0 (D : DD) : setI D 128 (0 : Int32) = Pl D 0 (D.2.2.1 64) := by
  unfold Pl
  rw [setA_self]
  rfl
theorem sgn_lt (hW : WF v) {c : Nat} (hc : c < 36) : sgn v c < 128 := by
  have := hW.1 c hc
  unfold sgn
  split
  · decide
  · split
    · decide
    · omega
theorem s_digit {x : Nat} (hx : x < 10) : S_X7_digit (z x) D = some (0, some (.int (z ((48 + x : Nat)))), D) := by
  unfold S_X7_digit
  rw [dgt_lt x hx, nac_lt _ (by omega), if_pos rfl]
theorem s_signOf (hC : CS D v) (hW : WF v) {c : Nat} (hc : c < 36) : S_X7_signOf (z c) D = some (0, some (.int (z (sgn v c))), D) := by
  have h9 := hW.1 c hc
  unfold S_X7_signOf sgn
  rw [s_chargedAt hC hW hc, cI_i]
  by_cases h : chdB v c = true
  · rw [bz_t h, if_neg (by decide), if_pos h]
    rfl
  · rw [bz_f h, if_pos (by decide), if_neg h, s_openAt hC hW hc, cI_i]
    by_cases h0 : v (4 + c) = 0
    · rw [bz_t h0, if_neg (by decide), if_pos h0]
      rfl
    · rw [bz_f h0, if_pos (by decide), if_neg h0, s_hardnessAt hC hc, cI_i, s_digit (by omega), cI_i, nac_lt _ (by omega), if_pos rfl]
theorem s_showRow (hC : CS D v) (hW : WF v) {r : Nat} (hr : r < 6) : ∃ g, S_X7_showRow (z r) D = some (0, some (.int (z 6)), Pl D 6 g) ∧ ∀ j, j < 6 → g j = z (sgn v (6 * r + j)) := by
  have key : ∃ q, run T_X7_showRow FUEL 0 [z r] D = some q ∧ ∃ g, q = (0, some (.int (z 6)), Pl D 6 g) ∧ ∀ j, j < 6 → g j = z (sgn v (6 * r + j)) := by
    refine RunP.fin (c := 10) ?_ (by decide)
    refine RunP.go ?_
    show Wp (b_X7_showRow_0 _ _) _
    unfold b_X7_showRow_0
    rw [Pl_0, Wp_some, Nx_l]
    refine RunP.loop (fun i ls D' => ls = [z r, z i] ∧ ∃ g, D' = Pl D i g ∧ ∀ j, j < i → g j = z (sgn v (6 * r + j))) 6 1 1 ?_ ?_ 0 _ _ (by omega) ⟨rfl, _, rfl, fun j h => by omega⟩ (by omega)
    · rintro i ls D' c hi ⟨rfl, g, rfl, hg⟩ hkk
      refine RunP.go ?_
      show Wp (b_X7_showRow_1 _ _ _) _
      unfold b_X7_showRow_1
      rw [show (6 : Int32) = z 6 from rfl, if_neg (by rw [z_le (by omega) (by omega) (by omega) (by omega)]; omega), s_cellAtN hr hi, cI_i, s_signOf (hC.pl i g) hW (by omega), cI_i, Pl_put D g (by omega) (sgn_lt hW (by omega)), cV_v, show (1 : Int32) = z 1 from rfl, z_add, Wp_some, Nx_l]
      refine hkk _ _ ⟨rfl, _, rfl, fun j hj => ?_⟩
      by_cases q : j = i
      · rw [q, upd_same]
      · rw [upd_ne _ _ q]
        exact hg j (by omega)
    · rintro ls D' ⟨rfl, g, rfl, hg⟩
      refine RunP.go ?_
      show Wp (b_X7_showRow_1 _ _ _) _
      unfold b_X7_showRow_1
      rw [show (6 : Int32) = z 6 from rfl, if_pos (by rw [z_le (by omega) (by omega) (by omega) (by omega)]; omega), Wp_some, Nx_r]
      exact ⟨g, rfl, hg⟩
  obtain ⟨q, h1, g, rfl, h2⟩ := key
  exact ⟨g, h1, h2⟩
theorem s_showCharge (hC : CS D v) (hW : WF v) {c : Nat} (hn : c < v 3) : ∃ g, S_X7_showCharge (z c) D = some (0, some (.int (z 7)), Pl D 7 g) ∧ ∀ j, j < 7 → g j = z (chv v c j) := by
  have h6 := hW.2.1
  obtain ⟨r1, r2, r3⟩ := hW.2.2.1 c hn
  refine ⟨upd (upd (upd (upd (upd (upd (upd (D.2.2.1 64) 0 (z ((48 + c : Nat)))) 1 (z ((64 : Nat) : Int))) 2 (z ((48 + v (40 + 2 * c) / 6 : Nat)))) 3 (z ((44 : Nat) : Int))) 4 (z ((48 + v (40 + 2 * c) % 6 : Nat)))) 5 (z ((58 : Nat) : Int))) 6 (z ((48 + v (41 + 2 * c) : Nat))), ?_, fun j hj => ?_⟩
  · have e1 : z (v (40 + 2 * c)) / (6 : Int32) = z ((v (40 + 2 * c) / 6 : Nat)) := by
      rw [show (6 : Int32) = z 6 from rfl, z_div (by omega) (by omega) (by omega) (by omega)]
      rfl
    have e2 : z (v (40 + 2 * c)) - z ((v (40 + 2 * c) / 6 : Nat)) * (6 : Int32) = z ((v (40 + 2 * c) % 6 : Nat)) := by
      rw [show (6 : Int32) = z 6 from rfl, z_mul, z_sub]
      congr 1
      omega
    unfold S_X7_showCharge
    rw [s_cellOf hC hW hn, cI_i, Pl_0, s_digit (by omega), cI_i, Pl_put D _ (by omega) (by omega), cV_v, show (64 : Int32) = z ((64 : Nat) : Int) from rfl, Pl_put D _ (by omega) (by omega), cV_v, e1, s_digit (by omega), cI_i, Pl_put D _ (by omega) (by omega), cV_v, show (44 : Int32) = z ((44 : Nat) : Int) from rfl, Pl_put D _ (by omega) (by omega), cV_v, e2, s_digit (by omega), cI_i, Pl_put D _ (by omega) (by omega), cV_v, show (58 : Int32) = z ((58 : Nat) : Int) from rfl, Pl_put D _ (by omega) (by omega), cV_v, s_strengthOf (hC.pl _ _) hW hn, cI_i, s_digit (by omega), cI_i, Pl_put D _ (by omega) (by omega), cV_v]
    rfl
  · have : j = 0 ∨ j = 1 ∨ j = 2 ∨ j = 3 ∨ j = 4 ∨ j = 5 ∨ j = 6 := by omega
    rcases this with rfl | rfl | rfl | rfl | rfl | rfl | rfl <;> rfl
theorem chv_lt (hW : WF v) {c : Nat} (hn : c < v 3) (j : Nat) : chv v c j < 128 := by
  have h6 := hW.2.1
  obtain ⟨r1, r2, r3⟩ := hW.2.2.1 c hn
  unfold chv
  repeat' split
  all_goals omega
theorem m_writeRow (hM : MR D v) (hW : WF v) {r : Nat} (hr : r < 6) : ∃ g, S_X13_writeRow (z r) D = some (0, some (.int (z 6)), setA (setI (setI D 140 (z 0)) 148 (z 6)) 80 g) ∧ ∀ j, j < 6 → g j = z (sgn v (6 * r + j)) := by
  have key : ∃ q, run T_X13_writeRow FUEL 0 [z r] D = some q ∧ ∃ g, q = (0, some (.int (z 6)), setA (setI (setI D 140 (z 0)) 148 (z 6)) 80 g) ∧ ∀ j, j < 6 → g j = z (sgn v (6 * r + j)) := by
    refine RunP.fin (c := 10) ?_ (by decide)
    refine RunP.go ?_
    show Wp (b_X13_writeRow_0 _ _) _
    unfold b_X13_writeRow_0
    rw [show (0 : Int32) = z 0 from rfl, show (5 : Int32) = z 5 from rfl, show (6 : Int32) = z 6 from rfl, m_isIn (by omega) (by omega) (by omega) (by omega) (by omega) (by omega), bz_t (by omega), cI_i, if_neg (by decide), if_pos rfl, Wp_some, Nx_l]
    refine RunP.loop (fun i ls D' => ls = [z r, z i] ∧ ∃ g, D' = setA (setI (setI D 140 (z 0)) 148 (z 6)) 80 g ∧ ∀ j, j < i → g j = z (sgn v (6 * r + j))) 6 1 1 ?_ ?_ 0 _ _ (by omega) ⟨rfl, D.2.2.1 80, (setA_self _ 80).symm, fun j h => by omega⟩ (by omega)
    · rintro i ls D' c hi ⟨rfl, g, rfl, hg⟩ hkk
      have hM' : MR (setA (setI (setI D 140 (z 0)) 148 (z 6)) 80 g) v := MR.setA (D := setI (setI D 140 (z 0)) 148 (z 6)) hM (by decide)
      have h9 := hW.1 (6 * r + i) (by omega)
      obtain ⟨q, q1, q2, q3, q4⟩ := m_chargeIn hM' hW (c := 6 * r + i) (by omega)
      have fin : ∀ x : Int32, x = z (sgn v (6 * r + i)) → RunP T_X13_writeRow c 1 [z r, z ((i : Int) + 1)] (setA (setI (setI D 140 (z 0)) 148 (z 6)) 80 (upd g i x)) (fun q => ∃ g, q = (0, some (.int (z 6)), setA (setI (setI D 140 (z 0)) 148 (z 6)) 80 g) ∧ ∀ j, j < 6 → g j = z (sgn v (6 * r + j))) := by
        intro x hx
        refine hkk _ _ ⟨rfl, _, rfl, fun j hj => ?_⟩
        by_cases q : j = i
        · rw [q, upd_same, hx]
        · rw [upd_ne _ _ q]
          exact hg j (by omega)
      refine RunP.go ?_
      show Wp (b_X13_writeRow_1 _ _ _) _
      unfold b_X13_writeRow_1
      rw [show (6 : Int32) = z 6 from rfl, if_neg (by rw [z_le (by omega) (by omega) (by omega) (by omega)]; omega), m_cellN hr hi, cI_i, q1, cI_i, show (0 : Int32) = z 0 from rfl, show (1 : Int32) = z 1 from rfl]
      by_cases h : chdB v (6 * r + i) = true
      · have q5 := q4.mpr h
        rw [if_neg (by rw [z_lt (by omega) (by omega) (by omega) (by omega)]; omega), if_pos (by rw [inB_z (by omega) (by omega)]; omega), z_nn (by omega) (by omega), toNat_c, setA_same, setA_two, z_add, Wp_some, Nx_l]
        exact fin _ (by unfold sgn; rw [if_pos h]; rfl)
      · have q5 : ¬ 0 ≤ q := fun q5 => h (q4.mp q5)
        rw [if_pos (by rw [z_lt (by omega) (by omega) (by omega) (by omega)]; omega), m_hard hM' (by omega), cI_i]
        by_cases h0 : v (4 + (6 * r + i)) = 0
        · rw [if_pos (by rw [h0]; rfl), if_pos (by rw [inB_z (by omega) (by omega)]; omega), z_nn (by omega) (by omega), toNat_c, setA_same, setA_two, z_add, Wp_some, Nx_l]
          exact fin _ (by unfold sgn; rw [if_neg h, if_pos h0]; rfl)
        · rw [if_neg (by rw [z_eq (by omega) (by omega) (by omega) (by omega)]; omega), m_hard hM' (by omega), cI_i, if_pos (by rw [inB_z (by omega) (by omega)]; omega), z_nn (by omega) (by omega), toNat_c, setA_same, setA_two, z_add, Wp_some, Nx_l]
          exact fin _ (by unfold sgn; rw [if_neg h, if_neg h0, show (48 : Int32) = z 48 from rfl, z_add]; rfl)
    · rintro ls D' ⟨rfl, g, rfl, hg⟩
      refine RunP.go ?_
      show Wp (b_X13_writeRow_1 _ _ _) _
      unfold b_X13_writeRow_1
      rw [show (6 : Int32) = z 6 from rfl, if_pos (by rw [z_le (by omega) (by omega) (by omega) (by omega)]; omega), Wp_some, Nx_r]
      exact ⟨g, rfl, hg⟩
  obtain ⟨q, h1, g, rfl, h2⟩ := key
  exact ⟨g, h1, h2⟩
theorem m_writeCharge (hM : MR D v) (hW : WF v) {c : Nat} (hn : c < v 3) : ∃ g, S_X13_writeCharge (z c) D = some (0, some (.int (z 7)), setA (setI (setI D 140 (z 0)) 148 (z 7)) 80 g) ∧ ∀ j, j < 7 → g j = z (chv v c j) := by
  have h6 := hW.2.1
  obtain ⟨r1, r2, r3⟩ := hW.2.2.1 c hn
  have hM' : ∀ g, MR (setA (setI (setI D 140 (z 0)) 148 (z 7)) 80 g) v := fun g => MR.setA (D := setI (setI D 140 (z 0)) 148 (z 7)) hM (by decide)
  have e1 : z (v (40 + 2 * c)) / (6 : Int32) = z ((v (40 + 2 * c) / 6 : Nat)) := by
    rw [show (6 : Int32) = z 6 from rfl, z_div (by omega) (by omega) (by omega) (by omega)]
    rfl
  have e2 : z (v (40 + 2 * c)) - z ((v (40 + 2 * c) / 6 : Nat)) * (6 : Int32) = z ((v (40 + 2 * c) % 6 : Nat)) := by
    rw [show (6 : Int32) = z 6 from rfl, z_mul, z_sub]
    congr 1
    omega
  refine ⟨upd (upd (upd (upd (upd (upd (upd (D.2.2.1 80) 0 ((48 : Int32) + z c)) 1 (64 : Int32)) 2 ((48 : Int32) + z ((v (40 + 2 * c) / 6 : Nat)))) 3 (44 : Int32)) 4 ((48 : Int32) + z ((v (40 + 2 * c) % 6 : Nat)))) 5 (58 : Int32)) 6 ((48 : Int32) + z (v (41 + 2 * c))), ?_, fun j hj => ?_⟩
  · unfold S_X13_writeCharge
    rw [m_looks hM hW (by omega) (by omega), bz_t (by omega), bz_f (by omega), cI_i, if_neg (by decide), show (7 : Int32) = z 7 from rfl, setA_two, m_placeOf (hM' _) (show c < 6 by omega), cI_i, e1, setA_two, setA_two, setA_same, m_placeOf (hM' _) (show c < 6 by omega), cI_i, e1, e2, setA_two, setA_two, setA_same, m_strength (hM' _) (show c < 6 by omega), cI_i, setA_two, setA_same]
    rfl
  · have : j = 0 ∨ j = 1 ∨ j = 2 ∨ j = 3 ∨ j = 4 ∨ j = 5 ∨ j = 6 := by omega
    have e48 : ∀ x : Nat, (48 : Int32) + z x = z ((48 + x : Nat)) := fun x => by
      rw [show (48 : Int32) = z 48 from rfl, z_add]
      rfl
    rw [e48, e48, e48, e48]
    rcases this with rfl | rfl | rfl | rfl | rfl | rfl | rfl <;> rfl
theorem c_writeRow {a : Int} (h1 : -2147483648 ≤ a) (h2 : a < 2147483648) (hD : Inv D) : Ce (S_L_writeRow (z a)) (S_X13_writeRow (z a)) D := by
  obtain ⟨v, n, nx, p, sf, sv, e, f, ln, L, tn, T, hI⟩ := hD
  obtain ⟨hC, hP, hM, hQ, hJ⟩ := id hI
  have hW := hJ.1
  obtain ⟨-, hn, hnx, hpW, hsW, he, hf', hln, hL, htn, hT⟩ := hJ
  have hF := s_inRange (D := D) (a := a) (b := 0) (c := 5) h1 h2 (by omega) (by omega) (by omega) (by omega)
  rw [show z 0 = (0 : Int32) from rfl, show z 5 = (5 : Int32) from rfl] at hF
  by_cases hf : 0 ≤ a ∧ a ≤ 5
  · obtain ⟨c, hc⟩ := Int.eq_ofNat_of_zero_le hf.1
    subst hc
    obtain ⟨g, q1, q2⟩ := s_showRow hC hW (r := c) (by omega)
    have hx : S_X12_writeRow (z c) D = some (0, some (.int (z 6)), Pl D 6 g) := by
      unfold S_X12_writeRow
      rw [hF, bz_t hf, cI_i, if_neg (by decide), q1, cI_i]
    have hM1 : MR (oL (Pl D 6 g) (z 6).toInt64) v := hM
    obtain ⟨g2, r1, r2⟩ := m_writeRow (r := c) hM1 hW (by omega)
    have hg1 := Pl_fg D 6 g
    have hg2 : FG (fun k => k == 140 || k == 148) n0 (fun k => k == 80) false (oL (Pl D 6 g) (z 6).toInt64) (setA (setI (setI (oL (Pl D 6 g) (z 6).toInt64) 140 (z 0)) 148 (z 6)) 80 g2) := ((FG.rfl.sI rfl).sI rfl).sA rfl
    have hQ1 : IQ (oL (Pl D 6 g) (z 6).toInt64) n p sf sv e f ln L tn T := hQ.ag (E := oL (Pl D 6 g) (z 6).toInt64) (fun k hk => hg1.1 k (by simp; omega)) (fun k hk => hg1.2.2.1 k (by simp; omega))
    refine ce_ok (D1 := Pl D 6 g) (a := z 6) (v' := v) (ln' := 6) (L' := fun i => sgn v (6 * c + i)) (by unfold S_L_writeRow; rw [hx]; rfl) (hC.pl _ _) (hP.agL (fun k hk => hg1.1 k (by simp; omega)) (fun k => hg1.2.1 k rfl) (fun k hk => hg1.2.2.1 k (by simp; omega)) ⟨setI_same _ _ _, fun i hi => ?_⟩) ⟨_, r1, ?_, rfl, ?_, hQ1.agL (fun k h1 h2 => hg2.1 k (by simp; omega)) (fun k h1 h2 => hg2.2.2.1 k (by simp; omega)) ⟨rfl, fun i hi => ?_⟩⟩ ⟨hW, hn, hnx, hpW, hsW, he, hf', by omega, fun i hi => sgn_lt hW (by omega), htn, hT⟩
    · show (setA D 64 g).2.2.1 64 i = _
      rw [setA_same]
      exact q2 i hi
    · exact FG.mono hg2 (fun k hk => by
        have : k < 140 := by simpa [gmI] using hk
        simp
        omega) (fun k hk => hk) (fun k hk => by
        have : k < 70 := by simpa [gmA] using hk
        simp
        omega) (fun h => h)
    · unfold MR
      rw [hg2.2.2.1 70 rfl]
      exact hM1
    · rw [setA_same]
      exact r2 i hi
  · refine q_no (k := 1) hI (by omega) ?_ (fun E hE => ⟨z 0, setI E 140 (z 1), ?_, fm140, setI_same _ _ _⟩)
    · unfold S_L_writeRow S_X12_writeRow
      rw [hF, bz_f hf]
      rfl
    · unfold S_X13_writeRow
      refine RunP.eqn (c := 1) ?_ (by decide)
      refine RunP.go ?_
      show Wp (b_X13_writeRow_0 _ _) _
      unfold b_X13_writeRow_0
      rw [show (0 : Int32) = z 0 from rfl, show (5 : Int32) = z 5 from rfl, m_isIn h1 h2 (by omega) (by omega) (by omega) (by omega), bz_f hf, cI_i, if_pos (by decide), if_neg (by decide), Wp_some, Nx_r]
      rfl
theorem c_writeCharge {a : Int} (h1 : -2147483648 ≤ a) (h2 : a < 2147483648) (hD : Inv D) : Ce (S_L_writeCharge (z a)) (S_X13_writeCharge (z a)) D := by
  obtain ⟨v, n, nx, p, sf, sv, e, f, ln, L, tn, T, hI⟩ := hD
  obtain ⟨hC, hP, hM, hQ, hJ⟩ := id hI
  have hW := hJ.1
  obtain ⟨-, hn, hnx, hpW, hsW, he, hf', hln, hL, htn, hT⟩ := hJ
  have hF := s_hasCharge hC hW h1 h2
  by_cases hf : 0 ≤ a ∧ a < v 3
  · obtain ⟨c, hc⟩ := Int.eq_ofNat_of_zero_le hf.1
    subst hc
    obtain ⟨g, q1, q2⟩ := s_showCharge hC hW (c := c) (by omega)
    have hx : S_X12_writeCharge (z c) D = some (0, some (.int (z 7)), Pl D 7 g) := by
      unfold S_X12_writeCharge
      rw [hF, bz_t hf, cI_i, if_neg (by decide), q1, cI_i]
    have hM1 : MR (oL (Pl D 7 g) (z 7).toInt64) v := hM
    obtain ⟨g2, r1, r2⟩ := m_writeCharge (c := c) hM1 hW (by omega)
    have hg1 := Pl_fg D 7 g
    have hg2 : FG (fun k => k == 140 || k == 148) n0 (fun k => k == 80) false (oL (Pl D 7 g) (z 7).toInt64) (setA (setI (setI (oL (Pl D 7 g) (z 7).toInt64) 140 (z 0)) 148 (z 7)) 80 g2) := ((FG.rfl.sI rfl).sI rfl).sA rfl
    have hQ1 : IQ (oL (Pl D 7 g) (z 7).toInt64) n p sf sv e f ln L tn T := hQ.ag (E := oL (Pl D 7 g) (z 7).toInt64) (fun k hk => hg1.1 k (by simp; omega)) (fun k hk => hg1.2.2.1 k (by simp; omega))
    refine ce_ok (D1 := Pl D 7 g) (a := z 7) (v' := v) (ln' := 7) (L' := chv v c) (by unfold S_L_writeCharge; rw [hx]; rfl) (hC.pl _ _) (hP.agL (fun k hk => hg1.1 k (by simp; omega)) (fun k => hg1.2.1 k rfl) (fun k hk => hg1.2.2.1 k (by simp; omega)) ⟨setI_same _ _ _, fun i hi => ?_⟩) ⟨_, r1, ?_, rfl, ?_, hQ1.agL (fun k h1 h2 => hg2.1 k (by simp; omega)) (fun k h1 h2 => hg2.2.2.1 k (by simp; omega)) ⟨rfl, fun i hi => ?_⟩⟩ ⟨hW, hn, hnx, hpW, hsW, he, hf', by omega, fun i hi => chv_lt hW (by omega) i, htn, hT⟩
    · show (setA D 64 g).2.2.1 64 i = _
      rw [setA_same]
      exact q2 i hi
    · exact FG.mono hg2 (fun k hk => by
        have : k < 140 := by simpa [gmI] using hk
        simp
        omega) (fun k hk => hk) (fun k hk => by
        have : k < 70 := by simpa [gmA] using hk
        simp
        omega) (fun h => h)
    · unfold MR
      rw [hg2.2.2.1 70 rfl]
      exact hM1
    · rw [setA_same]
      exact r2 i hi
  · refine q_no (k := 1) hI (by omega) ?_ (fun E hE => ⟨z 0, setI E 140 (z 1), ?_, fm140, setI_same _ _ _⟩)
    · unfold S_L_writeCharge S_X12_writeCharge
      rw [hF, bz_f hf, cI_i]
      rfl
    · unfold S_X13_writeCharge
      rw [m_looks hE hW h1 h2, bz_f hf, bz_t hf, cI_i]
      rfl
end LL
