/-! pure: what a modification does, both sides -/
/-- a dug cell -/
def dgv (v : Nat → Nat) (c : Nat) : Nat → Nat := ogv (upv v 0 (v 0 - v (4 + c))) c
def lyv (v : Nat → Nat) (c s : Nat) : Nat → Nat := upv (upv (upv v (40 + 2 * v 3) c) (41 + 2 * v 3) s) 3 (v 3 + 1)
def slv (v : Nat → Nat) (l w : Nat) : Nat → Nat := upv (upv v 2 (v 2 + l)) 0 (v 0 + w)
theorem zl_add (a b : Int) : zl a + zl b = zl (a + b) := (Int64.ofInt_add a b).symm
theorem zl_sub (a b : Int) : zl a - zl b = zl (a - b) := (Int64.ofInt_sub a b).symm
def RV (g : Nat → Int32) (v : Nat → Nat) : Prop := ∀ i, i < 62 → g i = z (v i)
theorem RV.upd {g : Nat → Int32} {v : Nat → Nat} {k x : Nat} (h : RV g v) : RV (upd g k (z x)) (upv v k x) := fun i hi => by
  by_cases e : i = k
  · rw [e, upd_same, upv_same]
  · rw [upd_ne _ _ e, upv_ne e]
    exact h i hi
theorem MR_RV (D : DD) (v : Nat → Nat) : MR D v = RV (D.2.2.1 70) v := rfl
theorem RV.mr {D : DD} {g : Nat → Int32} {v : Nat → Nat} (h : RV g v) : MR (setA D 70 g) v := by
  rw [MR_RV, setA_same]
  exact h
section LL
variable {D : DD} {v : Nat → Nat}
theorem CS.purse (hC : CS D v) (x : Nat) : CS (setJ D 0 (zl x)) (upv v 0 x) := by
  obtain ⟨h1, h2, h3, h4, h5, h6, h7, h8, h9⟩ := hC
  have u : ∀ k, k ≠ 0 → upv v 0 x k = v k := fun k hk => if_neg hk
  refine ⟨fun i hi => ?_, fun i hi => ?_, fun i hi => ?_, fun i a b => ?_, ?_, ?_, ?_, ?_, rfl⟩
  · rw [u _ (by omega)]
    exact h1 i hi
  · rw [u _ (by omega)] at hi ⊢
    exact h2 i hi
  · rw [u _ (by omega)] at hi ⊢
    exact h3 i hi
  · rw [u _ (by omega)]
    exact h4 i a b
  · rw [u _ (by omega)]
    exact h5
  · rw [u _ (by omega), u _ (by omega)]
    exact h6
  · rw [u _ (by omega)]
    exact h7
  · rw [u _ (by omega)]
    exact h8
theorem WF.purse (hW : WF v) {x : Nat} (hx : x ≤ v 0) : WF (upv v 0 x) := by
  obtain ⟨w1, w2, w3, w4, w5, w6, w7⟩ := hW
  have u : ∀ k, k ≠ 0 → upv v 0 x k = v k := fun k hk => if_neg hk
  have hN : openN (upv v 0 x) = openN v := cnt_congr 36 (fun j hj => by rw [u _ (by omega)])
  refine ⟨fun c hc => by rw [u _ (by omega)]; exact w1 c hc, by rw [u _ (by omega)]; exact w2, fun n hn => ?_, fun i a b => by rw [u _ (by omega)]; exact w4 i a b, by rw [u _ (by omega), u _ (by omega)]; exact w5, by rw [hN, u _ (by omega)]; exact w6, by rw [upv_same, u _ (by omega)]; omega⟩
  rw [u _ (by omega)] at hn
  rw [u _ (by omega), u _ (by omega)]
  exact w3 n hn
theorem WF.dig (hW : WF v) {c : Nat} (hc : c < 36) : WF (dgv v c) := (hW.purse (Nat.sub_le _ _)).opd hc
theorem s_digOut (hC : CS D v) (hW : WF v) {c : Nat} (hc : c < 36) (hp : v (4 + c) ≤ v 0) : ∃ D', S_X8_digOut (z c) D = some (0, some (.long (zl ((v 0 - v (4 + c) : Nat)))), D') ∧ FS D D' ∧ CS D' (dgv v c) := by
  have h9 := hW.1 c hc
  obtain ⟨D', h1, h2, h3⟩ := s_makeOpen (hC.purse (v 0 - v (4 + c))) (hW.purse (Nat.sub_le _ _)) hc
  refine ⟨D', ?_, (FG.trans (FG.rfl.sJ rfl) h2), h3⟩
  unfold S_X8_digOut
  rw [s_hardnessAt hC hc, cI_i, z_l (by omega) (by omega), hC.2.2.2.2.2.2.2.2, zl_sub, show ((v 0 : Int) - v (4 + c)) = ((v 0 - v (4 + c) : Nat)) by omega, h1, cV_v, h3.2.2.2.2.2.2.2.2]
  rw [ogv_ne (by omega) (by omega), upv_same]
theorem CS.lay (hC : CS D v) (hW : WF v) {c s : Nat} (h6 : v 3 < 6) : CS (setI (setA (setA D 1 (upd (D.2.2.1 1) (v 3) (z c))) 2 (upd (D.2.2.1 2) (v 3) (z s))) 0 (z ((v 3 : Int) + 1))) (lyv v c s) := by
  obtain ⟨h1, h2, h3, h4, h5, h6', h7, h8, h9⟩ := hC
  have u : ∀ k, k ≠ 3 → k ≠ 40 + 2 * v 3 → k ≠ 41 + 2 * v 3 → lyv v c s k = v k := fun k a b d => by
    unfold lyv
    rw [upv_ne a, upv_ne d, upv_ne b]
  have u3 : lyv v c s 3 = v 3 + 1 := upv_same
  refine ⟨fun i hi => ?_, fun i hi => ?_, fun i hi => ?_, fun i a b => ?_, ?_, ?_, ?_, ?_, ?_⟩
  · rw [u _ (by omega) (by omega) (by omega)]
    exact h1 i hi
  · rw [u3] at hi
    show upd (D.2.2.1 1) (v 3) (z c) i = _
    by_cases e : i = v 3
    · subst e
      rw [upd_same]
      unfold lyv
      rw [upv_ne (by omega), upv_ne (by omega), upv_same]
    · rw [upd_ne _ _ e, u _ (by omega) (by omega) (by omega)]
      exact h2 i (by omega)
  · rw [u3] at hi
    show upd (D.2.2.1 2) (v 3) (z s) i = _
    by_cases e : i = v 3
    · subst e
      rw [upd_same]
      unfold lyv
      rw [upv_ne (by omega), upv_same]
    · rw [upd_ne _ _ e, u _ (by omega) (by omega) (by omega)]
      exact h3 i (by omega)
  · rw [u _ (by omega) (by omega) (by omega)]
    exact h4 i a b
  · rw [u3]
    rfl
  · rw [u _ (by omega) (by omega) (by omega), u _ (by omega) (by omega) (by omega)]
    exact h6'
  · rw [u _ (by omega) (by omega) (by omega)]
    exact h7
  · rw [u _ (by omega) (by omega) (by omega)]
    exact h8
  · rw [u _ (by omega) (by omega) (by omega)]
    exact h9
theorem s_lay (hC : CS D v) (hW : WF v) {c s : Nat} (h6 : v 3 < 6) : ∃ D', S_X8_lay (z c) (z s) D = some (0, some (.int (z (v 3))), D') ∧ FS D D' ∧ CS D' (lyv v c s) := by
  refine ⟨_, ?_, ((FG.rfl.sA rfl).sA rfl).sI rfl, hC.lay hW h6⟩
  unfold S_X8_lay
  rw [hC.2.2.2.2.1]
  simp (disch := omega) only [z_add, z_sub, z_mul, z_neg, ite_T, ite_F, zl_0, zl_1, zl_2, zl_3, zl_4, zl_5, zl_6, zl_7, zl_8, zl_9, zl_10, zl_11, zl_12, zl_13, zl_14, zl_15, zl_16, zl_17, zl_18, zl_19, zl_20, zl_21, zl_22, zl_23, zl_24, zl_25, zl_26, zl_27, zl_28, zl_29, zl_30, zl_31, zl_32, zl_33, zl_34, zl_35, zl_36, zl_37, zl_38, zl_39, zl_40, zl_41, zl_42, zl_43, zl_44, zl_45, zl_46, zl_47, zl_48, zl_49, zl_50, zl_51, zl_52, zl_53, zl_54, zl_55, zl_56, zl_57, zl_58, zl_59, zl_60, zl_61, zl_62, zl_63, zl_64, zl_97, zl_99, zl_100, zl_126, zl_255, zl_434, zl_496, zl_1000000, zl_100000, z_lt, z_le, z_eq, inB_z, z_div, Int.reduceToNat, Wp_some, Nx_l, Nx_r, cI_i, cV_v, cL_l, ite_t, ite_f, z_nn, toNat_c, bz_e0, s_inRange]
  rw [hC.2.2.2.2.1, z_add]
theorem WF.lay (hW : WF v) {c s : Nat} (h6 : v 3 < 6) (hc : c < 36) (h1 : 1 ≤ s) (h9 : s ≤ 9) : WF (lyv v c s) := by
  obtain ⟨w1, w2, w3, w4, w5, w6, w7⟩ := hW
  have u : ∀ k, k ≠ 3 → k ≠ 40 + 2 * v 3 → k ≠ 41 + 2 * v 3 → lyv v c s k = v k := fun k a b d => by
    unfold lyv
    rw [upv_ne a, upv_ne d, upv_ne b]
  have u3 : lyv v c s 3 = v 3 + 1 := upv_same
  have hN : openN (lyv v c s) = openN v := cnt_congr 36 (fun j hj => by rw [u _ (by omega) (by omega) (by omega)])
  refine ⟨fun c hc => by rw [u _ (by omega) (by omega) (by omega)]; exact w1 c hc, by rw [u3]; omega, fun n hn => ?_, fun i a b => by rw [u _ (by omega) (by omega) (by omega)]; exact w4 i a b, by rw [u _ (by omega) (by omega) (by omega), u _ (by omega) (by omega) (by omega)]; exact w5, by rw [hN, u _ (by omega) (by omega) (by omega)]; exact w6, by rw [u _ (by omega) (by omega) (by omega), u _ (by omega) (by omega) (by omega)]; exact w7⟩
  rw [u3] at hn
  by_cases e : n = v 3
  · have e1 : lyv v c s (40 + 2 * n) = c := by
      unfold lyv
      rw [e, upv_ne (by omega), upv_ne (by omega), upv_same]
    have e2 : lyv v c s (41 + 2 * n) = s := by
      unfold lyv
      rw [e, upv_ne (by omega), upv_same]
    rw [e1, e2]
    exact ⟨hc, h1, h9⟩
  · rw [u _ (by omega) (by omega) (by omega), u _ (by omega) (by omega) (by omega)]
    exact w3 n (by omega)
theorem s_putPrice (hC : CS D v) (hW : WF v) {l p : Nat} (h1 : 1 ≤ l) (h2 : l ≤ 10) : ∃ D', S_X8_putPrice (z l) (z p) D = some (0, some (.int (z (v (51 + l)))), D') ∧ FS D D' ∧ CS D' (upv v (51 + l) p) := by
  refine ⟨setA D 3 (upd (D.2.2.1 3) l (z p)), ?_, FG.rfl.sA rfl, ?_⟩
  · unfold S_X8_putPrice
    simp (disch := omega) only [z_add, z_sub, z_mul, z_neg, ite_T, ite_F, zl_0, zl_1, zl_2, zl_3, zl_4, zl_5, zl_6, zl_7, zl_8, zl_9, zl_10, zl_11, zl_12, zl_13, zl_14, zl_15, zl_16, zl_17, zl_18, zl_19, zl_20, zl_21, zl_22, zl_23, zl_24, zl_25, zl_26, zl_27, zl_28, zl_29, zl_30, zl_31, zl_32, zl_33, zl_34, zl_35, zl_36, zl_37, zl_38, zl_39, zl_40, zl_41, zl_42, zl_43, zl_44, zl_45, zl_46, zl_47, zl_48, zl_49, zl_50, zl_51, zl_52, zl_53, zl_54, zl_55, zl_56, zl_57, zl_58, zl_59, zl_60, zl_61, zl_62, zl_63, zl_64, zl_97, zl_99, zl_100, zl_126, zl_255, zl_434, zl_496, zl_1000000, zl_100000, z_lt, z_le, z_eq, inB_z, z_div, Int.reduceToNat, Wp_some, Nx_l, Nx_r, cI_i, cV_v, cL_l, ite_t, ite_f, z_nn, toNat_c, bz_e0, s_priceAt hC h1 h2, s_inRange]
  · obtain ⟨q1, q2, q3, q4, q5, q6, q7, q8, q9⟩ := hC
    have w2 := hW.2.1
    have u : ∀ k, k ≠ 51 + l → upv v (51 + l) p k = v k := fun k hk => if_neg hk
    refine ⟨fun i hi => ?_, fun i hi => ?_, fun i hi => ?_, fun i a b => ?_, ?_, ?_, ?_, ?_, ?_⟩
    · rw [u _ (by omega)]
      exact q1 i hi
    · rw [u 3 (by omega)] at hi
      rw [u _ (by omega)]
      exact q2 i hi
    · rw [u 3 (by omega)] at hi
      rw [u _ (by omega)]
      exact q3 i hi
    · rw [setA_same]
      by_cases e : i = l
      · subst e
        rw [upd_same, upv_same]
      · rw [upd_ne _ _ e, u _ (by omega)]
        exact q4 i a b
    · rw [u _ (by omega)]
      exact q5
    · rw [u _ (by omega), u _ (by omega)]
      exact q6
    · rw [u _ (by omega)]
      exact q7
    · rw [u _ (by omega)]
      exact q8
    · rw [u _ (by omega)]
      exact q9
theorem WF.price (hW : WF v) {l p : Nat} (h1 : 1 ≤ l) (h2 : l ≤ 10) (hp : p ≤ 99) : WF (upv v (51 + l) p) := by
  obtain ⟨w1, w2, w3, w4, w5, w6, w7⟩ := hW
  have u : ∀ k, k ≠ 51 + l → upv v (51 + l) p k = v k := fun k hk => if_neg hk
  have hN : openN (upv v (51 + l) p) = openN v := cnt_congr 36 (fun j hj => by rw [u _ (by omega)])
  refine ⟨fun c hc => by rw [u _ (by omega)]; exact w1 c hc, by rw [u _ (by omega)]; exact w2, fun n hn => ?_, fun i a b => ?_, by rw [u _ (by omega), u _ (by omega)]; exact w5, by rw [hN, u _ (by omega)]; exact w6, by rw [u _ (by omega), u _ (by omega)]; exact w7⟩
  · rw [u _ (by omega)] at hn
    rw [u _ (by omega), u _ (by omega)]
    exact w3 n hn
  · by_cases e : i = l
    · rw [e, upv_same]
      exact hp
    · rw [u _ (by omega)]
      exact w4 i a b
theorem s_handOver (hC : CS D v) (hW : WF v) {l w : Nat} (hl : v 2 + l ≤ v 1) (hw : w ≤ 99 * l) : ∃ D', S_X8_handOver (z l) (z w) D = some (0, none, D') ∧ FS D D' ∧ CS D' (slv v l w) := by
  have hop := hW.opn
  obtain ⟨w1, w2, w3, w4, w5, w6, w7⟩ := id hW
  obtain ⟨h1, h2, h3, h4, h5, h6, h7, h8, h9⟩ := hC
  have u : ∀ k, k ≠ 2 → k ≠ 0 → slv v l w k = v k := fun k a b => by
    unfold slv
    rw [upv_ne b, upv_ne a]
  refine ⟨_, rfl, ((FG.rfl.sI rfl).sI rfl).sJ rfl, fun i hi => ?_, fun i hi => ?_, fun i hi => ?_, fun i a b => ?_, ?_, ?_, ?_, ?_, ?_⟩
  · rw [u _ (by omega) (by omega)]
    exact h1 i hi
  · rw [u _ (by omega) (by omega)] at hi ⊢
    exact h2 i hi
  · rw [u _ (by omega) (by omega)] at hi ⊢
    exact h3 i hi
  · rw [u _ (by omega) (by omega)]
    exact h4 i a b
  · rw [u _ (by omega) (by omega)]
    exact h5
  · rw [u 1 (by omega) (by omega)]
    show D.1 1 - z l = _
    rw [h6, z_sub]
    unfold slv
    rw [upv_ne (by omega), upv_same]
    congr 1
    omega
  · rw [u _ (by omega) (by omega)]
    exact h7
  · show D.1 3 + z l = _
    rw [h8, z_add]
    unfold slv
    rw [upv_ne (by omega), upv_same]
    rfl
  · show D.2.1 0 + (z w).toInt64 = _
    rw [h9, z_l (by omega) (by omega), zl_add]
    unfold slv
    rw [upv_same]
    rfl
theorem WF.sale (hW : WF v) {l w : Nat} (hl : v 2 + l ≤ v 1) (hw : w ≤ 99 * l) : WF (slv v l w) := by
  obtain ⟨w1, w2, w3, w4, w5, w6, w7⟩ := hW
  have u : ∀ k, k ≠ 2 → k ≠ 0 → slv v l w k = v k := fun k a b => by
    unfold slv
    rw [upv_ne b, upv_ne a]
  have u2 : slv v l w 2 = v 2 + l := by
    unfold slv
    rw [upv_ne (by omega), upv_same]
  have u0 : slv v l w 0 = v 0 + w := upv_same
  have hN : openN (slv v l w) = openN v := cnt_congr 36 (fun j hj => by rw [u _ (by omega) (by omega)])
  refine ⟨fun c hc => by rw [u _ (by omega) (by omega)]; exact w1 c hc, by rw [u _ (by omega) (by omega)]; exact w2, fun n hn => ?_, fun i a b => by rw [u _ (by omega) (by omega)]; exact w4 i a b, by rw [u2, u _ (by omega) (by omega)]; exact hl, by rw [hN, u _ (by omega) (by omega)]; exact w6, by rw [u0, u2]; omega⟩
  rw [u _ (by omega) (by omega)] at hn
  rw [u _ (by omega) (by omega), u _ (by omega) (by omega)]
  exact w3 n hn
theorem m_fail {k : Int} : S_X13_fail (z k) D = some (0, some (.int (z 0)), setI D 140 (z k)) := rfl
theorem m_hardens_no (hM : MR D v) (hW : WF v) {a b h : Int} (h1 : -2147483648 ≤ a) (h2 : a < 2147483648) (h3 : -2147483648 ≤ b) (h4 : b < 2147483648) (h5 : -2147483648 ≤ h) (h6 : h < 2147483648) (hf : fHard v a b h ≠ 0) : S_X13_hardens (z a) (z b) (z h) D = some (0, some (.int (z 0)), setI D 140 (z (fHard v a b h))) := by
  have hlo := cellZ_lo a b
  have hhi := cellZ_hi a b
  unfold fHard at hf ⊢
  unfold S_X13_hardens
  simp (disch := omega) only [z_add, z_sub, z_mul, z_neg, ite_T, ite_F, zl_0, zl_1, zl_2, zl_3, zl_4, zl_5, zl_6, zl_7, zl_8, zl_9, zl_10, zl_11, zl_12, zl_13, zl_14, zl_15, zl_16, zl_17, zl_18, zl_19, zl_20, zl_21, zl_22, zl_23, zl_24, zl_25, zl_26, zl_27, zl_28, zl_29, zl_30, zl_31, zl_32, zl_33, zl_34, zl_35, zl_36, zl_37, zl_38, zl_39, zl_40, zl_41, zl_42, zl_43, zl_44, zl_45, zl_46, zl_47, zl_48, zl_49, zl_50, zl_51, zl_52, zl_53, zl_54, zl_55, zl_56, zl_57, zl_58, zl_59, zl_60, zl_61, zl_62, zl_63, zl_64, zl_97, zl_99, zl_100, zl_126, zl_255, zl_434, zl_496, zl_1000000, zl_100000, z_lt, z_le, z_eq, inB_z, z_div, Int.reduceToNat, Wp_some, Nx_l, Nx_r, cI_i, cV_v, cL_l, ite_t, ite_f, z_nn, toNat_c, bz_e0, m_isCell, m_isIn, m_fail]
  by_cases hc : cellZ a b < 0
  · rw [if_pos (by omega), if_pos (Or.inl hc)]
    rfl
  · obtain ⟨c, hc2⟩ := Int.eq_ofNat_of_zero_le (show 0 ≤ cellZ a b by omega)
    rw [if_neg (by omega)]
    by_cases hh : 1 ≤ h ∧ h ≤ 9
    · rw [if_neg (c := ¬ (1 ≤ h ∧ h ≤ 9)) (by simpa using hh), m_cell (by omega), cI_i]
      rw [hc2] at hhi hc hf ⊢
      rw [if_neg (c := (c : Int) < 0 ∨ ¬ (1 ≤ h ∧ h ≤ 9)) (by omega)] at hf ⊢
      have h0 : v (4 + c) = 0 := by
        by_cases h0 : v (4 + c) = 0
        · exact h0
        · rw [toNat_c, if_neg h0] at hf
          omega
      rw [m_hard hM (by omega), h0, toNat_c, if_pos h0]
      rfl
    · rw [if_pos hh, if_pos (Or.inr hh)]
      rfl
theorem m_hardens_ok (hM : MR D v) (hW : WF v) {a b h : Int} (h1 : -2147483648 ≤ a) (h2 : a < 2147483648) (h3 : -2147483648 ≤ b) (h4 : b < 2147483648) (h5 : -2147483648 ≤ h) (h6 : h < 2147483648) (hf : fHard v a b h = 0) : ∃ c x : Nat, cellZ a b = c ∧ c < 36 ∧ h = x ∧ 1 ≤ x ∧ x ≤ 9 ∧ v (4 + c) ≠ 0 ∧ ∃ D', S_X13_hardens (z a) (z b) (z h) D = some (0, some (.int (z (v (4 + c)))), D') ∧ FR D D' ∧ MR D' (upv v (4 + c) x) ∧ D'.1 140 = D.1 140 := by
  have hlo := cellZ_lo a b
  have hhi := cellZ_hi a b
  unfold fHard at hf
  by_cases hc : cellZ a b < 0 ∨ ¬ (1 ≤ h ∧ h ≤ 9)
  · rw [if_pos hc] at hf
    omega
  rw [if_neg hc] at hf
  obtain ⟨c, hc2⟩ := Int.eq_ofNat_of_zero_le (show 0 ≤ cellZ a b by omega)
  obtain ⟨x, hx⟩ := Int.eq_ofNat_of_zero_le (show 0 ≤ h by omega)
  have h0 : v (4 + c) ≠ 0 := fun h0 => by
    rw [hc2, toNat_c, if_pos h0] at hf
    omega
  have h9 := hW.1 c (by omega)
  refine ⟨c, x, hc2, by omega, hx, by omega, by omega, h0, _, ?_, FG.rfl.sA rfl, (RV.upd hM).mr, rfl⟩
  subst hx
  unfold S_X13_hardens
  simp (disch := omega) only [z_add, z_sub, z_mul, z_neg, ite_T, ite_F, zl_0, zl_1, zl_2, zl_3, zl_4, zl_5, zl_6, zl_7, zl_8, zl_9, zl_10, zl_11, zl_12, zl_13, zl_14, zl_15, zl_16, zl_17, zl_18, zl_19, zl_20, zl_21, zl_22, zl_23, zl_24, zl_25, zl_26, zl_27, zl_28, zl_29, zl_30, zl_31, zl_32, zl_33, zl_34, zl_35, zl_36, zl_37, zl_38, zl_39, zl_40, zl_41, zl_42, zl_43, zl_44, zl_45, zl_46, zl_47, zl_48, zl_49, zl_50, zl_51, zl_52, zl_53, zl_54, zl_55, zl_56, zl_57, zl_58, zl_59, zl_60, zl_61, zl_62, zl_63, zl_64, zl_97, zl_99, zl_100, zl_126, zl_255, zl_434, zl_496, zl_1000000, zl_100000, z_lt, z_le, z_eq, inB_z, z_div, Int.reduceToNat, Wp_some, Nx_l, Nx_r, cI_i, cV_v, cL_l, ite_t, ite_f, z_nn, toNat_c, bz_e0, m_isCell, m_isIn]
  rw [m_cell (by omega), hc2]
  simp (disch := omega) only [z_add, z_sub, z_mul, z_neg, ite_T, ite_F, zl_0, zl_1, zl_2, zl_3, zl_4, zl_5, zl_6, zl_7, zl_8, zl_9, zl_10, zl_11, zl_12, zl_13, zl_14, zl_15, zl_16, zl_17, zl_18, zl_19, zl_20, zl_21, zl_22, zl_23, zl_24, zl_25, zl_26, zl_27, zl_28, zl_29, zl_30, zl_31, zl_32, zl_33, zl_34, zl_35, zl_36, zl_37, zl_38, zl_39, zl_40, zl_41, zl_42, zl_43, zl_44, zl_45, zl_46, zl_47, zl_48, zl_49, zl_50, zl_51, zl_52, zl_53, zl_54, zl_55, zl_56, zl_57, zl_58, zl_59, zl_60, zl_61, zl_62, zl_63, zl_64, zl_97, zl_99, zl_100, zl_126, zl_255, zl_434, zl_496, zl_1000000, zl_100000, z_lt, z_le, z_eq, inB_z, z_div, Int.reduceToNat, Wp_some, Nx_l, Nx_r, cI_i, cV_v, cL_l, ite_t, ite_f, z_nn, toNat_c, bz_e0, m_hard hM (show c < 36 by omega), m_cell]
  rw [show ((4 : Int) + cellZ a b).toNat = 4 + c by omega]
end LL
