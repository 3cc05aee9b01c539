/-! pure: the charges that stay -/
def ngB (E : Nat → Bool) : Nat → Bool := fun b => !E b
theorem cnt_ng (E : Nat → Bool) : ∀ n, cnt (ngB E) n + cnt E n = n
  | 0 => rfl
  | n + 1 => by
    have := cnt_ng E n
    rw [cnt, cnt]
    unfold ngB at *
    cases E n <;> simp <;> omega
theorem cnt_gap (p : Nat → Bool) {a : Nat} : ∀ b, a ≤ b → cnt p a ≤ cnt p b ∧ cnt p b + a ≤ cnt p a + b
  | 0, h => by
    have : a = 0 := by omega
    subst this
    exact ⟨Nat.le_refl _, Nat.le_refl _⟩
  | b + 1, h => by
    by_cases e : a = b + 1
    · subst e
      exact ⟨Nat.le_refl _, Nat.le_refl _⟩
    · have := cnt_gap p (a := a) b (by omega)
      rw [cnt]
      split <;> omega
theorem cnt_sur {p : Nat → Bool} : ∀ n j, j < cnt p n → ∃ b, b < n ∧ p b = true ∧ cnt p b = j
  | 0, j, h => absurd h (Nat.not_lt_zero _)
  | n + 1, j, h => by
    rw [cnt] at h
    by_cases h2 : j < cnt p n
    · obtain ⟨b, h3, h4⟩ := cnt_sur n j h2
      exact ⟨b, by omega, h4⟩
    · split at h
      · rename_i hp
        exact ⟨n, by omega, hp, by omega⟩
      · omega
theorem cnt_s (p : Nat → Bool) (n : Nat) : cnt p (n + 1) = cnt p n + (if p n then 1 else 0) := rfl
/-- w: the state v without the charges of E -/
def KS (v w : Nat → Nat) (E : Nat → Bool) : Prop := w 3 = cnt (ngB E) (v 3) ∧ (∀ b, b < v 3 → E b = false → w (40 + 2 * cnt (ngB E) b) = v (40 + 2 * b) ∧ w (41 + 2 * cnt (ngB E) b) = v (41 + 2 * b)) ∧ ∀ k, k ≠ 3 → (k < 40 ∨ 52 ≤ k) → w k = v k
theorem WF.keep {v w : Nat → Nat} {E : Nat → Bool} (hW : WF v) (h : KS v w E) : WF w := by
  obtain ⟨w1, w2, w3, w4, w5, w6, w7⟩ := hW
  obtain ⟨k1, k2, k3⟩ := h
  have hle := cnt_le (ngB E) (v 3)
  have hN : openN w = openN v := cnt_congr 36 (fun j hj => by rw [k3 _ (by omega) (by omega)])
  refine ⟨fun c hc => by rw [k3 _ (by omega) (by omega)]; exact w1 c hc, by omega, fun n hn => ?_, fun i a b => by rw [k3 _ (by omega) (by omega)]; exact w4 i a b, by rw [k3 _ (by omega) (by omega), k3 _ (by omega) (by omega)]; exact w5, by rw [hN, k3 _ (by omega) (by omega)]; exact w6, by rw [k3 _ (by omega) (by omega), k3 _ (by omega) (by omega)]; exact w7⟩
  rw [k1] at hn
  obtain ⟨b, b1, b2, b3⟩ := cnt_sur _ _ hn
  have hE : E b = false := by
    unfold ngB at b2
    simpa using b2
  obtain ⟨q1, q2⟩ := k2 b b1 hE
  rw [b3] at q1 q2
  rw [q1, q2]
  exact w3 b b1
def f12 (k : Nat) : Bool := k == 1 || k == 2
/-- charges below i are laid anew -/
def LK (D D' : DD) (v : Nat → Nat) (E : Nat → Bool) (i : Nat) : Prop := FG n0 n0 f12 false D D' ∧ (∀ b, b < i → E b = false → D'.2.2.1 1 (cnt (ngB E) b) = z (v (40 + 2 * b)) ∧ D'.2.2.1 2 (cnt (ngB E) b) = z (v (41 + 2 * b))) ∧ ∀ b, i ≤ b → b < v 3 → D'.2.2.1 1 b = z (v (40 + 2 * b)) ∧ D'.2.2.1 2 b = z (v (41 + 2 * b))
section LL
variable {D D' : DD} {v w : Nat → Nat} {E O : Nat → Bool} {ord : Nat → Nat}
theorem s_hasCharge0 {a : Int} {m : Nat} (h0 : D.1 0 = z m) (h6 : m ≤ 6) (h1 : -2147483648 ≤ a) (h2 : a < 2147483648) : S_X8_hasCharge (z a) D = some (0, some (.int (z (bz (0 ≤ a ∧ a < m)))), D) := by
  unfold S_X8_hasCharge
  simp (disch := omega) only [z_add, z_sub, z_mul, z_neg, ite_T, ite_F, zl_0, zl_1, zl_2, zl_3, zl_4, zl_5, zl_6, zl_7, zl_8, zl_9, zl_10, zl_11, zl_12, zl_13, zl_14, zl_15, zl_16, zl_17, zl_18, zl_19, zl_20, zl_21, zl_22, zl_23, zl_24, zl_25, zl_26, zl_27, zl_28, zl_29, zl_30, zl_31, zl_32, zl_33, zl_34, zl_35, zl_36, zl_37, zl_38, zl_39, zl_40, zl_41, zl_42, zl_43, zl_44, zl_45, zl_46, zl_47, zl_48, zl_49, zl_50, zl_51, zl_52, zl_53, zl_54, zl_55, zl_56, zl_57, zl_58, zl_59, zl_60, zl_61, zl_62, zl_63, zl_64, zl_97, zl_99, zl_100, zl_126, zl_255, zl_434, zl_496, zl_1000000, zl_100000, z_lt, z_le, z_eq, inB_z, z_div, h0]
  split
  · rw [bz_f (by omega)]
  · split
    · rw [bz_f (by omega)]
    · split
      · rw [bz_f (by omega)]
      · rw [bz_t (by omega)]
theorem LK.start (hC : CS D v) : LK D D v E 0 := ⟨FG.rfl, fun b h => by omega, fun b _ h => ⟨hC.2.1 b h, hC.2.2.1 b h⟩⟩
theorem LK.skip {i : Nat} (h : LK D D' v E i) (hE : E i = true) : LK D D' v E (i + 1) := ⟨h.1, fun b hb he => h.2.1 b (by
  by_cases e : b = i
  · subst e
    rw [hE] at he
    cases he
  · omega) he, fun b h1 h2 => h.2.2 b (by omega) h2⟩
theorem s_renumber (hC : CS D v) (hW : WF v) {i : Nat} (hi : i < v 3) (h : LK D D' v E i) (hE : E i = false) : ∃ D2, S_X8_renumber (z i) (z (cnt (ngB E) i)) D' = some (0, none, D2) ∧ LK D D2 v E (i + 1) := by
  have h6 := hW.2.1
  have hle := cnt_le (ngB E) i
  have h0 : D'.1 0 = z (v 3) := by rw [h.1.1 0 rfl]; exact hC.2.2.2.2.1
  obtain ⟨r1, r2⟩ := h.2.2 i (Nat.le_refl _) hi
  refine ⟨setA (setA D' 1 (upd (D'.2.2.1 1) (cnt (ngB E) i) (z (v (40 + 2 * i))))) 2 (upd (D'.2.2.1 2) (cnt (ngB E) i) (z (v (41 + 2 * i)))), ?_, (h.1.sA rfl).sA rfl, fun b hb he => ?_, fun b h1 h2 => ?_⟩
  · unfold S_X8_renumber
    simp (disch := omega) only [z_add, z_sub, z_mul, z_neg, ite_T, ite_F, zl_0, zl_1, zl_2, zl_3, zl_4, zl_5, zl_6, zl_7, zl_8, zl_9, zl_10, zl_11, zl_12, zl_13, zl_14, zl_15, zl_16, zl_17, zl_18, zl_19, zl_20, zl_21, zl_22, zl_23, zl_24, zl_25, zl_26, zl_27, zl_28, zl_29, zl_30, zl_31, zl_32, zl_33, zl_34, zl_35, zl_36, zl_37, zl_38, zl_39, zl_40, zl_41, zl_42, zl_43, zl_44, zl_45, zl_46, zl_47, zl_48, zl_49, zl_50, zl_51, zl_52, zl_53, zl_54, zl_55, zl_56, zl_57, zl_58, zl_59, zl_60, zl_61, zl_62, zl_63, zl_64, zl_97, zl_99, zl_100, zl_126, zl_255, zl_434, zl_496, zl_1000000, zl_100000, z_lt, z_le, z_eq, inB_z, z_div, Int.reduceToNat, Wp_some, Nx_l, Nx_r, cI_i, cV_v, cL_l, ite_t, ite_f, z_nn, toNat_c, bz_e0, s_hasCharge0 h0 h6, r1, r2]
  · show upd (D'.2.2.1 1) (cnt (ngB E) i) (z (v (40 + 2 * i))) (cnt (ngB E) b) = _ ∧ upd (D'.2.2.1 2) (cnt (ngB E) i) (z (v (41 + 2 * i))) (cnt (ngB E) b) = _
    by_cases e : b = i
    · subst e
      rw [upd_same, upd_same]
      exact ⟨rfl, rfl⟩
    · have hlt : cnt (ngB E) (b + 1) ≤ cnt (ngB E) i := (cnt_gap _ _ (by omega)).1
      rw [cnt_s, if_pos (by unfold ngB; rw [he]; rfl)] at hlt
      rw [upd_ne _ _ (by omega), upd_ne _ _ (by omega)]
      exact h.2.1 b (by omega) he
  · show upd (D'.2.2.1 1) (cnt (ngB E) i) (z (v (40 + 2 * i))) b = _ ∧ upd (D'.2.2.1 2) (cnt (ngB E) i) (z (v (41 + 2 * i))) b = _
    rw [upd_ne _ _ (by omega), upd_ne _ _ (by omega)]
    exact h.2.2 b (by omega) h2
theorem LK.fin (hC : CS D v) (hW : WF v) (h : LK D D' v E (v 3)) (hk : KS v w E) : CS (setI D' 0 (z (cnt (ngB E) (v 3)))) w ∧ FS D (setI D' 0 (z (cnt (ngB E) (v 3)))) := by
  obtain ⟨h1, h2, h3, h4, h5, h6, h7, h8, h9⟩ := hC
  obtain ⟨k1, k2, k3⟩ := hk
  have w2 := hW.2.1
  have hch : ∀ i, i < w 3 → D'.2.2.1 1 i = z (w (40 + 2 * i)) ∧ D'.2.2.1 2 i = z (w (41 + 2 * i)) := by
    intro i hi
    rw [k1] at hi
    obtain ⟨b, b1, b2, b3⟩ := cnt_sur _ _ hi
    have hE : E b = false := by
      unfold ngB at b2
      simpa using b2
    obtain ⟨q1, q2⟩ := k2 b b1 hE
    obtain ⟨r1, r2⟩ := h.2.1 b b1 hE
    rw [b3] at q1 q2 r1 r2
    rw [q1, q2]
    exact ⟨r1, r2⟩
  refine ⟨⟨fun i hi => ?_, fun i hi => (hch i hi).1, fun i hi => (hch i hi).2, fun i a b => ?_, ?_, ?_, ?_, ?_, ?_⟩, (FG.mono h.1 (fun k hk => rfl) (fun k hk => rfl) (fun k hk => by
    have : ¬ k ≤ 3 := by simpa [fsI] using hk
    simp [f12]
    omega) (fun h => h)).sI rfl⟩
  · rw [k3 _ (by omega) (by omega)]
    show D'.2.2.1 0 i = _
    rw [h.1.2.2.1 0 rfl]
    exact h1 i hi
  · rw [k3 _ (by omega) (by omega)]
    show D'.2.2.1 3 i = _
    rw [h.1.2.2.1 3 rfl]
    exact h4 i a b
  · rw [k1]
    rfl
  · rw [k3 _ (by omega) (by omega), k3 _ (by omega) (by omega)]
    show D'.1 1 = _
    rw [h.1.1 1 rfl]
    exact h6
  · rw [k3 _ (by omega) (by omega)]
    show D'.1 2 = _
    rw [h.1.1 2 rfl]
    exact h7
  · rw [k3 _ (by omega) (by omega)]
    show D'.1 3 = _
    rw [h.1.1 3 rfl]
    exact h8
  · rw [k3 _ (by omega) (by omega)]
    show D'.2.1 0 = _
    rw [h.1.2.1 0 rfl]
    exact h9
theorem s_takeAway (hC : CS D v) (hW : WF v) {n : Nat} (hn : n < v 3) (hk : KS v w (fun b => decide (b = n))) : ∃ D', S_X8_takeAway (z n) D = some (0, some (.int (z (w 3))), D') ∧ FS D D' ∧ CS D' w := by
  have h6 := hW.2.1
  have key : ∃ r, run T_X8_takeAway FUEL 0 [z n] D = some r ∧ ∃ D', r = (0, some (.int (z (w 3))), D') ∧ FS D D' ∧ CS D' w := by
    refine RunP.fin (c := 100) ?_ (by decide)
    refine RunP.go ?_
    show Wp (b_X8_takeAway_0 _ _) _
    unfold b_X8_takeAway_0
    simp only [Int.reduceToNat, Wp_some, Nx_l, Nx_r, cI_i, cV_v, cL_l, ite_t, ite_f, z_nn, toNat_c, bz_e0, z_add, z_sub, z_mul, z_neg, ite_T, ite_F, zl_0, zl_1, zl_2, zl_3, zl_4, zl_5, zl_6, zl_7, zl_8, zl_9, zl_10, zl_11, zl_12, zl_13, zl_14, zl_15, zl_16, zl_17, zl_18, zl_19, zl_20, zl_21, zl_22, zl_23, zl_24, zl_25, zl_26, zl_27, zl_28, zl_29, zl_30, zl_31, zl_32, zl_33, zl_34, zl_35, zl_36, zl_37, zl_38, zl_39, zl_40, zl_41, zl_42, zl_43, zl_44, zl_45, zl_46, zl_47, zl_48, zl_49, zl_50, zl_51, zl_52, zl_53, zl_54, zl_55, zl_56, zl_57, zl_58, zl_59, zl_60, zl_61, zl_62, zl_63, zl_64, zl_97, zl_99, zl_100, zl_126, zl_255, zl_434, zl_496, zl_1000000, zl_100000]
    refine RunP.loop (fun i ls D' => ls = [z n, z (cnt (ngB (fun b => decide (b = n))) i), z i] ∧ LK D D' v (fun b => decide (b = n)) i) (v 3) 1 1 ?_ ?_ 0 _ _ (by omega) ⟨rfl, LK.start hC⟩ (by omega)
    · rintro i ls D' c hi ⟨rfl, hL⟩ hkk
      have h0 : D'.1 0 = z (v 3) := by rw [hL.1.1 0 rfl]; exact hC.2.2.2.2.1
      refine RunP.go ?_
      show Wp (b_X8_takeAway_1 _ _ _ _) _
      unfold b_X8_takeAway_1
      simp (disch := omega) only [z_add, z_sub, z_mul, z_neg, ite_T, ite_F, zl_0, zl_1, zl_2, zl_3, zl_4, zl_5, zl_6, zl_7, zl_8, zl_9, zl_10, zl_11, zl_12, zl_13, zl_14, zl_15, zl_16, zl_17, zl_18, zl_19, zl_20, zl_21, zl_22, zl_23, zl_24, zl_25, zl_26, zl_27, zl_28, zl_29, zl_30, zl_31, zl_32, zl_33, zl_34, zl_35, zl_36, zl_37, zl_38, zl_39, zl_40, zl_41, zl_42, zl_43, zl_44, zl_45, zl_46, zl_47, zl_48, zl_49, zl_50, zl_51, zl_52, zl_53, zl_54, zl_55, zl_56, zl_57, zl_58, zl_59, zl_60, zl_61, zl_62, zl_63, zl_64, zl_97, zl_99, zl_100, zl_126, zl_255, zl_434, zl_496, zl_1000000, zl_100000, z_lt, z_le, z_eq, inB_z, z_div, Int.reduceToNat, Wp_some, Nx_l, Nx_r, cI_i, cV_v, cL_l, ite_t, ite_f, z_nn, toNat_c, bz_e0, h0]
      by_cases e : i = n
      · rw [if_pos (by omega), Wp_some, Nx_l]
        refine hkk _ _ ⟨?_, hL.skip (by simpa using e)⟩
        rw [cnt_s, if_neg (by unfold ngB; simpa using e)]
        rfl
      · obtain ⟨D2, q1, q2⟩ := s_renumber hC hW hi hL (by simpa using e)
        rw [if_neg (by omega), q1, cV_v, Wp_some, Nx_l]
        refine hkk _ _ ⟨?_, q2⟩
        rw [cnt_s, if_pos (by unfold ngB; simpa using e)]
        rfl
    · rintro ls D' ⟨rfl, hL⟩
      have h0 : D'.1 0 = z (v 3) := by rw [hL.1.1 0 rfl]; exact hC.2.2.2.2.1
      refine RunP.go ?_
      show Wp (b_X8_takeAway_1 _ _ _ _) _
      unfold b_X8_takeAway_1
      simp (disch := omega) only [z_add, z_sub, z_mul, z_neg, ite_T, ite_F, zl_0, zl_1, zl_2, zl_3, zl_4, zl_5, zl_6, zl_7, zl_8, zl_9, zl_10, zl_11, zl_12, zl_13, zl_14, zl_15, zl_16, zl_17, zl_18, zl_19, zl_20, zl_21, zl_22, zl_23, zl_24, zl_25, zl_26, zl_27, zl_28, zl_29, zl_30, zl_31, zl_32, zl_33, zl_34, zl_35, zl_36, zl_37, zl_38, zl_39, zl_40, zl_41, zl_42, zl_43, zl_44, zl_45, zl_46, zl_47, zl_48, zl_49, zl_50, zl_51, zl_52, zl_53, zl_54, zl_55, zl_56, zl_57, zl_58, zl_59, zl_60, zl_61, zl_62, zl_63, zl_64, zl_97, zl_99, zl_100, zl_126, zl_255, zl_434, zl_496, zl_1000000, zl_100000, z_lt, z_le, z_eq, inB_z, z_div, Int.reduceToNat, Wp_some, Nx_l, Nx_r, cI_i, cV_v, cL_l, ite_t, ite_f, z_nn, toNat_c, bz_e0, h0]
      obtain ⟨q1, q2⟩ := hL.fin hC hW hk
      exact ⟨_, by rw [hk.1], q2, q1⟩
  obtain ⟨r, h1, D', rfl, h2⟩ := key
  exact ⟨D', h1, h2⟩
/-- the reference takes a charge away -/
def gsv (n : Nat) (v : Nat → Nat) : Nat → Nat := fun k => if 40 + 2 * n ≤ k ∧ k < 52 then (if k + 2 < 52 then v (k + 2) else 0) else if k = 3 then v 3 - 1 else v k
theorem gsv_3 {n : Nat} : gsv n v 3 = v 3 - 1 := by
  unfold gsv
  rw [if_neg (by omega), if_pos rfl]
theorem gsv_out {n k : Nat} (h3 : k ≠ 3) (h : k < 40 + 2 * n ∨ 52 ≤ k) : gsv n v k = v k := by
  unfold gsv
  rw [if_neg (by omega), if_neg h3]
theorem gsv_in {n k : Nat} (h1 : 40 + 2 * n ≤ k) (h : k + 2 < 52) : gsv n v k = v (k + 2) := by
  unfold gsv
  rw [if_pos (by omega), if_pos h]
theorem m_goes (hM : MR D v) {n : Nat} (hn : n < 6) (h3 : 1 ≤ v 3) (h6 : v 3 ≤ 6) : ∃ D', S_X13_goes (z n) D = some (0, none, D') ∧ FG n0 n0 (fun k => k == 70) false D D' ∧ MR D' (gsv n v) := by
  have key : ∃ r, run T_X13_goes FUEL 0 [z n] D = some r ∧ ∃ D', r = (0, none, D') ∧ FG n0 n0 (fun k => k == 70) false D D' ∧ MR D' (gsv n v) := by
    refine RunP.fin (c := 100) ?_ (by decide)
    refine RunP.go ?_
    show Wp (b_X13_goes_0 _ _) _
    unfold b_X13_goes_0
    simp only [Int.reduceToNat, Wp_some, Nx_l, Nx_r, cI_i, cV_v, cL_l, ite_t, ite_f, z_nn, toNat_c, bz_e0, z_add, z_sub, z_mul, z_neg, ite_T, ite_F, zl_0, zl_1, zl_2, zl_3, zl_4, zl_5, zl_6, zl_7, zl_8, zl_9, zl_10, zl_11, zl_12, zl_13, zl_14, zl_15, zl_16, zl_17, zl_18, zl_19, zl_20, zl_21, zl_22, zl_23, zl_24, zl_25, zl_26, zl_27, zl_28, zl_29, zl_30, zl_31, zl_32, zl_33, zl_34, zl_35, zl_36, zl_37, zl_38, zl_39, zl_40, zl_41, zl_42, zl_43, zl_44, zl_45, zl_46, zl_47, zl_48, zl_49, zl_50, zl_51, zl_52, zl_53, zl_54, zl_55, zl_56, zl_57, zl_58, zl_59, zl_60, zl_61, zl_62, zl_63, zl_64, zl_97, zl_99, zl_100, zl_126, zl_255, zl_434, zl_496, zl_1000000, zl_100000]
    rw [show ((40 : Int) + 2 * n) = ((40 + 2 * n : Nat) : Int) by omega]
    refine RunP.loop (fun i ls D' => ls = [z i] ∧ 40 + 2 * n ≤ i ∧ ∃ g, D' = setA D 70 g ∧ ∀ k, k < 62 → g k = z ((if 40 + 2 * n ≤ k ∧ k < i then (if k + 2 < 52 then v (k + 2) else 0) else v k : Nat))) 52 1 1 ?_ ?_ (40 + 2 * n) _ _ (by omega) ⟨rfl, Nat.le_refl _, D.2.2.1 70, (setA_self D 70).symm, fun k hk => by rw [if_neg (by omega)]; exact hM k hk⟩ (by omega)
    · rintro i ls D' c hi ⟨rfl, hlo, g, rfl, hg⟩ hkk
      refine RunP.go ?_
      show Wp (b_X13_goes_1 _ _) _
      unfold b_X13_goes_1
      simp (disch := omega) only [z_add, z_sub, z_mul, z_neg, ite_T, ite_F, zl_0, zl_1, zl_2, zl_3, zl_4, zl_5, zl_6, zl_7, zl_8, zl_9, zl_10, zl_11, zl_12, zl_13, zl_14, zl_15, zl_16, zl_17, zl_18, zl_19, zl_20, zl_21, zl_22, zl_23, zl_24, zl_25, zl_26, zl_27, zl_28, zl_29, zl_30, zl_31, zl_32, zl_33, zl_34, zl_35, zl_36, zl_37, zl_38, zl_39, zl_40, zl_41, zl_42, zl_43, zl_44, zl_45, zl_46, zl_47, zl_48, zl_49, zl_50, zl_51, zl_52, zl_53, zl_54, zl_55, zl_56, zl_57, zl_58, zl_59, zl_60, zl_61, zl_62, zl_63, zl_64, zl_97, zl_99, zl_100, zl_126, zl_255, zl_434, zl_496, zl_1000000, zl_100000, z_lt, z_le, z_eq, inB_z, z_div, Int.reduceToNat, Wp_some, Nx_l, Nx_r, cI_i, cV_v, cL_l, ite_t, ite_f, z_nn, toNat_c, bz_e0, setA_same, setA_two]
      by_cases h52 : 52 ≤ i + 2
      · rw [if_pos (by omega), Wp_some, Nx_l]
        refine hkk _ _ ⟨rfl, by omega, _, rfl, fun k hk => ?_⟩
        by_cases e : k = i
        · rw [e, upd_same, if_pos (by omega), if_neg (by omega)]
          rfl
        · rw [upd_ne _ _ e, hg k hk]
          by_cases h : 40 + 2 * n ≤ k ∧ k < i
          · rw [if_pos h, if_pos (c := 40 + 2 * n ≤ k ∧ k < i + 1) (by omega)]
          · rw [if_neg h, if_neg (c := 40 + 2 * n ≤ k ∧ k < i + 1) (by omega)]
      · rw [if_neg (by omega), Wp_some, Nx_l]
        refine hkk _ _ ⟨rfl, by omega, _, rfl, fun k hk => ?_⟩
        by_cases e : k = i
        · rw [e, upd_same, if_pos (by omega), if_pos (by omega), show ((i : Int) + 2).toNat = i + 2 by omega, hg _ (by omega), if_neg (by omega)]
        · rw [upd_ne _ _ e, hg k hk]
          by_cases h : 40 + 2 * n ≤ k ∧ k < i
          · rw [if_pos h, if_pos (c := 40 + 2 * n ≤ k ∧ k < i + 1) (by omega)]
          · rw [if_neg h, if_neg (c := 40 + 2 * n ≤ k ∧ k < i + 1) (by omega)]
    · rintro ls D' ⟨rfl, hlo, g, rfl, hg⟩
      have g3 := hg 3 (by omega)
      rw [if_neg (by omega)] at g3
      refine RunP.go ?_
      show Wp (b_X13_goes_1 _ _) _
      unfold b_X13_goes_1
      simp (disch := omega) only [z_add, z_sub, z_mul, z_neg, ite_T, ite_F, zl_0, zl_1, zl_2, zl_3, zl_4, zl_5, zl_6, zl_7, zl_8, zl_9, zl_10, zl_11, zl_12, zl_13, zl_14, zl_15, zl_16, zl_17, zl_18, zl_19, zl_20, zl_21, zl_22, zl_23, zl_24, zl_25, zl_26, zl_27, zl_28, zl_29, zl_30, zl_31, zl_32, zl_33, zl_34, zl_35, zl_36, zl_37, zl_38, zl_39, zl_40, zl_41, zl_42, zl_43, zl_44, zl_45, zl_46, zl_47, zl_48, zl_49, zl_50, zl_51, zl_52, zl_53, zl_54, zl_55, zl_56, zl_57, zl_58, zl_59, zl_60, zl_61, zl_62, zl_63, zl_64, zl_97, zl_99, zl_100, zl_126, zl_255, zl_434, zl_496, zl_1000000, zl_100000, z_lt, z_le, z_eq, inB_z, z_div, Int.reduceToNat, Wp_some, Nx_l, Nx_r, cI_i, cV_v, cL_l, ite_t, ite_f, z_nn, toNat_c, bz_e0, setA_same, setA_two, g3]
      refine ⟨_, rfl, FG.rfl.sA rfl, ?_⟩
      refine RV.mr (fun k hk => ?_)
      by_cases e : k = 3
      · subst e
        rw [upd_same, gsv_3]
        congr 1
        omega
      · rw [upd_ne _ _ e, hg k hk]
        unfold gsv
        rw [if_neg (c := k = 3) e]
  obtain ⟨r, h1, D', rfl, h2⟩ := key
  exact ⟨D', h1, h2⟩
theorem cnt_one {n : Nat} : ∀ b, cnt (ngB (fun b => decide (b = n))) b = if b ≤ n then b else b - 1
  | 0 => by simp [cnt]
  | b + 1 => by
    rw [cnt_s, cnt_one b]
    unfold ngB
    by_cases e : b = n
    · subst e
      simp
    · simp [e]
      split <;> split <;> omega
theorem KS.goes (h6 : v 3 ≤ 6) {n : Nat} (hn : n < v 3) : KS v (gsv n v) (fun b => decide (b = n)) := by
  refine ⟨by rw [gsv_3, cnt_one, if_neg (by omega)], fun b hb he => ?_, fun k h1 h2 => gsv_out h1 (by omega)⟩
  have he : b ≠ n := by simpa using he
  rw [cnt_one]
  by_cases h : b ≤ n
  · rw [if_pos h, gsv_out (by omega) (by omega), gsv_out (by omega) (by omega)]
    exact ⟨rfl, rfl⟩
  · rw [if_neg h, gsv_in (by omega) (by omega), gsv_in (by omega) (by omega), show 40 + 2 * (b - 1) + 2 = 40 + 2 * b by omega, show 41 + 2 * (b - 1) + 2 = 41 + 2 * b by omega]
    exact ⟨rfl, rfl⟩
theorem m_removes_no (hM : MR D v) (hW : WF v) {a : Int} (h1 : -2147483648 ≤ a) (h2 : a < 2147483648) (hf : ¬ (0 ≤ a ∧ a < v 3)) : S_X13_removes (z a) D = some (0, some (.int (z 0)), setI D 140 (z 1)) := by
  unfold S_X13_removes
  rw [m_isCharge hM hW h1 h2, bz_f hf]
  simp only [z_add, z_sub, z_mul, z_neg, ite_T, ite_F, zl_0, zl_1, zl_2, zl_3, zl_4, zl_5, zl_6, zl_7, zl_8, zl_9, zl_10, zl_11, zl_12, zl_13, zl_14, zl_15, zl_16, zl_17, zl_18, zl_19, zl_20, zl_21, zl_22, zl_23, zl_24, zl_25, zl_26, zl_27, zl_28, zl_29, zl_30, zl_31, zl_32, zl_33, zl_34, zl_35, zl_36, zl_37, zl_38, zl_39, zl_40, zl_41, zl_42, zl_43, zl_44, zl_45, zl_46, zl_47, zl_48, zl_49, zl_50, zl_51, zl_52, zl_53, zl_54, zl_55, zl_56, zl_57, zl_58, zl_59, zl_60, zl_61, zl_62, zl_63, zl_64, zl_97, zl_99, zl_100, zl_126, zl_255, zl_434, zl_496, zl_1000000, zl_100000, z_lt, z_le, z_eq, inB_z, z_div, Int.reduceToNat, Wp_some, Nx_l, Nx_r, cI_i, cV_v, cL_l, ite_t, ite_f, z_nn, toNat_c, bz_e0, m_fail]
theorem m_removes_ok (hM : MR D v) (hW : WF v) {n : Nat} (hn : n < v 3) : ∃ D', S_X13_removes (z n) D = some (0, some (.int (z (gsv n v 3))), D') ∧ FR D D' ∧ MR D' (gsv n v) ∧ D'.1 140 = D.1 140 := by
  have h6 := hW.2.1
  obtain ⟨D2, q1, q2, q3⟩ := m_goes hM (n := n) (by omega) (by omega) h6
  refine ⟨D2, ?_, FG.mono q2 (fun k hk => rfl) (fun k hk => rfl) (fun k hk => by
    unfold frA at hk
    rw [Bool.or_eq_false_iff] at hk
    exact hk.1) (fun h => h), q3, q2.1 140 rfl⟩
  have g3 := q3 3 (by omega)
  unfold S_X13_removes
  rw [m_isCharge hM hW (by omega) (by omega), bz_t (by omega)]
  simp (disch := omega) only [z_add, z_sub, z_mul, z_neg, ite_T, ite_F, zl_0, zl_1, zl_2, zl_3, zl_4, zl_5, zl_6, zl_7, zl_8, zl_9, zl_10, zl_11, zl_12, zl_13, zl_14, zl_15, zl_16, zl_17, zl_18, zl_19, zl_20, zl_21, zl_22, zl_23, zl_24, zl_25, zl_26, zl_27, zl_28, zl_29, zl_30, zl_31, zl_32, zl_33, zl_34, zl_35, zl_36, zl_37, zl_38, zl_39, zl_40, zl_41, zl_42, zl_43, zl_44, zl_45, zl_46, zl_47, zl_48, zl_49, zl_50, zl_51, zl_52, zl_53, zl_54, zl_55, zl_56, zl_57, zl_58, zl_59, zl_60, zl_61, zl_62, zl_63, zl_64, zl_97, zl_99, zl_100, zl_126, zl_255, zl_434, zl_496, zl_1000000, zl_100000, z_lt, z_le, z_eq, inB_z, z_div, Int.reduceToNat, Wp_some, Nx_l, Nx_r, cI_i, cV_v, cL_l, ite_t, ite_f, z_nn, toNat_c, bz_e0, q1, g3]
end LL
