/-! pure: slabs cell by cell, both sides -/
theorem b_sh1 : ∀ s, s < 64 → z (s : Nat) >>> (z 1 &&& z 31) = z ((s / 2 : Nat)) := by decide +kernel
theorem b_and1 : ∀ s, s < 64 → z (s : Nat) &&& z 1 = z ((s % 2 : Nat)) := by decide +kernel
theorem b_and2 : ∀ s, s < 64 → ((z (s : Nat) &&& z 2 = z 0) ↔ s / 2 % 2 = 0) := by decide +kernel
theorem b_or1 : ∀ s, s < 64 → z (s : Nat) ||| z 1 = z ((s ||| 1 : Nat)) := by decide +kernel
theorem b_or32 : ∀ s, s < 64 → z (s : Nat) ||| z 32 = z ((s ||| 32 : Nat)) := by decide +kernel
theorem b_lt : ∀ s, s < 64 → s ||| 1 < 64 ∧ s ||| 32 < 64 := by decide +kernel
def Bd (g : Nat → Int) : Prop := ∀ j, -1000000 ≤ g j ∧ g j ≤ 1000000
theorem Bd.mx {g : Nat → Int} (h : Bd g) (r : Nat) {x : Int} (h1 : -1000000 ≤ x) (h2 : x ≤ 1000000) : Bd (mx g r x) := fun j => by
  have := h j
  rcases mx_or g r x j with e | ⟨-, e⟩ <;> rw [e] <;> omega
theorem dpK_range {v : Nat → Nat} {c : Nat} {f : Nat → Int} {B M : Int} (hB : B ≤ M + 1) (hf : ∀ s, f s ≤ M) : ∀ k j, B ≤ dpK v c f B k j ∧ dpK v c f B k j ≤ M + 1
  | 0, j => ⟨Int.le_refl _, hB⟩
  | k + 1, j => by
    have ih := dpK_range (v := v) (c := c) hB hf k
    rw [dpK]
    split
    · exact ih j
    · generalize dpK v c f B k = g at ih ⊢
      have rng : ∀ (g : Nat → Int) (r : Nat) (x : Int), (∀ j, B ≤ g j ∧ g j ≤ M + 1) → x ≤ M + 1 → ∀ j, B ≤ mx g r x j ∧ mx g r x j ≤ M + 1 := by
        intro g r x hg hx j
        have h1 := mx_ge g r x j
        have h2 := hg j
        rcases mx_or g r x j with e | ⟨-, e⟩ <;> omega
      have hk := hf k
      have r1 := rng g (k / 2) (f k) ih (by omega)
      have r2 := rng _ (k / 2 ||| 1) (f k + 1) r1 (by omega)
      unfold dp1
      split
      · exact r1 j
      · split
        · split
          · exact rng _ _ _ r2 (by omega) j
          · exact rng _ _ _ r1 (by omega) j
        · split
          · exact r2 j
          · exact r1 j
theorem dpT_range {v : Nat → Nat} {B : Int} (hB : B < 0) : ∀ c s, B ≤ dpT v B c s ∧ dpT v B c s ≤ c
  | 0, s => by
    show B ≤ (if s = 0 then 0 else B) ∧ (if s = 0 then 0 else B) ≤ ((0 : Nat) : Int)
    split <;> omega
  | c + 1, s => by
    rw [dpT]
    have := dpK_range (v := v) (c := c) (f := dpT v B c) (B := B) (M := c) (by omega) (fun s => (dpT_range hB c s).2) 64 s
    omega
section LL
variable {D : DD} {v : Nat → Nat}
theorem s_reach {g : Nat → Int} (hg : Bd g) (hr : ∀ j, j < 64 → D.2.2.1 60 j = z (g j)) {r : Nat} (h : r < 64) {x : Int} (h1 : -1000000 ≤ x) (h2 : x ≤ 1000000) : ∃ q, S_X9_reach (z r) (z x) D = some (0, none, setA D 60 q) ∧ ∀ j, j < 64 → q j = z (mx g r x j) := by
  have hb := hg r
  by_cases hx : x ≤ g r
  · refine ⟨D.2.2.1 60, ?_, fun j hj => ?_⟩
    · unfold S_X9_reach
      simp (disch := omega) only [z_add, z_sub, z_mul, z_neg, ite_T, ite_F, zl_0, zl_1, zl_2, zl_3, zl_4, zl_5, zl_6, zl_7, zl_8, zl_9, zl_10, zl_11, zl_12, zl_13, zl_14, zl_15, zl_16, zl_17, zl_18, zl_19, zl_20, zl_21, zl_22, zl_23, zl_24, zl_25, zl_26, zl_27, zl_28, zl_29, zl_30, zl_31, zl_32, zl_33, zl_34, zl_35, zl_36, zl_37, zl_38, zl_39, zl_40, zl_41, zl_42, zl_43, zl_44, zl_45, zl_46, zl_47, zl_48, zl_49, zl_50, zl_51, zl_52, zl_53, zl_54, zl_55, zl_56, zl_57, zl_58, zl_59, zl_60, zl_61, zl_62, zl_63, zl_64, zl_97, zl_99, zl_100, zl_126, zl_255, zl_434, zl_496, zl_1000000, zl_100000, z_lt, z_le, z_eq, inB_z, z_div, Int.reduceToNat, Wp_some, Nx_l, Nx_r, cI_i, cV_v, cL_l, ite_t, ite_f, z_nn, toNat_c, bz_e0, hr r h, setA_self]
    · rw [hr j hj]
      unfold mx
      rw [if_neg (fun q => by rw [q.1] at q; omega)]
  · refine ⟨upd (D.2.2.1 60) r (z x), ?_, fun j hj => ?_⟩
    · unfold S_X9_reach
      simp (disch := omega) only [z_add, z_sub, z_mul, z_neg, ite_T, ite_F, zl_0, zl_1, zl_2, zl_3, zl_4, zl_5, zl_6, zl_7, zl_8, zl_9, zl_10, zl_11, zl_12, zl_13, zl_14, zl_15, zl_16, zl_17, zl_18, zl_19, zl_20, zl_21, zl_22, zl_23, zl_24, zl_25, zl_26, zl_27, zl_28, zl_29, zl_30, zl_31, zl_32, zl_33, zl_34, zl_35, zl_36, zl_37, zl_38, zl_39, zl_40, zl_41, zl_42, zl_43, zl_44, zl_45, zl_46, zl_47, zl_48, zl_49, zl_50, zl_51, zl_52, zl_53, zl_54, zl_55, zl_56, zl_57, zl_58, zl_59, zl_60, zl_61, zl_62, zl_63, zl_64, zl_97, zl_99, zl_100, zl_126, zl_255, zl_434, zl_496, zl_1000000, zl_100000, z_lt, z_le, z_eq, inB_z, z_div, Int.reduceToNat, Wp_some, Nx_l, Nx_r, cI_i, cV_v, cL_l, ite_t, ite_f, z_nn, toNat_c, bz_e0, hr r h]
    · unfold mx
      by_cases e : j = r
      · rw [e, upd_same, if_pos ⟨rfl, by omega⟩]
      · rw [upd_ne _ _ e, if_neg (fun q => e q.1)]
        exact hr j hj
theorem s_passCell (hC : CS D v) (hW : WF v) {f g : Nat → Int} (hf : Bd f) (hg : Bd g) (h59 : ∀ j, j < 64 → D.2.2.1 59 j = z (f j)) (h60 : ∀ j, j < 64 → D.2.2.1 60 j = z (g j)) {c s : Nat} (hc : c < 36) (hs : s < 64) (hfs : f s + 1 ≤ 1000000) : ∃ q, S_X9_passCell (z c) (z s) D = some (0, none, setA D 60 q) ∧ ∀ j, j < 64 → q j = z (dp1 v c f s g j) := by
  have hfs0 := hf s
  have w1 := hW.1 c hc
  have l1 := b_lt (s / 2) (by omega)
  have key : ∃ r, run T_X9_passCell FUEL 0 [z c, z s] D = some r ∧ ∃ q, r = (0, none, setA D 60 q) ∧ ∀ j, j < 64 → q j = z (dp1 v c f s g j) := by
    refine RunP.fin (c := 10) ?_ (by decide)
    refine RunP.go ?_
    show Wp (b_X9_passCell_0 _ _ _) _
    unfold b_X9_passCell_0
    obtain ⟨q1, u1, u2⟩ := s_reach hg h60 (r := s / 2) (by omega) hfs0.1 hfs0.2
    have hg1 := hg.mx (s / 2) hfs0.1 hfs0.2
    have hC1 : CS (setA D 60 q1) v := hC.fc (FC.rfl.sA rfl)
    simp (disch := omega) only [z_add, z_sub, z_mul, z_neg, ite_T, ite_F, zl_0, zl_1, zl_2, zl_3, zl_4, zl_5, zl_6, zl_7, zl_8, zl_9, zl_10, zl_11, zl_12, zl_13, zl_14, zl_15, zl_16, zl_17, zl_18, zl_19, zl_20, zl_21, zl_22, zl_23, zl_24, zl_25, zl_26, zl_27, zl_28, zl_29, zl_30, zl_31, zl_32, zl_33, zl_34, zl_35, zl_36, zl_37, zl_38, zl_39, zl_40, zl_41, zl_42, zl_43, zl_44, zl_45, zl_46, zl_47, zl_48, zl_49, zl_50, zl_51, zl_52, zl_53, zl_54, zl_55, zl_56, zl_57, zl_58, zl_59, zl_60, zl_61, zl_62, zl_63, zl_64, zl_97, zl_99, zl_100, zl_126, zl_255, zl_434, zl_496, zl_1000000, zl_100000, z_lt, z_le, z_eq, inB_z, z_div, Int.reduceToNat, Wp_some, Nx_l, Nx_r, cI_i, cV_v, cL_l, ite_t, ite_f, z_nn, toNat_c, bz_e0, h59 s hs, b_sh1 s hs, b_and1 s hs, u1, s_openAt hC1 hW hc]
    by_cases hs2 : s % 2 = 1
    · rw [if_neg (by omega), Wp_some, Nx_r]
      exact ⟨q1, rfl, fun j hj => by unfold dp1; rw [if_pos (Or.inl hs2)]; exact u2 j hj⟩
    · rw [if_pos (by omega)]
      by_cases ho : v (4 + c) = 0
      · rw [if_neg (by simpa using ho)]
        have last : ∀ (q2 : Nat → Int32) (g2 : Nat → Int), Bd g2 → (∀ j, j < 64 → q2 j = z (g2 j)) → RunP T_X9_passCell 9 2 [z c, z (f s), z ((s / 2 : Nat))] (setA D 60 q2) (fun r => ∃ q, r = (0, none, setA D 60 q) ∧ ∀ j, j < 64 → q j = z ((if c + 6 < 36 ∧ v (4 + (c + 6)) = 0 then mx g2 (s / 2 ||| 32) (f s + 1) else g2) j)) := by
          intro q2 g2 hg2 hq2
          have hC2 : CS (setA D 60 q2) v := hC.fc (FC.rfl.sA rfl)
          refine RunP.go ?_
          show Wp (b_X9_passCell_2 _ _ _ _) _
          unfold b_X9_passCell_2
          by_cases h6 : c + 6 < 36
          · have w6 := hW.1 (c + 6) h6
            have so := s_openAt hC2 hW h6
            rw [show ((c + 6 : Nat) : Int) = (c : Int) + 6 by omega] at so
            simp (disch := omega) only [z_add, z_sub, z_mul, z_neg, ite_T, ite_F, zl_0, zl_1, zl_2, zl_3, zl_4, zl_5, zl_6, zl_7, zl_8, zl_9, zl_10, zl_11, zl_12, zl_13, zl_14, zl_15, zl_16, zl_17, zl_18, zl_19, zl_20, zl_21, zl_22, zl_23, zl_24, zl_25, zl_26, zl_27, zl_28, zl_29, zl_30, zl_31, zl_32, zl_33, zl_34, zl_35, zl_36, zl_37, zl_38, zl_39, zl_40, zl_41, zl_42, zl_43, zl_44, zl_45, zl_46, zl_47, zl_48, zl_49, zl_50, zl_51, zl_52, zl_53, zl_54, zl_55, zl_56, zl_57, zl_58, zl_59, zl_60, zl_61, zl_62, zl_63, zl_64, zl_97, zl_99, zl_100, zl_126, zl_255, zl_434, zl_496, zl_1000000, zl_100000, z_lt, z_le, z_eq, inB_z, z_div, Int.reduceToNat, Wp_some, Nx_l, Nx_r, cI_i, cV_v, cL_l, ite_t, ite_f, z_nn, toNat_c, bz_e0, so]
            by_cases ho6 : v (4 + (c + 6)) = 0
            · rw [if_neg (by simpa using ho6)]
              obtain ⟨q3, t1, t2⟩ := s_reach (D := setA D 60 q2) hg2 (fun j hj => by rw [setA_same]; exact hq2 j hj) (r := s / 2 ||| 32) l1.2 (x := f s + 1) (by omega) (by omega)
              rw [b_or32 (s / 2) (by omega), t1, cV_v, Wp_some, Nx_r, setA_two]
              exact ⟨q3, rfl, fun j hj => by rw [if_pos ⟨h6, ho6⟩]; exact t2 j hj⟩
            · rw [if_pos (by simpa using ho6), Wp_some, Nx_r]
              exact ⟨q2, rfl, fun j hj => by rw [if_neg (fun q => ho6 q.2)]; exact hq2 j hj⟩
          · simp (disch := omega) only [z_add, z_sub, z_mul, z_neg, ite_T, ite_F, zl_0, zl_1, zl_2, zl_3, zl_4, zl_5, zl_6, zl_7, zl_8, zl_9, zl_10, zl_11, zl_12, zl_13, zl_14, zl_15, zl_16, zl_17, zl_18, zl_19, zl_20, zl_21, zl_22, zl_23, zl_24, zl_25, zl_26, zl_27, zl_28, zl_29, zl_30, zl_31, zl_32, zl_33, zl_34, zl_35, zl_36, zl_37, zl_38, zl_39, zl_40, zl_41, zl_42, zl_43, zl_44, zl_45, zl_46, zl_47, zl_48, zl_49, zl_50, zl_51, zl_52, zl_53, zl_54, zl_55, zl_56, zl_57, zl_58, zl_59, zl_60, zl_61, zl_62, zl_63, zl_64, zl_97, zl_99, zl_100, zl_126, zl_255, zl_434, zl_496, zl_1000000, zl_100000, z_lt, z_le, z_eq, inB_z, z_div, Int.reduceToNat, Wp_some, Nx_l, Nx_r, cI_i, cV_v, cL_l, ite_t, ite_f, z_nn, toNat_c, bz_e0, s_openAt_f]
            exact ⟨q2, rfl, hq2⟩
        have done : ∀ (g2 : Nat → Int), g2 = (if c % 6 < 5 ∧ v (4 + (c + 1)) = 0 ∧ s / 2 % 2 = 0 then mx (mx g (s / 2) (f s)) (s / 2 ||| 1) (f s + 1) else mx g (s / 2) (f s)) → dp1 v c f s g = (if c + 6 < 36 ∧ v (4 + (c + 6)) = 0 then mx g2 (s / 2 ||| 32) (f s + 1) else g2) := by
          intro g2 e
          unfold dp1
          rw [if_neg (by omega), ← e]
        split
        · rename_i h5
          rw [Wp_some, Nx_l, done (mx g (s / 2) (f s)) (by rw [if_neg (by omega)])]
          exact last q1 _ hg1 u2
        · rename_i h5
          have w5 := hW.1 (c + 1) (by omega)
          have so := s_openAt hC1 hW (show c + 1 < 36 by omega)
          rw [show ((c + 1 : Nat) : Int) = (c : Int) + 1 by omega] at so
          simp (disch := omega) only [z_add, z_sub, z_mul, z_neg, ite_T, ite_F, zl_0, zl_1, zl_2, zl_3, zl_4, zl_5, zl_6, zl_7, zl_8, zl_9, zl_10, zl_11, zl_12, zl_13, zl_14, zl_15, zl_16, zl_17, zl_18, zl_19, zl_20, zl_21, zl_22, zl_23, zl_24, zl_25, zl_26, zl_27, zl_28, zl_29, zl_30, zl_31, zl_32, zl_33, zl_34, zl_35, zl_36, zl_37, zl_38, zl_39, zl_40, zl_41, zl_42, zl_43, zl_44, zl_45, zl_46, zl_47, zl_48, zl_49, zl_50, zl_51, zl_52, zl_53, zl_54, zl_55, zl_56, zl_57, zl_58, zl_59, zl_60, zl_61, zl_62, zl_63, zl_64, zl_97, zl_99, zl_100, zl_126, zl_255, zl_434, zl_496, zl_1000000, zl_100000, z_lt, z_le, z_eq, inB_z, z_div, Int.reduceToNat, Wp_some, Nx_l, Nx_r, cI_i, cV_v, cL_l, ite_t, ite_f, z_nn, toNat_c, bz_e0, so]
          by_cases ho1 : v (4 + (c + 1)) = 0
          · rw [if_neg (by simpa using ho1), b_and1 (s / 2) (by omega)]
            have hz : (z ((s / 2 % 2 : Nat)) = z 0) ↔ s / 2 % 2 = 0 := by
              rw [z_eq (by omega) (by omega) (by omega) (by omega)]
              omega
            by_cases hb : s / 2 % 2 = 0
            · rw [if_pos (hz.mpr hb)]
              obtain ⟨q3, t1, t2⟩ := s_reach (D := setA D 60 q1) hg1 (fun j hj => by rw [setA_same]; exact u2 j hj) (r := s / 2 ||| 1) l1.1 (x := f s + 1) (by omega) (by omega)
              rw [b_or1 (s / 2) (by omega), t1, cV_v, Wp_some, Nx_l, setA_two, done (mx (mx g (s / 2) (f s)) (s / 2 ||| 1) (f s + 1)) (by rw [if_pos ⟨by omega, ho1, hb⟩])]
              exact last q3 _ (hg1.mx _ (by omega) (by omega)) t2
            · rw [if_neg (fun q => hb (hz.mp q)), Wp_some, Nx_l, done (mx g (s / 2) (f s)) (by rw [if_neg (fun q => hb q.2.2)])]
              exact last q1 _ hg1 u2
          · rw [if_pos (by simpa using ho1), Wp_some, Nx_l, done (mx g (s / 2) (f s)) (by rw [if_neg (fun q => ho1 q.2.1)])]
            exact last q1 _ hg1 u2
      · rw [if_pos (by simpa using ho), Wp_some, Nx_r]
        exact ⟨q1, rfl, fun j hj => by unfold dp1; rw [if_pos (Or.inr ho)]; exact u2 j hj⟩
  obtain ⟨r, h1, q, rfl, h2⟩ := key
  exact ⟨q, h1, h2⟩
theorem cpy_eq (f g : Nat → Int32) (n j : Nat) (h : j < n) : va_cpy f g 0 0 n j = f j := by
  unfold va_cpy
  simp [h]
theorem s_countByCells (hC : CS D v) (hW : WF v) {K : Nat} (hK : IsK v K) : ∃ D', S_X9_countByCells D = some (0, some (.int (z K)), D') ∧ FC D D' := by
  have key : ∃ r, run T_X9_countByCells FUEL 0 [] D = some r ∧ ∃ D', r = (0, some (.int (z K)), D') ∧ FC D D' := by
    obtain ⟨g0, q1, q2⟩ := J7_fill_53178_slabs_most_ok D (z (-1))
    refine RunP.fin (c := 100 * 40) ?_ (by decide)
    refine RunP.go ?_
    show Wp (b_X9_countByCells_0 _) _
    unfold b_X9_countByCells_0
    simp only [z_add, z_sub, z_mul, z_neg, ite_T, ite_F, zl_0, zl_1, zl_2, zl_3, zl_4, zl_5, zl_6, zl_7, zl_8, zl_9, zl_10, zl_11, zl_12, zl_13, zl_14, zl_15, zl_16, zl_17, zl_18, zl_19, zl_20, zl_21, zl_22, zl_23, zl_24, zl_25, zl_26, zl_27, zl_28, zl_29, zl_30, zl_31, zl_32, zl_33, zl_34, zl_35, zl_36, zl_37, zl_38, zl_39, zl_40, zl_41, zl_42, zl_43, zl_44, zl_45, zl_46, zl_47, zl_48, zl_49, zl_50, zl_51, zl_52, zl_53, zl_54, zl_55, zl_56, zl_57, zl_58, zl_59, zl_60, zl_61, zl_62, zl_63, zl_64, zl_97, zl_99, zl_100, zl_126, zl_255, zl_434, zl_496, zl_1000000, zl_100000, q1, Int.reduceToNat, Wp_some, Nx_l, Nx_r, cI_i, cV_v, cL_l, ite_t, ite_f, z_nn, toNat_c, bz_e0]
    refine RunP.loop (fun i ls D' => ls = [z i] ∧ FC D D' ∧ ∀ j, j < 64 → D'.2.2.1 59 j = z (dpT v (-1) i j)) 36 70 1 ?_ ?_ 0 _ _ (by omega) ⟨rfl, (FC.rfl.sA rfl).sA rfl, fun j hj => ?_⟩ (by omega)
    · rintro i ls D' c hi ⟨rfl, hf, h59⟩ hk
      have hbd : ∀ s, -1 ≤ dpT v (-1) i s ∧ dpT v (-1) i s ≤ 36 := fun s => by
        have := dpT_range (v := v) (B := -1) (by omega) i s
        omega
      obtain ⟨g1, q3, q4⟩ := J7_fill_53178_slabs_mostNext_ok D' (z (-1))
      refine RunP.mono (c := (c + 69) + 1) ?_ (by omega)
      refine RunP.go ?_
      show Wp (b_X9_countByCells_1 _ _) _
      unfold b_X9_countByCells_1
      simp (disch := omega) only [z_add, z_sub, z_mul, z_neg, ite_T, ite_F, zl_0, zl_1, zl_2, zl_3, zl_4, zl_5, zl_6, zl_7, zl_8, zl_9, zl_10, zl_11, zl_12, zl_13, zl_14, zl_15, zl_16, zl_17, zl_18, zl_19, zl_20, zl_21, zl_22, zl_23, zl_24, zl_25, zl_26, zl_27, zl_28, zl_29, zl_30, zl_31, zl_32, zl_33, zl_34, zl_35, zl_36, zl_37, zl_38, zl_39, zl_40, zl_41, zl_42, zl_43, zl_44, zl_45, zl_46, zl_47, zl_48, zl_49, zl_50, zl_51, zl_52, zl_53, zl_54, zl_55, zl_56, zl_57, zl_58, zl_59, zl_60, zl_61, zl_62, zl_63, zl_64, zl_97, zl_99, zl_100, zl_126, zl_255, zl_434, zl_496, zl_1000000, zl_100000, z_lt, z_le, z_eq, inB_z, z_div, q3, Int.reduceToNat, Wp_some, Nx_l, Nx_r, cI_i, cV_v, cL_l, ite_t, ite_f, z_nn, toNat_c, bz_e0]
      refine RunP.loop (fun s ls D2 => ∃ q : Nat → Int32, D2 = setA D' 60 q ∧ ls = [z i, z s] ∧ ∀ j, j < 64 → q j = z (dpK v i (dpT v (-1) i) (-1) s j)) 64 1 (c + 1) ?_ ?_ 0 _ _ (by omega) ⟨g1, rfl, rfl, fun j hj => q4 j hj⟩ (by omega)
      · rintro s ls D2 c2 hs ⟨q, rfl, rfl, hq⟩ hk2
        have hf2 : FC D (setA D' 60 q) := hf.sA rfl
        have h59' : ∀ j, j < 64 → (setA D' 60 q).2.2.1 59 j = z (dpT v (-1) i j) := fun j hj => by rw [setA_ne _ _ (by decide)]; exact h59 j hj
        have hbs := hbd s
        refine RunP.go ?_
        show Wp (b_X9_countByCells_2 _ _ _) _
        unfold b_X9_countByCells_2
        simp (disch := omega) only [z_add, z_sub, z_mul, z_neg, ite_T, ite_F, zl_0, zl_1, zl_2, zl_3, zl_4, zl_5, zl_6, zl_7, zl_8, zl_9, zl_10, zl_11, zl_12, zl_13, zl_14, zl_15, zl_16, zl_17, zl_18, zl_19, zl_20, zl_21, zl_22, zl_23, zl_24, zl_25, zl_26, zl_27, zl_28, zl_29, zl_30, zl_31, zl_32, zl_33, zl_34, zl_35, zl_36, zl_37, zl_38, zl_39, zl_40, zl_41, zl_42, zl_43, zl_44, zl_45, zl_46, zl_47, zl_48, zl_49, zl_50, zl_51, zl_52, zl_53, zl_54, zl_55, zl_56, zl_57, zl_58, zl_59, zl_60, zl_61, zl_62, zl_63, zl_64, zl_97, zl_99, zl_100, zl_126, zl_255, zl_434, zl_496, zl_1000000, zl_100000, z_lt, z_le, z_eq, inB_z, z_div, Int.reduceToNat, Wp_some, Nx_l, Nx_r, cI_i, cV_v, cL_l, ite_t, ite_f, z_nn, toNat_c, bz_e0, h59' s hs]
        split
        · rename_i e
          rw [Wp_some, Nx_l]
          exact hk2 _ _ ⟨q, rfl, rfl, fun j hj => by rw [dpK, if_pos (by omega)]; exact hq j hj⟩
        · rename_i e
          have hbK : Bd (dpK v i (dpT v (-1) i) (-1) s) := fun j => by
            have := dpK_range (v := v) (c := i) (f := dpT v (-1) i) (B := -1) (M := 36) (by omega) (fun s => (hbd s).2) s j
            omega
          obtain ⟨q5, t1, t2⟩ := s_passCell (hC.fc hf2) hW (f := dpT v (-1) i) (g := dpK v i (dpT v (-1) i) (-1) s) (fun j => by have := hbd j; omega) hbK h59' (fun j hj => by rw [setA_same]; exact hq j hj) hi hs (by omega)
          rw [t1, cV_v, Wp_some, Nx_l, setA_two]
          exact hk2 _ _ ⟨q5, rfl, rfl, fun j hj => by rw [dpK, if_neg (by omega)]; exact t2 j hj⟩
      · rintro ls D2 ⟨q, rfl, rfl, hq⟩
        refine RunP.go ?_
        show Wp (b_X9_countByCells_2 _ _ _) _
        unfold b_X9_countByCells_2
        simp (disch := omega) only [z_add, z_sub, z_mul, z_neg, ite_T, ite_F, zl_0, zl_1, zl_2, zl_3, zl_4, zl_5, zl_6, zl_7, zl_8, zl_9, zl_10, zl_11, zl_12, zl_13, zl_14, zl_15, zl_16, zl_17, zl_18, zl_19, zl_20, zl_21, zl_22, zl_23, zl_24, zl_25, zl_26, zl_27, zl_28, zl_29, zl_30, zl_31, zl_32, zl_33, zl_34, zl_35, zl_36, zl_37, zl_38, zl_39, zl_40, zl_41, zl_42, zl_43, zl_44, zl_45, zl_46, zl_47, zl_48, zl_49, zl_50, zl_51, zl_52, zl_53, zl_54, zl_55, zl_56, zl_57, zl_58, zl_59, zl_60, zl_61, zl_62, zl_63, zl_64, zl_97, zl_99, zl_100, zl_126, zl_255, zl_434, zl_496, zl_1000000, zl_100000, z_lt, z_le, z_eq, inB_z, z_div, Int.reduceToNat, Wp_some, Nx_l, Nx_r, cI_i, cV_v, cL_l, ite_t, ite_f, z_nn, toNat_c, bz_e0]
        refine hk _ _ ⟨rfl, (hf.sA rfl).sA rfl, fun j hj => ?_⟩
        rw [setA_same, setA_same, cpy_eq _ _ _ _ hj, hq j hj, dpT]
    · rintro ls D' ⟨rfl, hf, h59⟩
      have he := (dp_end hK (B := -1) (by omega)).1
      refine RunP.go ?_
      show Wp (b_X9_countByCells_1 _ _) _
      unfold b_X9_countByCells_1
      simp (disch := omega) only [z_add, z_sub, z_mul, z_neg, ite_T, ite_F, zl_0, zl_1, zl_2, zl_3, zl_4, zl_5, zl_6, zl_7, zl_8, zl_9, zl_10, zl_11, zl_12, zl_13, zl_14, zl_15, zl_16, zl_17, zl_18, zl_19, zl_20, zl_21, zl_22, zl_23, zl_24, zl_25, zl_26, zl_27, zl_28, zl_29, zl_30, zl_31, zl_32, zl_33, zl_34, zl_35, zl_36, zl_37, zl_38, zl_39, zl_40, zl_41, zl_42, zl_43, zl_44, zl_45, zl_46, zl_47, zl_48, zl_49, zl_50, zl_51, zl_52, zl_53, zl_54, zl_55, zl_56, zl_57, zl_58, zl_59, zl_60, zl_61, zl_62, zl_63, zl_64, zl_97, zl_99, zl_100, zl_126, zl_255, zl_434, zl_496, zl_1000000, zl_100000, z_lt, z_le, z_eq, inB_z, z_div, Int.reduceToNat, Wp_some, Nx_l, Nx_r, cI_i, cV_v, cL_l, ite_t, ite_f, z_nn, toNat_c, bz_e0, h59 0 (by decide), he]
      exact ⟨D', rfl, hf⟩
    · rw [setA_same, setA_same]
      show upd g0 0 (z 0) j = z (if j = 0 then 0 else -1)
      by_cases e : j = 0
      · rw [e, upd_same, if_pos rfl]
      · rw [upd_ne _ _ e, if_neg e]
        exact q2 j hj
  obtain ⟨r, h1, D', rfl, h2⟩ := key
  exact ⟨D', h1, h2⟩
theorem m_better {g : Nat → Int} (hg : Bd g) (hr : ∀ j, j < 64 → D.2.2.1 76 j = z (g j)) {r : Nat} (h : r < 64) {x : Int} (h1 : -1000000 ≤ x) (h2 : x ≤ 1000000) : ∃ q, S_X13_better (z r) (z x) D = some (0, none, setA D 76 q) ∧ ∀ j, j < 64 → q j = z (mx g r x j) := by
  have hb := hg r
  by_cases hx : x ≤ g r
  · refine ⟨D.2.2.1 76, ?_, fun j hj => ?_⟩
    · unfold S_X13_better
      simp (disch := omega) only [z_add, z_sub, z_mul, z_neg, ite_T, ite_F, zl_0, zl_1, zl_2, zl_3, zl_4, zl_5, zl_6, zl_7, zl_8, zl_9, zl_10, zl_11, zl_12, zl_13, zl_14, zl_15, zl_16, zl_17, zl_18, zl_19, zl_20, zl_21, zl_22, zl_23, zl_24, zl_25, zl_26, zl_27, zl_28, zl_29, zl_30, zl_31, zl_32, zl_33, zl_34, zl_35, zl_36, zl_37, zl_38, zl_39, zl_40, zl_41, zl_42, zl_43, zl_44, zl_45, zl_46, zl_47, zl_48, zl_49, zl_50, zl_51, zl_52, zl_53, zl_54, zl_55, zl_56, zl_57, zl_58, zl_59, zl_60, zl_61, zl_62, zl_63, zl_64, zl_97, zl_99, zl_100, zl_126, zl_255, zl_434, zl_496, zl_1000000, zl_100000, z_lt, z_le, z_eq, inB_z, z_div, Int.reduceToNat, Wp_some, Nx_l, Nx_r, cI_i, cV_v, cL_l, ite_t, ite_f, z_nn, toNat_c, bz_e0, hr r h, setA_self]
    · rw [hr j hj]
      unfold mx
      rw [if_neg (fun q => by rw [q.1] at q; omega)]
  · refine ⟨upd (D.2.2.1 76) r (z x), ?_, fun j hj => ?_⟩
    · unfold S_X13_better
      simp (disch := omega) only [z_add, z_sub, z_mul, z_neg, ite_T, ite_F, zl_0, zl_1, zl_2, zl_3, zl_4, zl_5, zl_6, zl_7, zl_8, zl_9, zl_10, zl_11, zl_12, zl_13, zl_14, zl_15, zl_16, zl_17, zl_18, zl_19, zl_20, zl_21, zl_22, zl_23, zl_24, zl_25, zl_26, zl_27, zl_28, zl_29, zl_30, zl_31, zl_32, zl_33, zl_34, zl_35, zl_36, zl_37, zl_38, zl_39, zl_40, zl_41, zl_42, zl_43, zl_44, zl_45, zl_46, zl_47, zl_48, zl_49, zl_50, zl_51, zl_52, zl_53, zl_54, zl_55, zl_56, zl_57, zl_58, zl_59, zl_60, zl_61, zl_62, zl_63, zl_64, zl_97, zl_99, zl_100, zl_126, zl_255, zl_434, zl_496, zl_1000000, zl_100000, z_lt, z_le, z_eq, inB_z, z_div, Int.reduceToNat, Wp_some, Nx_l, Nx_r, cI_i, cV_v, cL_l, ite_t, ite_f, z_nn, toNat_c, bz_e0, hr r h]
    · unfold mx
      by_cases e : j = r
      · rw [e, upd_same, if_pos ⟨rfl, by omega⟩]
      · rw [upd_ne _ _ e, if_neg (fun q => e q.1)]
        exact hr j hj
end LL
