/-! pure: a blast done, both sides -/
def opk (v : Nat → Nat) (O : Nat → Bool) : Nat → Nat → Nat
  | 0 => v
  | i + 1 => if O i then ogv (opk v O i) i else opk v O i
theorem opk_s (v : Nat → Nat) (O : Nat → Bool) (i : Nat) : opk v O (i + 1) = if O i then ogv (opk v O i) i else opk v O i := rfl
theorem opk_out {v : Nat → Nat} {O : Nat → Bool} {k : Nat} : ∀ i, k ≠ 1 → (k < 4 ∨ 4 + i ≤ k) → opk v O i k = v k
  | 0, _, _ => rfl
  | i + 1, h1, h2 => by
    rw [opk_s]
    split
    · rw [ogv_ne (by omega) h1]
      exact opk_out i h1 (by omega)
    · exact opk_out i h1 (by omega)
theorem WF.opk {v : Nat → Nat} {O : Nat → Bool} (hW : WF v) : ∀ i, i ≤ 36 → WF (opk v O i)
  | 0, _ => hW
  | i + 1, h => by
    rw [opk_s]
    split
    · exact (WF.opk hW i (by omega)).opd (by omega)
    · exact WF.opk hW i (by omega)
/-- the reference's fold: charges of E from the last to the first -/
def igf (E : Nat → Bool) (v : Nat → Nat) : Nat → Nat → Nat
  | 0 => v
  | m + 1 => if E (5 - m) then gsv (5 - m) (igf E v m) else igf E v m
theorem igf_s (E : Nat → Bool) (v : Nat → Nat) (m : Nat) : igf E v (m + 1) = if E (5 - m) then gsv (5 - m) (igf E v m) else igf E v m := rfl
def IG (v w : Nat → Nat) (E : Nat → Bool) (k : Nat) : Prop := w 3 + cnt E 6 = v 3 + cnt E k ∧ (∀ b, b < v 3 → ∀ P, ((b < k ∧ P = b) ∨ (k ≤ b ∧ E b = false ∧ P + cnt E b = b + cnt E k)) → w (40 + 2 * P) = v (40 + 2 * b) ∧ w (41 + 2 * P) = v (41 + 2 * b)) ∧ ∀ k, k ≠ 3 → (k < 40 ∨ 52 ≤ k) → w k = v k
theorem cnt_end {E : Nat → Bool} {a : Nat} (hE : ∀ b, E b = true → b < a) : ∀ n, a ≤ n → cnt E n = cnt E a
  | 0, h => by
    have : a = 0 := by omega
    subst this
    rfl
  | n + 1, h => by
    by_cases e : a = n + 1
    · rw [e]
    · have h2 : E n = false := by
        cases h3 : E n with
        | false => rfl
        | true =>
          have := hE n h3
          omega
      rw [cnt_s, h2, cnt_end hE n (by omega)]
      simp
theorem IG.step {v w : Nat → Nat} {E : Nat → Bool} {j : Nat} (h6 : v 3 ≤ 6) (hE : ∀ b, E b = true → b < v 3) (h : IG v w E (j + 1)) (hj : j < 6) : IG v (if E j then gsv j w else w) E j ∧ (E j = true → 1 ≤ w 3 ∧ w 3 ≤ 6) := by
  obtain ⟨h1, h2, h3⟩ := h
  have e6 := cnt_end hE 6 h6
  cases hEj : E j with
  | false =>
    rw [if_neg (by simp)]
    rw [cnt_s E j, hEj] at h1
    refine ⟨⟨by simpa using h1, fun b hb P hP => h2 b hb P ?_, h3⟩, fun q => by cases q⟩
    rw [cnt_s, hEj]
    rcases hP with ⟨p1, p2⟩ | ⟨p1, p2, p3⟩
    · exact Or.inl ⟨by omega, p2⟩
    · by_cases e : b = j
      · subst e
        exact Or.inl ⟨by omega, by omega⟩
      · exact Or.inr ⟨by omega, p2, by simpa using p3⟩
  | true =>
    rw [if_pos rfl]
    have hjv := hE j hEj
    have g1 := (cnt_gap E (a := j + 1) (v 3) (by omega))
    have c1 : cnt E (j + 1) = cnt E j + 1 := by rw [cnt_s, hEj]; rfl
    have hw : 1 ≤ w 3 ∧ w 3 ≤ 6 := by
      have := (cnt_gap E (a := j + 1) 6 (by omega)).1
      omega
    refine ⟨⟨by rw [gsv_3]; omega, fun b hb P hP => ?_, fun k q1 q2 => by rw [gsv_out q1 (by omega)]; exact h3 k q1 q2⟩, fun _ => hw⟩
    rcases hP with ⟨p1, p2⟩ | ⟨p1, p2, p3⟩
    · rw [gsv_out (by omega) (by omega), gsv_out (by omega) (by omega)]
      exact h2 b hb P (Or.inl ⟨by omega, p2⟩)
    · have hne : b ≠ j := fun e => by
        rw [e, hEj] at p2
        cases p2
      have g2 := cnt_gap E (a := j + 1) b (by omega)
      rw [gsv_in (by omega) (by omega), gsv_in (by omega) (by omega), show 40 + 2 * P + 2 = 40 + 2 * (P + 1) by omega, show 41 + 2 * P + 2 = 41 + 2 * (P + 1) by omega]
      exact h2 b hb (P + 1) (Or.inr ⟨by omega, p2, by omega⟩)
theorem IG.all {v : Nat → Nat} {E : Nat → Bool} (h6 : v 3 ≤ 6) (hE : ∀ b, E b = true → b < v 3) : ∀ m, m ≤ 6 → IG v (igf E v m) E (6 - m)
  | 0, _ => ⟨rfl, fun b hb P hP => by
      rcases hP with ⟨-, rfl⟩ | ⟨h, -⟩
      · exact ⟨rfl, rfl⟩
      · omega, fun _ _ _ => rfl⟩
  | m + 1, h => by
    have ih := IG.all h6 hE m (by omega)
    rw [show 6 - m = (5 - m) + 1 by omega] at ih
    rw [igf_s, show 6 - (m + 1) = 5 - m by omega]
    exact (IG.step h6 hE ih (by omega)).1
theorem KS.ig {v : Nat → Nat} {E : Nat → Bool} (h6 : v 3 ≤ 6) (hE : ∀ b, E b = true → b < v 3) : KS v (igf E v 6) E := by
  obtain ⟨h1, h2, h3⟩ := IG.all h6 hE 6 (Nat.le_refl _)
  have e6 := cnt_end hE 6 h6
  have c0 : cnt E (6 - 6) = 0 := rfl
  refine ⟨?_, fun b hb he => ?_, h3⟩
  · have := cnt_ng E (v 3)
    omega
  · have := cnt_ng E b
    exact h2 b hb _ (Or.inr ⟨Nat.zero_le _, he, by omega⟩)
section LL
variable {D D' : DD} {v w : Nat → Nat} {E O : Nat → Bool} {ord : Nat → Nat}
theorem BI.fs (hB : BI D E O ord) (h : FS D D') : BI D' E O ord := by
  unfold BI
  rw [h.a (k := 52) (by omega), h.a (k := 53) (by omega), h.a (k := 54) (by omega), h.i (k := 126) (by omega), h.i (k := 127) (by omega)]
  exact hB
theorem BI.cg {E' O' : Nat → Bool} (hB : BI D E O ord) (hE : ∀ b, b < 6 → E b = E' b) (hO : ∀ c, c < 36 → O c = O' c) : BI D E' O' ord := by
  obtain ⟨b1, b2, b3, b4, b5, b6⟩ := hB
  rw [cnt_congr 6 hE] at b3 b5 b6
  rw [cnt_congr 36 hO] at b4
  exact ⟨fun j hj => by rw [← hE j hj]; exact b1 j hj, fun c hc => by rw [← hO c hc]; exact b2 c hc, b3, b4, fun j hj => ⟨(b5 j hj).1, (b5 j hj).2.1, by rw [← hE _ (b5 j hj).2.1]; exact (b5 j hj).2.2⟩, fun b hb h => b6 b hb (by rw [hE b hb]; exact h)⟩
theorem s_applyBlast (hC : CS D v) (hW : WF v) (hB : BI D E O ord) (hk : KS (opk v O 36) w E) : ∃ D', S_X8_applyBlast D = some (0, none, D') ∧ FS D D' ∧ CS D' w := by
  have h6 := hW.2.1
  have key : ∃ r, run T_X8_applyBlast FUEL 0 [] D = some r ∧ ∃ D', r = (0, none, D') ∧ FS D D' ∧ CS D' w := by
    refine RunP.fin (c := 100) ?_ (by decide)
    refine RunP.go ?_
    show Wp (b_X8_applyBlast_0 _) _
    unfold b_X8_applyBlast_0
    simp only [Int.reduceToNat, Wp_some, Nx_l, Nx_r, cI_i, cV_v, cL_l, ite_t, ite_f, z_nn, toNat_c, bz_e0, z_add, z_sub, z_mul, z_neg, ite_T, ite_F, zl_0, zl_1, zl_2, zl_3, zl_4, zl_5, zl_6, zl_7, zl_8, zl_9, zl_10, zl_11, zl_12, zl_13, zl_14, zl_15, zl_16, zl_17, zl_18, zl_19, zl_20, zl_21, zl_22, zl_23, zl_24, zl_25, zl_26, zl_27, zl_28, zl_29, zl_30, zl_31, zl_32, zl_33, zl_34, zl_35, zl_36, zl_37, zl_38, zl_39, zl_40, zl_41, zl_42, zl_43, zl_44, zl_45, zl_46, zl_47, zl_48, zl_49, zl_50, zl_51, zl_52, zl_53, zl_54, zl_55, zl_56, zl_57, zl_58, zl_59, zl_60, zl_61, zl_62, zl_63, zl_64, zl_97, zl_99, zl_100, zl_126, zl_255, zl_434, zl_496, zl_1000000, zl_100000]
    refine RunP.loop (fun i ls D' => ls = [z i] ∧ FS D D' ∧ CS D' (opk v O i)) 36 1 50 ?_ ?_ 0 _ _ (by omega) ⟨rfl, FG.rfl, hC⟩ (by omega)
    · rintro i ls D' c hi ⟨rfl, hf, hC'⟩ hkk
      refine RunP.go ?_
      show Wp (b_X8_applyBlast_1 _ _) _
      unfold b_X8_applyBlast_1
      simp (disch := omega) only [z_add, z_sub, z_mul, z_neg, ite_T, ite_F, zl_0, zl_1, zl_2, zl_3, zl_4, zl_5, zl_6, zl_7, zl_8, zl_9, zl_10, zl_11, zl_12, zl_13, zl_14, zl_15, zl_16, zl_17, zl_18, zl_19, zl_20, zl_21, zl_22, zl_23, zl_24, zl_25, zl_26, zl_27, zl_28, zl_29, zl_30, zl_31, zl_32, zl_33, zl_34, zl_35, zl_36, zl_37, zl_38, zl_39, zl_40, zl_41, zl_42, zl_43, zl_44, zl_45, zl_46, zl_47, zl_48, zl_49, zl_50, zl_51, zl_52, zl_53, zl_54, zl_55, zl_56, zl_57, zl_58, zl_59, zl_60, zl_61, zl_62, zl_63, zl_64, zl_97, zl_99, zl_100, zl_126, zl_255, zl_434, zl_496, zl_1000000, zl_100000, z_lt, z_le, z_eq, inB_z, z_div, Int.reduceToNat, Wp_some, Nx_l, Nx_r, cI_i, cV_v, cL_l, ite_t, ite_f, z_nn, toNat_c, bz_e0, s_opens (hB.fs hf) hi, zb_0]
      cases hO : O i with
      | false =>
        rw [if_pos rfl, Wp_some, Nx_l]
        refine hkk _ _ ⟨rfl, hf, ?_⟩
        rw [opk_s, if_neg (by simp [hO])]
        exact hC'
      | true =>
        obtain ⟨D2, q1, q2, q3⟩ := s_makeOpen hC' (hW.opk i (by omega)) hi
        rw [if_neg (by simp), q1, cV_v, Wp_some, Nx_l]
        refine hkk _ _ ⟨rfl, hf.trans q2, ?_⟩
        rw [opk_s, if_pos hO]
        exact q3
    · rintro ls D1 ⟨rfl, hf, hC1⟩
      refine RunP.mono (c := 20 + 1) ?_ (by omega)
      refine RunP.go ?_
      show Wp (b_X8_applyBlast_1 _ _) _
      unfold b_X8_applyBlast_1
      simp (disch := omega) only [z_add, z_sub, z_mul, z_neg, ite_T, ite_F, zl_0, zl_1, zl_2, zl_3, zl_4, zl_5, zl_6, zl_7, zl_8, zl_9, zl_10, zl_11, zl_12, zl_13, zl_14, zl_15, zl_16, zl_17, zl_18, zl_19, zl_20, zl_21, zl_22, zl_23, zl_24, zl_25, zl_26, zl_27, zl_28, zl_29, zl_30, zl_31, zl_32, zl_33, zl_34, zl_35, zl_36, zl_37, zl_38, zl_39, zl_40, zl_41, zl_42, zl_43, zl_44, zl_45, zl_46, zl_47, zl_48, zl_49, zl_50, zl_51, zl_52, zl_53, zl_54, zl_55, zl_56, zl_57, zl_58, zl_59, zl_60, zl_61, zl_62, zl_63, zl_64, zl_97, zl_99, zl_100, zl_126, zl_255, zl_434, zl_496, zl_1000000, zl_100000, z_lt, z_le, z_eq, inB_z, z_div, Int.reduceToNat, Wp_some, Nx_l, Nx_r, cI_i, cV_v, cL_l, ite_t, ite_f, z_nn, toNat_c, bz_e0]
      have hW1 := hW.opk (O := O) 36 (Nat.le_refl _)
      have hB1 := hB.fs hf
      have e3 : opk v O 36 3 = v 3 := opk_out 36 (by omega) (by omega)
      refine RunP.loop (fun i ls D' => ls = [z (cnt (ngB E) i), z i] ∧ LK D1 D' (opk v O 36) E i) (opk v O 36 3) 1 1 ?_ ?_ 0 _ _ (by omega) ⟨rfl, LK.start hC1⟩ (by omega)
      · rintro i ls D' c hi ⟨rfl, hL⟩ hkk
        have h0 : D'.1 0 = z (opk v O 36 3) := by rw [hL.1.1 0 rfl]; exact hC1.2.2.2.2.1
        have hB2 : BI D' E O ord := hB1.fs (FG.mono hL.1 (fun k hk => rfl) (fun k hk => rfl) (fun k hk => by
          have : ¬ k ≤ 3 := by simpa [fsI] using hk
          simp [f12]
          omega) (fun h => h))
        refine RunP.go ?_
        show Wp (b_X8_applyBlast_2 _ _ _) _
        unfold b_X8_applyBlast_2
        simp (disch := omega) only [z_add, z_sub, z_mul, z_neg, ite_T, ite_F, zl_0, zl_1, zl_2, zl_3, zl_4, zl_5, zl_6, zl_7, zl_8, zl_9, zl_10, zl_11, zl_12, zl_13, zl_14, zl_15, zl_16, zl_17, zl_18, zl_19, zl_20, zl_21, zl_22, zl_23, zl_24, zl_25, zl_26, zl_27, zl_28, zl_29, zl_30, zl_31, zl_32, zl_33, zl_34, zl_35, zl_36, zl_37, zl_38, zl_39, zl_40, zl_41, zl_42, zl_43, zl_44, zl_45, zl_46, zl_47, zl_48, zl_49, zl_50, zl_51, zl_52, zl_53, zl_54, zl_55, zl_56, zl_57, zl_58, zl_59, zl_60, zl_61, zl_62, zl_63, zl_64, zl_97, zl_99, zl_100, zl_126, zl_255, zl_434, zl_496, zl_1000000, zl_100000, z_lt, z_le, z_eq, inB_z, z_div, Int.reduceToNat, Wp_some, Nx_l, Nx_r, cI_i, cV_v, cL_l, ite_t, ite_f, z_nn, toNat_c, bz_e0, h0, s_explodes hB2 (show i < 6 by omega), zb_0]
        cases hE : E i with
        | true =>
          rw [if_neg (by simp), Wp_some, Nx_l]
          refine hkk _ _ ⟨?_, hL.skip hE⟩
          rw [cnt_s, if_neg (by unfold ngB; simp [hE])]
          rfl
        | false =>
          obtain ⟨D2, q1, q2⟩ := s_renumber hC1 hW1 hi hL hE
          rw [if_pos rfl, q1, cV_v, Wp_some, Nx_l]
          refine hkk _ _ ⟨?_, q2⟩
          rw [cnt_s, if_pos (by unfold ngB; simp [hE])]
          rfl
      · rintro ls D' ⟨rfl, hL⟩
        have h0 : D'.1 0 = z (opk v O 36 3) := by rw [hL.1.1 0 rfl]; exact hC1.2.2.2.2.1
        refine RunP.go ?_
        show Wp (b_X8_applyBlast_2 _ _ _) _
        unfold b_X8_applyBlast_2
        simp (disch := omega) only [z_add, z_sub, z_mul, z_neg, ite_T, ite_F, zl_0, zl_1, zl_2, zl_3, zl_4, zl_5, zl_6, zl_7, zl_8, zl_9, zl_10, zl_11, zl_12, zl_13, zl_14, zl_15, zl_16, zl_17, zl_18, zl_19, zl_20, zl_21, zl_22, zl_23, zl_24, zl_25, zl_26, zl_27, zl_28, zl_29, zl_30, zl_31, zl_32, zl_33, zl_34, zl_35, zl_36, zl_37, zl_38, zl_39, zl_40, zl_41, zl_42, zl_43, zl_44, zl_45, zl_46, zl_47, zl_48, zl_49, zl_50, zl_51, zl_52, zl_53, zl_54, zl_55, zl_56, zl_57, zl_58, zl_59, zl_60, zl_61, zl_62, zl_63, zl_64, zl_97, zl_99, zl_100, zl_126, zl_255, zl_434, zl_496, zl_1000000, zl_100000, z_lt, z_le, z_eq, inB_z, z_div, Int.reduceToNat, Wp_some, Nx_l, Nx_r, cI_i, cV_v, cL_l, ite_t, ite_f, z_nn, toNat_c, bz_e0, h0]
        obtain ⟨q1, q2⟩ := hL.fin hC1 hW1 hk
        exact ⟨_, rfl, hf.trans q2, q1⟩
  obtain ⟨r, h1, D', rfl, h2⟩ := key
  exact ⟨D', h1, h2⟩
/-- the state behind a blast -/
noncomputable def igw (v : Nat → Nat) (n : Nat) : Nat → Nat := igf (chB v n) (opk v (flB v n) 36) 6
theorem KS.blow (hW : WF v) {n : Nat} : KS (opk v (flB v n) 36) (igw v n) (chB v n) := by
  have h6 := hW.2.1
  have e3 : opk v (flB v n) 36 3 = v 3 := opk_out 36 (by omega) (by omega)
  exact KS.ig (by omega) (fun b hb => by rw [e3]; exact (chB_iff.mp hb).1)
theorem WF.blow (hW : WF v) {n : Nat} : WF (igw v n) := (hW.opk 36 (Nat.le_refl _)).keep (KS.blow hW)
theorem s_blowUp (hC : CS D v) (hW : WF v) {n : Nat} (hn : n < v 3) : ∃ D', S_X12_blowUp (z n) D = some (0, some (.int (z (cnt (flB v n) 36))), D') ∧ FA D D' ∧ CS D' (igw v n) := by
  obtain ⟨D1, E, O, ord, q1, q2, q3, q4, q5⟩ := s_run hC hW hn
  have hB := q3.cg q4 q5
  obtain ⟨D2, r1, r2, r3⟩ := s_applyBlast (hC.fc q2) hW hB (KS.blow hW)
  refine ⟨D2, ?_, q2.fa.trans r2.fa, r3⟩
  unfold S_X12_blowUp
  rw [q1, cV_v, r1, cV_v, (hB.fs r2).2.2.2.1]
theorem m_ignites_no (hM : MR D v) (hW : WF v) {a : Int} (h1 : -2147483648 ≤ a) (h2 : a < 2147483648) (hf : ¬ (0 ≤ a ∧ a < v 3)) : S_X13_ignites (z a) D = some (0, some (.int (z 0)), setI D 140 (z 1)) := by
  unfold S_X13_ignites
  refine RunP.eqn (c := 100) ?_ (by decide)
  refine RunP.go ?_
  show Wp (b_X13_ignites_0 _ _) _
  unfold b_X13_ignites_0
  rw [m_isCharge hM hW h1 h2, bz_f hf]
  simp only [z_add, z_sub, z_mul, z_neg, ite_T, ite_F, zl_0, zl_1, zl_2, zl_3, zl_4, zl_5, zl_6, zl_7, zl_8, zl_9, zl_10, zl_11, zl_12, zl_13, zl_14, zl_15, zl_16, zl_17, zl_18, zl_19, zl_20, zl_21, zl_22, zl_23, zl_24, zl_25, zl_26, zl_27, zl_28, zl_29, zl_30, zl_31, zl_32, zl_33, zl_34, zl_35, zl_36, zl_37, zl_38, zl_39, zl_40, zl_41, zl_42, zl_43, zl_44, zl_45, zl_46, zl_47, zl_48, zl_49, zl_50, zl_51, zl_52, zl_53, zl_54, zl_55, zl_56, zl_57, zl_58, zl_59, zl_60, zl_61, zl_62, zl_63, zl_64, zl_97, zl_99, zl_100, zl_126, zl_255, zl_434, zl_496, zl_1000000, zl_100000, z_lt, z_le, z_eq, inB_z, z_div, Int.reduceToNat, Wp_some, Nx_l, Nx_r, cI_i, cV_v, cL_l, ite_t, ite_f, z_nn, toNat_c, bz_e0, m_fail]
theorem m_ignites_ok (hM : MR D v) (hW : WF v) {n : Nat} (hn : n < v 3) : ∃ D', S_X13_ignites (z n) D = some (0, some (.int (z (cnt (flB v n) 36))), D') ∧ FR D D' ∧ MR D' (igw v n) ∧ D'.1 140 = D.1 140 := by
  have h6 := hW.2.1
  obtain ⟨m, hm, hch, hb⟩ := m_chain hM hW hn
  have key : ∃ r, run T_X13_ignites FUEL 0 [z n] D = some r ∧ ∃ D', r = (0, some (.int (z (cnt (flB v n) 36))), D') ∧ FR D D' ∧ MR D' (igw v n) ∧ D'.1 140 = D.1 140 := by
    refine RunP.fin (c := 300) ?_ (by decide)
    refine RunP.go ?_
    show Wp (b_X13_ignites_0 _ _) _
    unfold b_X13_ignites_0
    rw [m_isCharge hM hW (by omega) (by omega), bz_t (by omega)]
    simp (disch := omega) only [z_add, z_sub, z_mul, z_neg, ite_T, ite_F, zl_0, zl_1, zl_2, zl_3, zl_4, zl_5, zl_6, zl_7, zl_8, zl_9, zl_10, zl_11, zl_12, zl_13, zl_14, zl_15, zl_16, zl_17, zl_18, zl_19, zl_20, zl_21, zl_22, zl_23, zl_24, zl_25, zl_26, zl_27, zl_28, zl_29, zl_30, zl_31, zl_32, zl_33, zl_34, zl_35, zl_36, zl_37, zl_38, zl_39, zl_40, zl_41, zl_42, zl_43, zl_44, zl_45, zl_46, zl_47, zl_48, zl_49, zl_50, zl_51, zl_52, zl_53, zl_54, zl_55, zl_56, zl_57, zl_58, zl_59, zl_60, zl_61, zl_62, zl_63, zl_64, zl_97, zl_99, zl_100, zl_126, zl_255, zl_434, zl_496, zl_1000000, zl_100000, z_lt, z_le, z_eq, inB_z, z_div, Int.reduceToNat, Wp_some, Nx_l, Nx_r, cI_i, cV_v, cL_l, ite_t, ite_f, z_nn, toNat_c, bz_e0, hch]
    refine RunP.loop (fun i ls D' => ls = [z (m : Nat), z (cnt (flB v n) i), z i] ∧ ∃ g, D' = setA D 74 g ∧ ∀ j, j < i → g j = z (zb (flB v n j))) 36 1 200 ?_ ?_ 0 _ _ (by omega) ⟨rfl, D.2.2.1 74, (setA_self D 74).symm, fun j h => by omega⟩ (by omega)
    · rintro i ls D' c hi ⟨rfl, g, rfl, hg⟩ hkk
      refine RunP.go ?_
      show Wp (b_X13_ignites_1 _ _ _ _) _
      unfold b_X13_ignites_1
      simp (disch := omega) only [z_add, z_sub, z_mul, z_neg, ite_T, ite_F, zl_0, zl_1, zl_2, zl_3, zl_4, zl_5, zl_6, zl_7, zl_8, zl_9, zl_10, zl_11, zl_12, zl_13, zl_14, zl_15, zl_16, zl_17, zl_18, zl_19, zl_20, zl_21, zl_22, zl_23, zl_24, zl_25, zl_26, zl_27, zl_28, zl_29, zl_30, zl_31, zl_32, zl_33, zl_34, zl_35, zl_36, zl_37, zl_38, zl_39, zl_40, zl_41, zl_42, zl_43, zl_44, zl_45, zl_46, zl_47, zl_48, zl_49, zl_50, zl_51, zl_52, zl_53, zl_54, zl_55, zl_56, zl_57, zl_58, zl_59, zl_60, zl_61, zl_62, zl_63, zl_64, zl_97, zl_99, zl_100, zl_126, zl_255, zl_434, zl_496, zl_1000000, zl_100000, z_lt, z_le, z_eq, inB_z, z_div, Int.reduceToNat, Wp_some, Nx_l, Nx_r, cI_i, cV_v, cL_l, ite_t, ite_f, z_nn, toNat_c, bz_e0, m_falls (hM.setA (g := g) (k := 74) (by decide)) hW hm hb hi, zb_0, setA_same, setA_two, upd_same]
      cases hF : flB v n i with
      | false =>
        rw [if_pos rfl, Wp_some, Nx_l]
        refine hkk _ _ ⟨?_, _, rfl, fun j hj => ?_⟩
        · rw [cnt_s, hF]
          simp
        · by_cases e : j = i
          · subst e
            rw [upd_same, hF]
            rfl
          · rw [upd_ne _ _ e]
            exact hg j (by omega)
      | true =>
        rw [if_neg (by simp), Wp_some, Nx_l]
        refine hkk _ _ ⟨?_, _, rfl, fun j hj => ?_⟩
        · rw [cnt_s, hF]
          rfl
        · by_cases e : j = i
          · subst e
            rw [upd_same, hF]
            rfl
          · rw [upd_ne _ _ e]
            exact hg j (by omega)
    · rintro ls D1 ⟨rfl, g, rfl, hg⟩
      refine RunP.mono (c := 150 + 1) ?_ (by omega)
      refine RunP.go ?_
      show Wp (b_X13_ignites_1 _ _ _ _) _
      unfold b_X13_ignites_1
      simp (disch := omega) only [z_add, z_sub, z_mul, z_neg, ite_T, ite_F, zl_0, zl_1, zl_2, zl_3, zl_4, zl_5, zl_6, zl_7, zl_8, zl_9, zl_10, zl_11, zl_12, zl_13, zl_14, zl_15, zl_16, zl_17, zl_18, zl_19, zl_20, zl_21, zl_22, zl_23, zl_24, zl_25, zl_26, zl_27, zl_28, zl_29, zl_30, zl_31, zl_32, zl_33, zl_34, zl_35, zl_36, zl_37, zl_38, zl_39, zl_40, zl_41, zl_42, zl_43, zl_44, zl_45, zl_46, zl_47, zl_48, zl_49, zl_50, zl_51, zl_52, zl_53, zl_54, zl_55, zl_56, zl_57, zl_58, zl_59, zl_60, zl_61, zl_62, zl_63, zl_64, zl_97, zl_99, zl_100, zl_126, zl_255, zl_434, zl_496, zl_1000000, zl_100000, z_lt, z_le, z_eq, inB_z, z_div, Int.reduceToNat, Wp_some, Nx_l, Nx_r, cI_i, cV_v, cL_l, ite_t, ite_f, z_nn, toNat_c, bz_e0]
      refine RunP.loop (fun i ls D' => ls = [z (m : Nat), z (cnt (flB v n) 36), z i] ∧ FR D D' ∧ D'.1 140 = D.1 140 ∧ D'.2.2.1 74 = g ∧ MR D' (opk v (flB v n) i)) 36 1 100 ?_ ?_ 0 _ _ (by omega) ⟨rfl, FG.rfl.sA rfl, rfl, setA_same _ _ _, hM.setA (by decide)⟩ (by omega)
      · rintro i ls D' c hi ⟨rfl, hf, h140, h74, hM'⟩ hkk
        have hgi := hg i hi
        refine RunP.go ?_
        show Wp (b_X13_ignites_2 _ _ _ _) _
        unfold b_X13_ignites_2
        simp (disch := omega) only [z_add, z_sub, z_mul, z_neg, ite_T, ite_F, zl_0, zl_1, zl_2, zl_3, zl_4, zl_5, zl_6, zl_7, zl_8, zl_9, zl_10, zl_11, zl_12, zl_13, zl_14, zl_15, zl_16, zl_17, zl_18, zl_19, zl_20, zl_21, zl_22, zl_23, zl_24, zl_25, zl_26, zl_27, zl_28, zl_29, zl_30, zl_31, zl_32, zl_33, zl_34, zl_35, zl_36, zl_37, zl_38, zl_39, zl_40, zl_41, zl_42, zl_43, zl_44, zl_45, zl_46, zl_47, zl_48, zl_49, zl_50, zl_51, zl_52, zl_53, zl_54, zl_55, zl_56, zl_57, zl_58, zl_59, zl_60, zl_61, zl_62, zl_63, zl_64, zl_97, zl_99, zl_100, zl_126, zl_255, zl_434, zl_496, zl_1000000, zl_100000, z_lt, z_le, z_eq, inB_z, z_div, Int.reduceToNat, Wp_some, Nx_l, Nx_r, cI_i, cV_v, cL_l, ite_t, ite_f, z_nn, toNat_c, bz_e0, h74, hgi, zb_0]
        cases hF : flB v n i with
        | false =>
          rw [if_pos rfl, Wp_some, Nx_l]
          refine hkk _ _ ⟨rfl, hf, h140, h74, ?_⟩
          rw [opk_s, hF, if_neg (by simp)]
          exact hM'
        | true =>
          have e1 := hM' 1 (by omega)
          rw [if_neg (by simp)]
          simp (disch := omega) only [z_add, z_sub, z_mul, z_neg, ite_T, ite_F, zl_0, zl_1, zl_2, zl_3, zl_4, zl_5, zl_6, zl_7, zl_8, zl_9, zl_10, zl_11, zl_12, zl_13, zl_14, zl_15, zl_16, zl_17, zl_18, zl_19, zl_20, zl_21, zl_22, zl_23, zl_24, zl_25, zl_26, zl_27, zl_28, zl_29, zl_30, zl_31, zl_32, zl_33, zl_34, zl_35, zl_36, zl_37, zl_38, zl_39, zl_40, zl_41, zl_42, zl_43, zl_44, zl_45, zl_46, zl_47, zl_48, zl_49, zl_50, zl_51, zl_52, zl_53, zl_54, zl_55, zl_56, zl_57, zl_58, zl_59, zl_60, zl_61, zl_62, zl_63, zl_64, zl_97, zl_99, zl_100, zl_126, zl_255, zl_434, zl_496, zl_1000000, zl_100000, z_lt, z_le, z_eq, inB_z, z_div, Int.reduceToNat, Wp_some, Nx_l, Nx_r, cI_i, cV_v, cL_l, ite_t, ite_f, z_nn, toNat_c, bz_e0, m_hard hM' hi, e1, setA_two]
          refine hkk _ _ ⟨rfl, hf.trans (FG.rfl.sA rfl), h140, ?_, ?_⟩
          · rw [setA_ne _ _ (by decide)]
            exact h74
          · rw [opk_s, hF, if_pos rfl, show ((4 : Int) + i).toNat = 4 + i by omega]
            have := (RV.upd (k := 4 + i) (x := 0) (RV.upd (k := 1) (x := opk v (flB v n) i 1 + opk v (flB v n) i (4 + i)) hM')).mr (D := D')
            exact this
      · rintro ls D2 ⟨rfl, hf, h140, h74, hM2⟩
        refine RunP.mono (c := 50 + 1) ?_ (by omega)
        refine RunP.go ?_
        show Wp (b_X13_ignites_2 _ _ _ _) _
        unfold b_X13_ignites_2
        simp (disch := omega) only [z_add, z_sub, z_mul, z_neg, ite_T, ite_F, zl_0, zl_1, zl_2, zl_3, zl_4, zl_5, zl_6, zl_7, zl_8, zl_9, zl_10, zl_11, zl_12, zl_13, zl_14, zl_15, zl_16, zl_17, zl_18, zl_19, zl_20, zl_21, zl_22, zl_23, zl_24, zl_25, zl_26, zl_27, zl_28, zl_29, zl_30, zl_31, zl_32, zl_33, zl_34, zl_35, zl_36, zl_37, zl_38, zl_39, zl_40, zl_41, zl_42, zl_43, zl_44, zl_45, zl_46, zl_47, zl_48, zl_49, zl_50, zl_51, zl_52, zl_53, zl_54, zl_55, zl_56, zl_57, zl_58, zl_59, zl_60, zl_61, zl_62, zl_63, zl_64, zl_97, zl_99, zl_100, zl_126, zl_255, zl_434, zl_496, zl_1000000, zl_100000, z_lt, z_le, z_eq, inB_z, z_div, Int.reduceToNat, Wp_some, Nx_l, Nx_r, cI_i, cV_v, cL_l, ite_t, ite_f, z_nn, toNat_c, bz_e0]
        have e3 : opk v (flB v n) 36 3 = v 3 := opk_out 36 (by omega) (by omega)
        have hE : ∀ b, chB v n b = true → b < opk v (flB v n) 36 3 := fun b hb => by rw [e3]; exact (chB_iff.mp hb).1
        refine RunP.loop (fun i ls D' => ls = [z (m : Nat), z (cnt (flB v n) 36), z ((5 : Int) - i)] ∧ FR D D' ∧ D'.1 140 = D.1 140 ∧ MR D' (igf (chB v n) (opk v (flB v n) 36) i)) 6 1 1 ?_ ?_ 0 _ _ (by omega) ⟨rfl, hf, h140, hM2⟩ (by omega)
        · rintro i ls D' c hi ⟨rfl, hf, h140, hM'⟩ hkk
          have hG := IG.all (by omega) hE i (by omega)
          rw [show 6 - i = (5 - i) + 1 by omega] at hG
          have hst := (IG.step (by omega) hE hG (by omega)).2
          have ei : ((5 : Int) - i) = ((5 - i : Nat) : Int) := by omega
          refine RunP.go ?_
          show Wp (b_X13_ignites_3 _ _ _ _) _
          unfold b_X13_ignites_3
          simp (disch := omega) only [z_add, z_sub, z_mul, z_neg, ite_T, ite_F, zl_0, zl_1, zl_2, zl_3, zl_4, zl_5, zl_6, zl_7, zl_8, zl_9, zl_10, zl_11, zl_12, zl_13, zl_14, zl_15, zl_16, zl_17, zl_18, zl_19, zl_20, zl_21, zl_22, zl_23, zl_24, zl_25, zl_26, zl_27, zl_28, zl_29, zl_30, zl_31, zl_32, zl_33, zl_34, zl_35, zl_36, zl_37, zl_38, zl_39, zl_40, zl_41, zl_42, zl_43, zl_44, zl_45, zl_46, zl_47, zl_48, zl_49, zl_50, zl_51, zl_52, zl_53, zl_54, zl_55, zl_56, zl_57, zl_58, zl_59, zl_60, zl_61, zl_62, zl_63, zl_64, zl_97, zl_99, zl_100, zl_126, zl_255, zl_434, zl_496, zl_1000000, zl_100000, Int.reduceToNat, Wp_some, Nx_l, Nx_r, cI_i, cV_v, cL_l, ite_t, ite_f, z_nn, toNat_c, bz_e0]
          rw [if_neg (by rw [z_lt (by omega) (by omega) (by omega) (by omega)]; omega), ei]
          by_cases hbit : m.testBit (5 - i) = true
          · have hch2 := hbit
            rw [hb _ (by omega)] at hch2
            rw [if_pos ((bit_get m hm (5 - i) (by omega)).mpr hbit)]
            obtain ⟨p1, p2⟩ := hst hch2
            obtain ⟨D3, q1, q2, q3⟩ := m_goes hM' (n := 5 - i) (by omega) p1 p2
            rw [q1, cV_v, Wp_some, Nx_l]
            refine hkk _ _ ⟨?_, hf.trans (FG.mono q2 (fun k hk => rfl) (fun k hk => rfl) (fun k hk => by
              unfold frA at hk
              rw [Bool.or_eq_false_iff] at hk
              exact hk.1) (fun h => h)), (q2.1 140 rfl).trans h140, ?_⟩
            · rw [show ((5 - i : Nat) : Int) + -1 = 5 - ((i + 1 : Nat) : Int) by omega]
            · rw [igf_s, hch2, if_pos rfl]
              exact q3
          · rw [if_neg (fun q => hbit ((bit_get m hm (5 - i) (by omega)).mp q)), Wp_some, Nx_l]
            refine hkk _ _ ⟨?_, hf, h140, ?_⟩
            · rw [show ((5 - i : Nat) : Int) + -1 = 5 - ((i + 1 : Nat) : Int) by omega]
            · rw [igf_s, if_neg (fun q => hbit (by rw [hb _ (by omega)]; exact q))]
              exact hM'
        · rintro ls D' ⟨rfl, hf, h140, hM'⟩
          refine RunP.go ?_
          show Wp (b_X13_ignites_3 _ _ _ _) _
          unfold b_X13_ignites_3
          simp (disch := omega) only [z_add, z_sub, z_mul, z_neg, ite_T, ite_F, zl_0, zl_1, zl_2, zl_3, zl_4, zl_5, zl_6, zl_7, zl_8, zl_9, zl_10, zl_11, zl_12, zl_13, zl_14, zl_15, zl_16, zl_17, zl_18, zl_19, zl_20, zl_21, zl_22, zl_23, zl_24, zl_25, zl_26, zl_27, zl_28, zl_29, zl_30, zl_31, zl_32, zl_33, zl_34, zl_35, zl_36, zl_37, zl_38, zl_39, zl_40, zl_41, zl_42, zl_43, zl_44, zl_45, zl_46, zl_47, zl_48, zl_49, zl_50, zl_51, zl_52, zl_53, zl_54, zl_55, zl_56, zl_57, zl_58, zl_59, zl_60, zl_61, zl_62, zl_63, zl_64, zl_97, zl_99, zl_100, zl_126, zl_255, zl_434, zl_496, zl_1000000, zl_100000, Int.reduceToNat, Wp_some, Nx_l, Nx_r, cI_i, cV_v, cL_l, ite_t, ite_f, z_nn, toNat_c, bz_e0]
          rw [if_pos (by rw [z_lt (by omega) (by omega) (by omega) (by omega)]; omega), Wp_some, Nx_r]
          exact ⟨D', rfl, hf, hM', h140⟩
  obtain ⟨r, h1, D', rfl, h2⟩ := key
  exact ⟨D', h1, h2⟩
end LL
