/-! pure: the text, the quarry's side -/
def wlen (w : Nat) : Nat := [4, 6, 6, 6, 3, 5, 4].getD w 0
def wch (w j : Nat) : Nat := ([[114, 111, 99, 107], [99, 104, 97, 114, 103, 101], [114, 101, 109, 111, 118, 101], [105, 103, 110, 105, 116, 101], [100, 105, 103], [112, 114, 105, 99, 101], [115, 101, 108, 108]].getD w []).getD j 0
def wnp (w : Nat) : Nat := [3, 3, 1, 1, 2, 2, 1].getD w 0
def wmg (w : Nat) : Nat := [1, 1, 1, 1, 1, 2, 2].getD w 0
def sg (n : Nat) (T : Nat → Nat) (i : Nat) : Int := if i < n then T i else -1
theorem sg_in {n : Nat} {T : Nat → Nat} {i : Nat} (h : i < n) : sg n T i = T i := if_pos h
theorem sg_out {n : Nat} {T : Nat → Nat} {i : Nat} (h : ¬ i < n) : sg n T i = -1 := if_neg h
/-- the letters of w from p on, as far as i -/
def Mt (n : Nat) (T : Nat → Nat) (p w i : Nat) : Prop := sg n T (p + i) = wch w i
def WOk (n : Nat) (T : Nat → Nat) (p w : Nat) : Prop := w < 7 ∧ ∀ i, i < wlen w → Mt n T p w i
def WNo (n : Nat) (T : Nat → Nat) (p m : Nat) : Prop := (∃ w, w < 7 ∧ m < wlen w ∧ ∀ i, i < m → Mt n T p w i) ∧ ∀ w, w < 7 → ∃ k, k ≤ m ∧ k < wlen w ∧ ¬ Mt n T p w k
def isD (n : Nat) (T : Nat → Nat) (i : Nat) : Prop := 48 ≤ sg n T i ∧ sg n T i ≤ 57
/-- a number behind a blank: well read, its value, the place behind -/
noncomputable def numF (n : Nat) (T : Nat → Nat) (m p : Nat) : Bool × Nat × Nat :=
  @ite _ (sg n T p = 32) (Classical.propDecidable _) (@ite _ (isD n T (p + 1)) (Classical.propDecidable _) (@ite _ (m = 2 ∧ isD n T (p + 2)) (Classical.propDecidable _) (true, 10 * (sg n T (p + 1) - 48).toNat + (sg n T (p + 2) - 48).toNat, p + 3) (true, (sg n T (p + 1) - 48).toNat, p + 2)) (false, 0, p + 1)) (false, 0, p)
/-- a command's numbers -/
noncomputable def parF (n : Nat) (T : Nat → Nat) (w q0 : Nat) : Bool × Nat × Nat × Nat × Nat :=
  if (numF n T (wmg w) q0).1 = true then
    (if wnp w = 1 then (true, (numF n T (wmg w) q0).2.1, 0, 0, (numF n T (wmg w) q0).2.2) else
      if (numF n T (wmg w) (numF n T (wmg w) q0).2.2).1 = true then
        (if wnp w = 2 then (true, (numF n T (wmg w) q0).2.1, (numF n T (wmg w) (numF n T (wmg w) q0).2.2).2.1, 0, (numF n T (wmg w) (numF n T (wmg w) q0).2.2).2.2) else
          if (numF n T (wmg w) (numF n T (wmg w) (numF n T (wmg w) q0).2.2).2.2).1 = true then (true, (numF n T (wmg w) q0).2.1, (numF n T (wmg w) (numF n T (wmg w) q0).2.2).2.1, (numF n T (wmg w) (numF n T (wmg w) (numF n T (wmg w) q0).2.2).2.2).2.1, (numF n T (wmg w) (numF n T (wmg w) (numF n T (wmg w) q0).2.2).2.2).2.2)
          else (false, 0, 0, 0, (numF n T (wmg w) (numF n T (wmg w) (numF n T (wmg w) q0).2.2).2.2).2.2))
      else (false, 0, 0, 0, (numF n T (wmg w) (numF n T (wmg w) q0).2.2).2.2))
  else (false, 0, 0, 0, (numF n T (wmg w) q0).2.2)
theorem numF_b {n : Nat} {T : Nat → Nat} {m p : Nat} (h : sg n T p ≠ 32) : numF n T m p = (false, 0, p) := by
  unfold numF
  rw [if_neg h]
theorem numF_n {n : Nat} {T : Nat → Nat} {m p : Nat} (h : sg n T p = 32) (h1 : ¬ isD n T (p + 1)) : numF n T m p = (false, 0, p + 1) := by
  unfold numF
  rw [if_pos h, if_neg h1]
theorem numF_1 {n : Nat} {T : Nat → Nat} {m p : Nat} (h : sg n T p = 32) (h1 : isD n T (p + 1)) (h2 : ¬ (m = 2 ∧ isD n T (p + 2))) : numF n T m p = (true, (sg n T (p + 1) - 48).toNat, p + 2) := by
  unfold numF
  rw [if_pos h, if_pos h1, if_neg h2]
theorem numF_2 {n : Nat} {T : Nat → Nat} {m p : Nat} (h : sg n T p = 32) (h1 : isD n T (p + 1)) (h2 : m = 2 ∧ isD n T (p + 2)) : numF n T m p = (true, 10 * (sg n T (p + 1) - 48).toNat + (sg n T (p + 2) - 48).toNat, p + 3) := by
  unfold numF
  rw [if_pos h, if_pos h1, if_pos h2]
theorem sg_lo (n : Nat) (T : Nat → Nat) (i : Nat) : -1 ≤ sg n T i := by unfold sg; split <;> omega
theorem sg_pos {n : Nat} {T : Nat → Nat} {i : Nat} (h : 0 ≤ sg n T i) : i < n := by
  unfold sg at h
  split at h
  · assumption
  · omega
theorem numF_le {n : Nat} {T : Nat → Nat} {m p : Nat} (hp : p ≤ n) : (numF n T m p).2.2 ≤ n ∧ p ≤ (numF n T m p).2.2 ∧ (numF n T m p).2.1 ≤ 99 ∧ ((numF n T m p).1 = true → p + 2 ≤ (numF n T m p).2.2) := by
  by_cases h : sg n T p = 32
  · have h0 := sg_pos (n := n) (T := T) (i := p) (by omega)
    by_cases h1 : isD n T (p + 1)
    · have h2 := sg_pos (n := n) (T := T) (i := p + 1) (by unfold isD at h1; omega)
      by_cases h3 : m = 2 ∧ isD n T (p + 2)
      · have h4 := sg_pos (n := n) (T := T) (i := p + 2) (by unfold isD at h3; omega)
        rw [numF_2 h h1 h3]
        dsimp only
        unfold isD at h1 h3
        exact ⟨by omega, by omega, by omega, fun _ => by omega⟩
      · rw [numF_1 h h1 h3]
        dsimp only
        unfold isD at h1
        exact ⟨by omega, by omega, by omega, fun _ => by omega⟩
    · rw [numF_n h h1]
      dsimp only
      exact ⟨by omega, by omega, by omega, fun q => by cases q⟩
  · rw [numF_b h]
    dsimp only
    exact ⟨hp, Nat.le_refl _, by omega, fun q => by cases q⟩
theorem setI_two (D : DD) (k : Nat) (x y : Int32) : setI (setI D k x) k y = setI D k y := by
  unfold setI
  rw [up_two]
theorem setI_self (D : DD) (k : Nat) : setI D k (D.1 k) = D := by
  unfold setI
  rw [up_self]
/-- the text's row -/
def TW (D : DD) (n : Nat) (T : Nat → Nat) : Prop := D.1 129 = z n ∧ n ≤ 60 ∧ (∀ i, i < n → D.2.2.1 65 i = z (T i)) ∧ ∀ i, i < n → 32 ≤ T i ∧ T i ≤ 126
section LL
variable {D D1 E : DD} {n : Nat} {T : Nat → Nat} {p : Nat}
theorem TW.pos (h : TW D n T) (x : Int32) : TW (setI D 130 x) n T := h
theorem s_signIs (hT : TW D n T) {i c : Nat} (hi : i ≤ 200) (hc : c < 1000) : S_X4_signIs (z i) (z c) D = some (0, some (.int (z (bz (sg n T i = c)))), D) := by
  obtain ⟨h1, h2, h3, h4⟩ := hT
  unfold S_X4_signIs
  by_cases hin : i < n
  · have h5 := h3 i hin
    have h6 := h4 i hin
    simp (disch := omega) only [z_add, z_sub, z_mul, z_neg, ite_T, ite_F, zl_0, zl_1, zl_2, zl_3, zl_4, zl_5, zl_6, zl_7, zl_8, zl_9, zl_10, zl_11, zl_12, zl_13, zl_14, zl_15, zl_16, zl_17, zl_18, zl_19, zl_20, zl_21, zl_22, zl_23, zl_24, zl_25, zl_26, zl_27, zl_28, zl_29, zl_30, zl_31, zl_32, zl_33, zl_34, zl_35, zl_36, zl_37, zl_38, zl_39, zl_40, zl_41, zl_42, zl_43, zl_44, zl_45, zl_46, zl_47, zl_48, zl_49, zl_50, zl_51, zl_52, zl_53, zl_54, zl_55, zl_56, zl_57, zl_58, zl_59, zl_60, zl_61, zl_62, zl_63, zl_64, zl_97, zl_99, zl_100, zl_126, zl_255, zl_434, zl_496, zl_1000000, zl_100000, z_lt, z_le, z_eq, inB_z, z_div, Int.reduceToNat, Wp_some, Nx_l, Nx_r, cI_i, cV_v, cL_l, ite_t, ite_f, z_nn, toNat_c, bz_e0, h1, h5]
    by_cases q : (T i : Int) = c
    · rw [if_pos q, bz_t (by rw [sg_in hin]; exact q)]
    · rw [if_neg q, bz_f (by rw [sg_in hin]; exact q)]
  · simp (disch := omega) only [z_add, z_sub, z_mul, z_neg, ite_T, ite_F, zl_0, zl_1, zl_2, zl_3, zl_4, zl_5, zl_6, zl_7, zl_8, zl_9, zl_10, zl_11, zl_12, zl_13, zl_14, zl_15, zl_16, zl_17, zl_18, zl_19, zl_20, zl_21, zl_22, zl_23, zl_24, zl_25, zl_26, zl_27, zl_28, zl_29, zl_30, zl_31, zl_32, zl_33, zl_34, zl_35, zl_36, zl_37, zl_38, zl_39, zl_40, zl_41, zl_42, zl_43, zl_44, zl_45, zl_46, zl_47, zl_48, zl_49, zl_50, zl_51, zl_52, zl_53, zl_54, zl_55, zl_56, zl_57, zl_58, zl_59, zl_60, zl_61, zl_62, zl_63, zl_64, zl_97, zl_99, zl_100, zl_126, zl_255, zl_434, zl_496, zl_1000000, zl_100000, z_lt, z_le, z_eq, inB_z, z_div, Int.reduceToNat, Wp_some, Nx_l, Nx_r, cI_i, cV_v, cL_l, ite_t, ite_f, z_nn, toNat_c, bz_e0, h1]
    rw [bz_f (by rw [sg_out hin]; omega)]
theorem s_nextIs (hT : TW D n T) (hp : D.1 130 = z p) (hpn : p ≤ 100) {c : Nat} (hc : c < 1000) : S_X4_nextIs (z c) D = some (0, some (.int (z (bz (sg n T p = c)))), D) := by
  unfold S_X4_nextIs
  rw [hp, s_signIs hT (by omega) hc, cI_i]
  by_cases q : sg n T p = c
  · rw [bz_t q, na_1, if_pos rfl]
  · rw [bz_f q, na_0, if_pos rfl]
theorem s_nextDigit (hT : TW D n T) (hp : D.1 130 = z p) (hpn : p ≤ 100) : ∃ x : Int, S_X4_nextDigit D = some (0, some (.int (z x)), D) ∧ ((isD n T p ∧ x = sg n T p - 48) ∨ (¬ isD n T p ∧ x = -1)) := by
  have key : ∃ r, run T_X4_nextDigit FUEL 0 [] D = some r ∧ ∃ x : Int, r = (0, some (.int (z x)), D) ∧ ((isD n T p ∧ x = sg n T p - 48) ∨ (¬ isD n T p ∧ x = -1)) := by
    refine RunP.fin (c := 20) ?_ (by decide)
    refine RunP.go ?_
    show Wp (b_X4_nextDigit_0 _) _
    unfold b_X4_nextDigit_0
    simp only [Int.reduceToNat, Wp_some, Nx_l, Nx_r, cI_i, cV_v, cL_l, ite_t, ite_f, z_nn, toNat_c, bz_e0, z_add, z_sub, z_mul, z_neg, ite_T, ite_F, zl_0, zl_1, zl_2, zl_3, zl_4, zl_5, zl_6, zl_7, zl_8, zl_9, zl_10, zl_11, zl_12, zl_13, zl_14, zl_15, zl_16, zl_17, zl_18, zl_19, zl_20, zl_21, zl_22, zl_23, zl_24, zl_25, zl_26, zl_27, zl_28, zl_29, zl_30, zl_31, zl_32, zl_33, zl_34, zl_35, zl_36, zl_37, zl_38, zl_39, zl_40, zl_41, zl_42, zl_43, zl_44, zl_45, zl_46, zl_47, zl_48, zl_49, zl_50, zl_51, zl_52, zl_53, zl_54, zl_55, zl_56, zl_57, zl_58, zl_59, zl_60, zl_61, zl_62, zl_63, zl_64, zl_97, zl_99, zl_100, zl_126, zl_255, zl_434, zl_496, zl_1000000, zl_100000]
    refine RunP.loop (fun i ls D' => D' = D ∧ ls = [z i] ∧ ∀ j : Nat, j < i → sg n T p ≠ 48 + j) 10 1 1 ?_ ?_ 0 _ _ (by omega) ⟨rfl, rfl, fun j h => by omega⟩ (by omega)
    · rintro i ls D' c hi ⟨rfl, rfl, hn⟩ hk
      refine RunP.go ?_
      show Wp (b_X4_nextDigit_1 _ _) _
      unfold b_X4_nextDigit_1
      rw [show (9 : Int32) = z 9 from rfl, if_neg (by rw [z_lt (by omega) (by omega) (by omega) (by omega)]; omega), dgt_lt i hi, s_nextIs hT hp hpn (by omega), cI_i]
      by_cases q : sg n T p = ((48 + i : Nat) : Int)
      · rw [bz_t q, if_neg (by decide), Wp_some, Nx_r]
        exact ⟨i, rfl, Or.inl ⟨by unfold isD; omega, by omega⟩⟩
      · rw [bz_f q, if_pos (by decide), show (1 : Int32) = z 1 from rfl, z_add, Wp_some, Nx_l]
        refine hk _ _ ⟨rfl, rfl, fun j hj => ?_⟩
        by_cases e : j = i
        · subst e
          omega
        · exact hn j (by omega)
    · rintro ls D' ⟨rfl, rfl, hn⟩
      refine RunP.go ?_
      show Wp (b_X4_nextDigit_1 _ _) _
      unfold b_X4_nextDigit_1
      rw [show (9 : Int32) = z 9 from rfl, if_pos (by rw [z_lt (by omega) (by omega) (by omega) (by omega)]; omega), Wp_some, Nx_r]
      refine ⟨-1, rfl, Or.inr ⟨fun h => ?_, rfl⟩⟩
      unfold isD at h
      exact hn (sg n T p - 48).toNat (by omega) (by omega)
  obtain ⟨r, h1, x, rfl, h2⟩ := key
  exact ⟨x, h1, h2⟩
theorem s_readNumber (hT : TW D n T) (hp : D.1 130 = z p) (hpn : p ≤ n) {m : Nat} (hm : m = 1 ∨ m = 2) : S_X4_readNumber (z m) D = some (0, some (.int (z (if (numF n T m p).1 = true then ((numF n T m p).2.1 : Int) else -1))), setI D 130 (z (numF n T m p).2.2)) := by
  have h60 := hT.2.1
  unfold S_X4_readNumber
  rw [show (32 : Int32) = z ((32 : Nat) : Int) from rfl, s_nextIs hT hp (by omega) (by omega), cI_i]
  by_cases h : sg n T p = ((32 : Nat) : Int)
  · rw [bz_t h, if_neg (by decide), hp, show (1 : Int32) = z 1 from rfl, z_add]
    obtain ⟨x, q1, q2⟩ := s_nextDigit (D := setI D 130 (z ((p : Int) + 1))) (p := p + 1) (hT.pos _) (setI_same _ _ _) (by omega)
    rw [q1, cI_i]
    rcases q2 with ⟨hd, hx⟩ | ⟨hd, hx⟩
    · have hd' := hd
      unfold isD at hd'
      rw [if_neg (by rw [z_neg, z_eq (by omega) (by omega) (by omega) (by omega)]; omega), setI_two, setI_same, z_add]
      rcases hm with rfl | rfl
      · rw [if_pos (by decide), numF_1 h hd (by omega), if_pos rfl, hx, show (((sg n T (p + 1) - 48).toNat : Nat) : Int) = sg n T (p + 1) - 48 by omega]
        rfl
      · obtain ⟨y, r1, r2⟩ := s_nextDigit (D := setI D 130 (z ((p : Int) + 1 + 1))) (p := p + 2) (hT.pos _) (by rw [setI_same]; first | rfl | (congr 1; omega)) (by omega)
        rw [if_neg (by decide), r1, cI_i]
        rcases r2 with ⟨hd2, hy⟩ | ⟨hd2, hy⟩
        · have hd2' := hd2
          unfold isD at hd2'
          rw [if_neg (by rw [z_neg, z_eq (by omega) (by omega) (by omega) (by omega)]; omega), numF_2 h hd ⟨rfl, hd2⟩, if_pos rfl, setI_two, setI_same, z_add, show (10 : Int32) = z 10 from rfl, z_mul, z_add, hx, hy]
          dsimp only
          rw [show (sg n T (p + 1) - 48) * 10 + (sg n T (p + 2) - 48) = ((10 * (sg n T (p + 1) - 48).toNat + (sg n T (p + 2) - 48).toNat : Nat) : Int) by omega, show (p : Int) + 1 + 1 + 1 = ((p + 3 : Nat) : Int) by omega]
        · rw [hy, if_pos (by decide), numF_1 h hd (fun q => hd2 q.2), if_pos rfl, hx, show (((sg n T (p + 1) - 48).toNat : Nat) : Int) = sg n T (p + 1) - 48 by omega]
          rfl
    · rw [hx, if_pos (by decide), numF_n h hd, if_neg (by intro q; cases q)]
      rfl
  · rw [bz_f h, if_pos (by decide), numF_b h, if_neg (by intro q; cases q), ← hp, setI_self]
    rfl
theorem s_len0 : S_J0_length_8abf5_S0 D = some (0, some (.int (z (wlen 0))), D) := rfl
theorem s_chr0 {j : Nat} (hj : j < 4) : S_J0_charAt_5068e_S0 (z j) D = some (0, some (.int (z (wch 0 j))), D) := by
  have : j = 0 ∨ j = 1 ∨ j = 2 ∨ j = 3 := by omega
  rcases this with rfl | rfl | rfl | rfl <;> rfl
theorem s_common0 (hT : TW D n T) (hp : D.1 130 = z p) (hpn : p ≤ n) : ∃ k : Nat, S_X4_commonStart_text_S0 D = some (0, some (.int (z k)), D) ∧ k ≤ wlen 0 ∧ (∀ i, i < k → Mt n T p 0 i) ∧ (k < wlen 0 → ¬ Mt n T p 0 k) := by
  have h60 := hT.2.1
  have hl : wlen 0 = 4 := rfl
  have key : ∃ r, run T_X4_commonStart_text_S0 FUEL 0 [] D = some r ∧ ∃ k : Nat, r = (0, some (.int (z k)), D) ∧ k ≤ wlen 0 ∧ (∀ i, i < k → Mt n T p 0 i) ∧ (k < wlen 0 → ¬ Mt n T p 0 k) := by
    refine RunP.fin (c := 20) ?_ (by decide)
    refine RunP.go ?_
    show Wp (b_X4_commonStart_text_S0_0 _) _
    unfold b_X4_commonStart_text_S0_0
    simp only [Int.reduceToNat, Wp_some, Nx_l, Nx_r, cI_i, cV_v, cL_l, ite_t, ite_f, z_nn, toNat_c, bz_e0, z_add, z_sub, z_mul, z_neg, ite_T, ite_F, zl_0, zl_1, zl_2, zl_3, zl_4, zl_5, zl_6, zl_7, zl_8, zl_9, zl_10, zl_11, zl_12, zl_13, zl_14, zl_15, zl_16, zl_17, zl_18, zl_19, zl_20, zl_21, zl_22, zl_23, zl_24, zl_25, zl_26, zl_27, zl_28, zl_29, zl_30, zl_31, zl_32, zl_33, zl_34, zl_35, zl_36, zl_37, zl_38, zl_39, zl_40, zl_41, zl_42, zl_43, zl_44, zl_45, zl_46, zl_47, zl_48, zl_49, zl_50, zl_51, zl_52, zl_53, zl_54, zl_55, zl_56, zl_57, zl_58, zl_59, zl_60, zl_61, zl_62, zl_63, zl_64, zl_97, zl_99, zl_100, zl_126, zl_255, zl_434, zl_496, zl_1000000, zl_100000]
    refine RunP.loop (fun i ls D' => D' = D ∧ ls = [z i] ∧ ∀ j, j < i → Mt n T p 0 j) 4 1 1 ?_ ?_ 0 _ _ (by omega) ⟨rfl, rfl, fun j h => by omega⟩ (by omega)
    · rintro i ls D' c hi ⟨rfl, rfl, hn⟩ hk
      have hw : wch 0 i < 1000 := (by decide : ∀ i, i < 4 → wch 0 i < 1000) i hi
      refine RunP.go ?_
      show Wp (b_X4_commonStart_text_S0_1 _ _) _
      unfold b_X4_commonStart_text_S0_1
      rw [s_len0, cI_i, if_neg (by rw [z_le (by omega) (by omega) (by omega) (by omega)]; omega), s_chr0 hi, cI_i, hp, z_add, show ((p : Int) + i) = ((p + i : Nat) : Int) by omega, s_signIs hT (by omega) hw, cI_i]
      by_cases q : sg n T (p + i) = wch 0 i
      · rw [bz_t q, if_neg (by decide), show (1 : Int32) = z 1 from rfl, z_add, Wp_some, Nx_l]
        refine hk _ _ ⟨rfl, rfl, fun j hj => ?_⟩
        by_cases e : j = i
        · subst e
          exact q
        · exact hn j (by omega)
      · rw [bz_f q, if_pos (by decide), Wp_some, Nx_r]
        exact ⟨i, rfl, by omega, hn, fun _ => q⟩
    · rintro ls D' ⟨rfl, rfl, hn⟩
      refine RunP.go ?_
      show Wp (b_X4_commonStart_text_S0_1 _ _) _
      unfold b_X4_commonStart_text_S0_1
      rw [s_len0, cI_i, if_pos (by rw [z_le (by omega) (by omega) (by omega) (by omega)]; omega), s_len0, cI_i, Wp_some, Nx_r]
      exact ⟨wlen 0, rfl, Nat.le_refl _, hn, fun h => absurd h (Nat.lt_irrefl _)⟩
  obtain ⟨r, h1, k, rfl, h2⟩ := key
  exact ⟨k, h1, h2⟩
theorem s_len1 : S_J0_length_8abf5_S1 D = some (0, some (.int (z (wlen 1))), D) := rfl
theorem s_chr1 {j : Nat} (hj : j < 6) : S_J0_charAt_5068e_S1 (z j) D = some (0, some (.int (z (wch 1 j))), D) := by
  have : j = 0 ∨ j = 1 ∨ j = 2 ∨ j = 3 ∨ j = 4 ∨ j = 5 := by omega
  rcases this with rfl | rfl | rfl | rfl | rfl | rfl <;> rfl
theorem s_common1 (hT : TW D n T) (hp : D.1 130 = z p) (hpn : p ≤ n) : ∃ k : Nat, S_X4_commonStart_text_S1 D = some (0, some (.int (z k)), D) ∧ k ≤ wlen 1 ∧ (∀ i, i < k → Mt n T p 1 i) ∧ (k < wlen 1 → ¬ Mt n T p 1 k) := by
  have h60 := hT.2.1
  have hl : wlen 1 = 6 := rfl
  have key : ∃ r, run T_X4_commonStart_text_S1 FUEL 0 [] D = some r ∧ ∃ k : Nat, r = (0, some (.int (z k)), D) ∧ k ≤ wlen 1 ∧ (∀ i, i < k → Mt n T p 1 i) ∧ (k < wlen 1 → ¬ Mt n T p 1 k) := by
    refine RunP.fin (c := 20) ?_ (by decide)
    refine RunP.go ?_
    show Wp (b_X4_commonStart_text_S1_0 _) _
    unfold b_X4_commonStart_text_S1_0
    simp only [Int.reduceToNat, Wp_some, Nx_l, Nx_r, cI_i, cV_v, cL_l, ite_t, ite_f, z_nn, toNat_c, bz_e0, z_add, z_sub, z_mul, z_neg, ite_T, ite_F, zl_0, zl_1, zl_2, zl_3, zl_4, zl_5, zl_6, zl_7, zl_8, zl_9, zl_10, zl_11, zl_12, zl_13, zl_14, zl_15, zl_16, zl_17, zl_18, zl_19, zl_20, zl_21, zl_22, zl_23, zl_24, zl_25, zl_26, zl_27, zl_28, zl_29, zl_30, zl_31, zl_32, zl_33, zl_34, zl_35, zl_36, zl_37, zl_38, zl_39, zl_40, zl_41, zl_42, zl_43, zl_44, zl_45, zl_46, zl_47, zl_48, zl_49, zl_50, zl_51, zl_52, zl_53, zl_54, zl_55, zl_56, zl_57, zl_58, zl_59, zl_60, zl_61, zl_62, zl_63, zl_64, zl_97, zl_99, zl_100, zl_126, zl_255, zl_434, zl_496, zl_1000000, zl_100000]
    refine RunP.loop (fun i ls D' => D' = D ∧ ls = [z i] ∧ ∀ j, j < i → Mt n T p 1 j) 6 1 1 ?_ ?_ 0 _ _ (by omega) ⟨rfl, rfl, fun j h => by omega⟩ (by omega)
    · rintro i ls D' c hi ⟨rfl, rfl, hn⟩ hk
      have hw : wch 1 i < 1000 := (by decide : ∀ i, i < 6 → wch 1 i < 1000) i hi
      refine RunP.go ?_
      show Wp (b_X4_commonStart_text_S1_1 _ _) _
      unfold b_X4_commonStart_text_S1_1
      rw [s_len1, cI_i, if_neg (by rw [z_le (by omega) (by omega) (by omega) (by omega)]; omega), s_chr1 hi, cI_i, hp, z_add, show ((p : Int) + i) = ((p + i : Nat) : Int) by omega, s_signIs hT (by omega) hw, cI_i]
      by_cases q : sg n T (p + i) = wch 1 i
      · rw [bz_t q, if_neg (by decide), show (1 : Int32) = z 1 from rfl, z_add, Wp_some, Nx_l]
        refine hk _ _ ⟨rfl, rfl, fun j hj => ?_⟩
        by_cases e : j = i
        · subst e
          exact q
        · exact hn j (by omega)
      · rw [bz_f q, if_pos (by decide), Wp_some, Nx_r]
        exact ⟨i, rfl, by omega, hn, fun _ => q⟩
    · rintro ls D' ⟨rfl, rfl, hn⟩
      refine RunP.go ?_
      show Wp (b_X4_commonStart_text_S1_1 _ _) _
      unfold b_X4_commonStart_text_S1_1
      rw [s_len1, cI_i, if_pos (by rw [z_le (by omega) (by omega) (by omega) (by omega)]; omega), s_len1, cI_i, Wp_some, Nx_r]
      exact ⟨wlen 1, rfl, Nat.le_refl _, hn, fun h => absurd h (Nat.lt_irrefl _)⟩
  obtain ⟨r, h1, k, rfl, h2⟩ := key
  exact ⟨k, h1, h2⟩
theorem s_len2 : S_J0_length_8abf5_S2 D = some (0, some (.int (z (wlen 2))), D) := rfl
theorem s_chr2 {j : Nat} (hj : j < 6) : S_J0_charAt_5068e_S2 (z j) D = some (0, some (.int (z (wch 2 j))), D) := by
  have : j = 0 ∨ j = 1 ∨ j = 2 ∨ j = 3 ∨ j = 4 ∨ j = 5 := by omega
  rcases this with rfl | rfl | rfl | rfl | rfl | rfl <;> rfl
theorem s_common2 (hT : TW D n T) (hp : D.1 130 = z p) (hpn : p ≤ n) : ∃ k : Nat, S_X4_commonStart_text_S2 D = some (0, some (.int (z k)), D) ∧ k ≤ wlen 2 ∧ (∀ i, i < k → Mt n T p 2 i) ∧ (k < wlen 2 → ¬ Mt n T p 2 k) := by
  have h60 := hT.2.1
  have hl : wlen 2 = 6 := rfl
  have key : ∃ r, run T_X4_commonStart_text_S2 FUEL 0 [] D = some r ∧ ∃ k : Nat, r = (0, some (.int (z k)), D) ∧ k ≤ wlen 2 ∧ (∀ i, i < k → Mt n T p 2 i) ∧ (k < wlen 2 → ¬ Mt n T p 2 k) := by
    refine RunP.fin (c := 20) ?_ (by decide)
    refine RunP.go ?_
    show Wp (b_X4_commonStart_text_S2_0 _) _
    unfold b_X4_commonStart_text_S2_0
    simp only [Int.reduceToNat, Wp_some, Nx_l, Nx_r, cI_i, cV_v, cL_l, ite_t, ite_f, z_nn, toNat_c, bz_e0, z_add, z_sub, z_mul, z_neg, ite_T, ite_F, zl_0, zl_1, zl_2, zl_3, zl_4, zl_5, zl_6, zl_7, zl_8, zl_9, zl_10, zl_11, zl_12, zl_13, zl_14, zl_15, zl_16, zl_17, zl_18, zl_19, zl_20, zl_21, zl_22, zl_23, zl_24, zl_25, zl_26, zl_27, zl_28, zl_29, zl_30, zl_31, zl_32, zl_33, zl_34, zl_35, zl_36, zl_37, zl_38, zl_39, zl_40, zl_41, zl_42, zl_43, zl_44, zl_45, zl_46, zl_47, zl_48, zl_49, zl_50, zl_51, zl_52, zl_53, zl_54, zl_55, zl_56, zl_57, zl_58, zl_59, zl_60, zl_61, zl_62, zl_63, zl_64, zl_97, zl_99, zl_100, zl_126, zl_255, zl_434, zl_496, zl_1000000, zl_100000]
    refine RunP.loop (fun i ls D' => D' = D ∧ ls = [z i] ∧ ∀ j, j < i → Mt n T p 2 j) 6 1 1 ?_ ?_ 0 _ _ (by omega) ⟨rfl, rfl, fun j h => by omega⟩ (by omega)
    · rintro i ls D' c hi ⟨rfl, rfl, hn⟩ hk
      have hw : wch 2 i < 1000 := (by decide : ∀ i, i < 6 → wch 2 i < 1000) i hi
      refine RunP.go ?_
      show Wp (b_X4_commonStart_text_S2_1 _ _) _
      unfold b_X4_commonStart_text_S2_1
      rw [s_len2, cI_i, if_neg (by rw [z_le (by omega) (by omega) (by omega) (by omega)]; omega), s_chr2 hi, cI_i, hp, z_add, show ((p : Int) + i) = ((p + i : Nat) : Int) by omega, s_signIs hT (by omega) hw, cI_i]
      by_cases q : sg n T (p + i) = wch 2 i
      · rw [bz_t q, if_neg (by decide), show (1 : Int32) = z 1 from rfl, z_add, Wp_some, Nx_l]
        refine hk _ _ ⟨rfl, rfl, fun j hj => ?_⟩
        by_cases e : j = i
        · subst e
          exact q
        · exact hn j (by omega)
      · rw [bz_f q, if_pos (by decide), Wp_some, Nx_r]
        exact ⟨i, rfl, by omega, hn, fun _ => q⟩
    · rintro ls D' ⟨rfl, rfl, hn⟩
      refine RunP.go ?_
      show Wp (b_X4_commonStart_text_S2_1 _ _) _
      unfold b_X4_commonStart_text_S2_1
      rw [s_len2, cI_i, if_pos (by rw [z_le (by omega) (by omega) (by omega) (by omega)]; omega), s_len2, cI_i, Wp_some, Nx_r]
      exact ⟨wlen 2, rfl, Nat.le_refl _, hn, fun h => absurd h (Nat.lt_irrefl _)⟩
  obtain ⟨r, h1, k, rfl, h2⟩ := key
  exact ⟨k, h1, h2⟩
theorem s_len3 : S_J0_length_8abf5_S3 D = some (0, some (.int (z (wlen 3))), D) := rfl
theorem s_chr3 {j : Nat} (hj : j < 6) : S_J0_charAt_5068e_S3 (z j) D = some (0, some (.int (z (wch 3 j))), D) := by
  have : j = 0 ∨ j = 1 ∨ j = 2 ∨ j = 3 ∨ j = 4 ∨ j = 5 := by omega
  rcases this with rfl | rfl | rfl | rfl | rfl | rfl <;> rfl
theorem s_common3 (hT : TW D n T) (hp : D.1 130 = z p) (hpn : p ≤ n) : ∃ k : Nat, S_X4_commonStart_text_S3 D = some (0, some (.int (z k)), D) ∧ k ≤ wlen 3 ∧ (∀ i, i < k → Mt n T p 3 i) ∧ (k < wlen 3 → ¬ Mt n T p 3 k) := by
  have h60 := hT.2.1
  have hl : wlen 3 = 6 := rfl
  have key : ∃ r, run T_X4_commonStart_text_S3 FUEL 0 [] D = some r ∧ ∃ k : Nat, r = (0, some (.int (z k)), D) ∧ k ≤ wlen 3 ∧ (∀ i, i < k → Mt n T p 3 i) ∧ (k < wlen 3 → ¬ Mt n T p 3 k) := by
    refine RunP.fin (c := 20) ?_ (by decide)
    refine RunP.go ?_
    show Wp (b_X4_commonStart_text_S3_0 _) _
    unfold b_X4_commonStart_text_S3_0
    simp only [Int.reduceToNat, Wp_some, Nx_l, Nx_r, cI_i, cV_v, cL_l, ite_t, ite_f, z_nn, toNat_c, bz_e0, z_add, z_sub, z_mul, z_neg, ite_T, ite_F, zl_0, zl_1, zl_2, zl_3, zl_4, zl_5, zl_6, zl_7, zl_8, zl_9, zl_10, zl_11, zl_12, zl_13, zl_14, zl_15, zl_16, zl_17, zl_18, zl_19, zl_20, zl_21, zl_22, zl_23, zl_24, zl_25, zl_26, zl_27, zl_28, zl_29, zl_30, zl_31, zl_32, zl_33, zl_34, zl_35, zl_36, zl_37, zl_38, zl_39, zl_40, zl_41, zl_42, zl_43, zl_44, zl_45, zl_46, zl_47, zl_48, zl_49, zl_50, zl_51, zl_52, zl_53, zl_54, zl_55, zl_56, zl_57, zl_58, zl_59, zl_60, zl_61, zl_62, zl_63, zl_64, zl_97, zl_99, zl_100, zl_126, zl_255, zl_434, zl_496, zl_1000000, zl_100000]
    refine RunP.loop (fun i ls D' => D' = D ∧ ls = [z i] ∧ ∀ j, j < i → Mt n T p 3 j) 6 1 1 ?_ ?_ 0 _ _ (by omega) ⟨rfl, rfl, fun j h => by omega⟩ (by omega)
    · rintro i ls D' c hi ⟨rfl, rfl, hn⟩ hk
      have hw : wch 3 i < 1000 := (by decide : ∀ i, i < 6 → wch 3 i < 1000) i hi
      refine RunP.go ?_
      show Wp (b_X4_commonStart_text_S3_1 _ _) _
      unfold b_X4_commonStart_text_S3_1
      rw [s_len3, cI_i, if_neg (by rw [z_le (by omega) (by omega) (by omega) (by omega)]; omega), s_chr3 hi, cI_i, hp, z_add, show ((p : Int) + i) = ((p + i : Nat) : Int) by omega, s_signIs hT (by omega) hw, cI_i]
      by_cases q : sg n T (p + i) = wch 3 i
      · rw [bz_t q, if_neg (by decide), show (1 : Int32) = z 1 from rfl, z_add, Wp_some, Nx_l]
        refine hk _ _ ⟨rfl, rfl, fun j hj => ?_⟩
        by_cases e : j = i
        · subst e
          exact q
        · exact hn j (by omega)
      · rw [bz_f q, if_pos (by decide), Wp_some, Nx_r]
        exact ⟨i, rfl, by omega, hn, fun _ => q⟩
    · rintro ls D' ⟨rfl, rfl, hn⟩
      refine RunP.go ?_
      show Wp (b_X4_commonStart_text_S3_1 _ _) _
      unfold b_X4_commonStart_text_S3_1
      rw [s_len3, cI_i, if_pos (by rw [z_le (by omega) (by omega) (by omega) (by omega)]; omega), s_len3, cI_i, Wp_some, Nx_r]
      exact ⟨wlen 3, rfl, Nat.le_refl _, hn, fun h => absurd h (Nat.lt_irrefl _)⟩
  obtain ⟨r, h1, k, rfl, h2⟩ := key
  exact ⟨k, h1, h2⟩
theorem s_len4 : S_J0_length_8abf5_S4 D = some (0, some (.int (z (wlen 4))), D) := rfl
theorem s_chr4 {j : Nat} (hj : j < 3) : S_J0_charAt_5068e_S4 (z j) D = some (0, some (.int (z (wch 4 j))), D) := by
  have : j = 0 ∨ j = 1 ∨ j = 2 := by omega
  rcases this with rfl | rfl | rfl <;> rfl
theorem s_common4 (hT : TW D n T) (hp : D.1 130 = z p) (hpn : p ≤ n) : ∃ k : Nat, S_X4_commonStart_text_S4 D = some (0, some (.int (z k)), D) ∧ k ≤ wlen 4 ∧ (∀ i, i < k → Mt n T p 4 i) ∧ (k < wlen 4 → ¬ Mt n T p 4 k) := by
  have h60 := hT.2.1
  have hl : wlen 4 = 3 := rfl
  have key : ∃ r, run T_X4_commonStart_text_S4 FUEL 0 [] D = some r ∧ ∃ k : Nat, r = (0, some (.int (z k)), D) ∧ k ≤ wlen 4 ∧ (∀ i, i < k → Mt n T p 4 i) ∧ (k < wlen 4 → ¬ Mt n T p 4 k) := by
    refine RunP.fin (c := 20) ?_ (by decide)
    refine RunP.go ?_
    show Wp (b_X4_commonStart_text_S4_0 _) _
    unfold b_X4_commonStart_text_S4_0
    simp only [Int.reduceToNat, Wp_some, Nx_l, Nx_r, cI_i, cV_v, cL_l, ite_t, ite_f, z_nn, toNat_c, bz_e0, z_add, z_sub, z_mul, z_neg, ite_T, ite_F, zl_0, zl_1, zl_2, zl_3, zl_4, zl_5, zl_6, zl_7, zl_8, zl_9, zl_10, zl_11, zl_12, zl_13, zl_14, zl_15, zl_16, zl_17, zl_18, zl_19, zl_20, zl_21, zl_22, zl_23, zl_24, zl_25, zl_26, zl_27, zl_28, zl_29, zl_30, zl_31, zl_32, zl_33, zl_34, zl_35, zl_36, zl_37, zl_38, zl_39, zl_40, zl_41, zl_42, zl_43, zl_44, zl_45, zl_46, zl_47, zl_48, zl_49, zl_50, zl_51, zl_52, zl_53, zl_54, zl_55, zl_56, zl_57, zl_58, zl_59, zl_60, zl_61, zl_62, zl_63, zl_64, zl_97, zl_99, zl_100, zl_126, zl_255, zl_434, zl_496, zl_1000000, zl_100000]
    refine RunP.loop (fun i ls D' => D' = D ∧ ls = [z i] ∧ ∀ j, j < i → Mt n T p 4 j) 3 1 1 ?_ ?_ 0 _ _ (by omega) ⟨rfl, rfl, fun j h => by omega⟩ (by omega)
    · rintro i ls D' c hi ⟨rfl, rfl, hn⟩ hk
      have hw : wch 4 i < 1000 := (by decide : ∀ i, i < 3 → wch 4 i < 1000) i hi
      refine RunP.go ?_
      show Wp (b_X4_commonStart_text_S4_1 _ _) _
      unfold b_X4_commonStart_text_S4_1
      rw [s_len4, cI_i, if_neg (by rw [z_le (by omega) (by omega) (by omega) (by omega)]; omega), s_chr4 hi, cI_i, hp, z_add, show ((p : Int) + i) = ((p + i : Nat) : Int) by omega, s_signIs hT (by omega) hw, cI_i]
      by_cases q : sg n T (p + i) = wch 4 i
      · rw [bz_t q, if_neg (by decide), show (1 : Int32) = z 1 from rfl, z_add, Wp_some, Nx_l]
        refine hk _ _ ⟨rfl, rfl, fun j hj => ?_⟩
        by_cases e : j = i
        · subst e
          exact q
        · exact hn j (by omega)
      · rw [bz_f q, if_pos (by decide), Wp_some, Nx_r]
        exact ⟨i, rfl, by omega, hn, fun _ => q⟩
    · rintro ls D' ⟨rfl, rfl, hn⟩
      refine RunP.go ?_
      show Wp (b_X4_commonStart_text_S4_1 _ _) _
      unfold b_X4_commonStart_text_S4_1
      rw [s_len4, cI_i, if_pos (by rw [z_le (by omega) (by omega) (by omega) (by omega)]; omega), s_len4, cI_i, Wp_some, Nx_r]
      exact ⟨wlen 4, rfl, Nat.le_refl _, hn, fun h => absurd h (Nat.lt_irrefl _)⟩
  obtain ⟨r, h1, k, rfl, h2⟩ := key
  exact ⟨k, h1, h2⟩
theorem s_len5 : S_J0_length_8abf5_S5 D = some (0, some (.int (z (wlen 5))), D) := rfl
theorem s_chr5 {j : Nat} (hj : j < 5) : S_J0_charAt_5068e_S5 (z j) D = some (0, some (.int (z (wch 5 j))), D) := by
  have : j = 0 ∨ j = 1 ∨ j = 2 ∨ j = 3 ∨ j = 4 := by omega
  rcases this with rfl | rfl | rfl | rfl | rfl <;> rfl
theorem s_common5 (hT : TW D n T) (hp : D.1 130 = z p) (hpn : p ≤ n) : ∃ k : Nat, S_X4_commonStart_text_S5 D = some (0, some (.int (z k)), D) ∧ k ≤ wlen 5 ∧ (∀ i, i < k → Mt n T p 5 i) ∧ (k < wlen 5 → ¬ Mt n T p 5 k) := by
  have h60 := hT.2.1
  have hl : wlen 5 = 5 := rfl
  have key : ∃ r, run T_X4_commonStart_text_S5 FUEL 0 [] D = some r ∧ ∃ k : Nat, r = (0, some (.int (z k)), D) ∧ k ≤ wlen 5 ∧ (∀ i, i < k → Mt n T p 5 i) ∧ (k < wlen 5 → ¬ Mt n T p 5 k) := by
    refine RunP.fin (c := 20) ?_ (by decide)
    refine RunP.go ?_
    show Wp (b_X4_commonStart_text_S5_0 _) _
    unfold b_X4_commonStart_text_S5_0
    simp only [Int.reduceToNat, Wp_some, Nx_l, Nx_r, cI_i, cV_v, cL_l, ite_t, ite_f, z_nn, toNat_c, bz_e0, z_add, z_sub, z_mul, z_neg, ite_T, ite_F, zl_0, zl_1, zl_2, zl_3, zl_4, zl_5, zl_6, zl_7, zl_8, zl_9, zl_10, zl_11, zl_12, zl_13, zl_14, zl_15, zl_16, zl_17, zl_18, zl_19, zl_20, zl_21, zl_22, zl_23, zl_24, zl_25, zl_26, zl_27, zl_28, zl_29, zl_30, zl_31, zl_32, zl_33, zl_34, zl_35, zl_36, zl_37, zl_38, zl_39, zl_40, zl_41, zl_42, zl_43, zl_44, zl_45, zl_46, zl_47, zl_48, zl_49, zl_50, zl_51, zl_52, zl_53, zl_54, zl_55, zl_56, zl_57, zl_58, zl_59, zl_60, zl_61, zl_62, zl_63, zl_64, zl_97, zl_99, zl_100, zl_126, zl_255, zl_434, zl_496, zl_1000000, zl_100000]
    refine RunP.loop (fun i ls D' => D' = D ∧ ls = [z i] ∧ ∀ j, j < i → Mt n T p 5 j) 5 1 1 ?_ ?_ 0 _ _ (by omega) ⟨rfl, rfl, fun j h => by omega⟩ (by omega)
    · rintro i ls D' c hi ⟨rfl, rfl, hn⟩ hk
      have hw : wch 5 i < 1000 := (by decide : ∀ i, i < 5 → wch 5 i < 1000) i hi
      refine RunP.go ?_
      show Wp (b_X4_commonStart_text_S5_1 _ _) _
      unfold b_X4_commonStart_text_S5_1
      rw [s_len5, cI_i, if_neg (by rw [z_le (by omega) (by omega) (by omega) (by omega)]; omega), s_chr5 hi, cI_i, hp, z_add, show ((p : Int) + i) = ((p + i : Nat) : Int) by omega, s_signIs hT (by omega) hw, cI_i]
      by_cases q : sg n T (p + i) = wch 5 i
      · rw [bz_t q, if_neg (by decide), show (1 : Int32) = z 1 from rfl, z_add, Wp_some, Nx_l]
        refine hk _ _ ⟨rfl, rfl, fun j hj => ?_⟩
        by_cases e : j = i
        · subst e
          exact q
        · exact hn j (by omega)
      · rw [bz_f q, if_pos (by decide), Wp_some, Nx_r]
        exact ⟨i, rfl, by omega, hn, fun _ => q⟩
    · rintro ls D' ⟨rfl, rfl, hn⟩
      refine RunP.go ?_
      show Wp (b_X4_commonStart_text_S5_1 _ _) _
      unfold b_X4_commonStart_text_S5_1
      rw [s_len5, cI_i, if_pos (by rw [z_le (by omega) (by omega) (by omega) (by omega)]; omega), s_len5, cI_i, Wp_some, Nx_r]
      exact ⟨wlen 5, rfl, Nat.le_refl _, hn, fun h => absurd h (Nat.lt_irrefl _)⟩
  obtain ⟨r, h1, k, rfl, h2⟩ := key
  exact ⟨k, h1, h2⟩
theorem s_len6 : S_J0_length_8abf5_S6 D = some (0, some (.int (z (wlen 6))), D) := rfl
theorem s_chr6 {j : Nat} (hj : j < 4) : S_J0_charAt_5068e_S6 (z j) D = some (0, some (.int (z (wch 6 j))), D) := by
  have : j = 0 ∨ j = 1 ∨ j = 2 ∨ j = 3 := by omega
  rcases this with rfl | rfl | rfl | rfl <;> rfl
theorem s_common6 (hT : TW D n T) (hp : D.1 130 = z p) (hpn : p ≤ n) : ∃ k : Nat, S_X4_commonStart_text_S6 D = some (0, some (.int (z k)), D) ∧ k ≤ wlen 6 ∧ (∀ i, i < k → Mt n T p 6 i) ∧ (k < wlen 6 → ¬ Mt n T p 6 k) := by
  have h60 := hT.2.1
  have hl : wlen 6 = 4 := rfl
  have key : ∃ r, run T_X4_commonStart_text_S6 FUEL 0 [] D = some r ∧ ∃ k : Nat, r = (0, some (.int (z k)), D) ∧ k ≤ wlen 6 ∧ (∀ i, i < k → Mt n T p 6 i) ∧ (k < wlen 6 → ¬ Mt n T p 6 k) := by
    refine RunP.fin (c := 20) ?_ (by decide)
    refine RunP.go ?_
    show Wp (b_X4_commonStart_text_S6_0 _) _
    unfold b_X4_commonStart_text_S6_0
    simp only [Int.reduceToNat, Wp_some, Nx_l, Nx_r, cI_i, cV_v, cL_l, ite_t, ite_f, z_nn, toNat_c, bz_e0, z_add, z_sub, z_mul, z_neg, ite_T, ite_F, zl_0, zl_1, zl_2, zl_3, zl_4, zl_5, zl_6, zl_7, zl_8, zl_9, zl_10, zl_11, zl_12, zl_13, zl_14, zl_15, zl_16, zl_17, zl_18, zl_19, zl_20, zl_21, zl_22, zl_23, zl_24, zl_25, zl_26, zl_27, zl_28, zl_29, zl_30, zl_31, zl_32, zl_33, zl_34, zl_35, zl_36, zl_37, zl_38, zl_39, zl_40, zl_41, zl_42, zl_43, zl_44, zl_45, zl_46, zl_47, zl_48, zl_49, zl_50, zl_51, zl_52, zl_53, zl_54, zl_55, zl_56, zl_57, zl_58, zl_59, zl_60, zl_61, zl_62, zl_63, zl_64, zl_97, zl_99, zl_100, zl_126, zl_255, zl_434, zl_496, zl_1000000, zl_100000]
    refine RunP.loop (fun i ls D' => D' = D ∧ ls = [z i] ∧ ∀ j, j < i → Mt n T p 6 j) 4 1 1 ?_ ?_ 0 _ _ (by omega) ⟨rfl, rfl, fun j h => by omega⟩ (by omega)
    · rintro i ls D' c hi ⟨rfl, rfl, hn⟩ hk
      have hw : wch 6 i < 1000 := (by decide : ∀ i, i < 4 → wch 6 i < 1000) i hi
      refine RunP.go ?_
      show Wp (b_X4_commonStart_text_S6_1 _ _) _
      unfold b_X4_commonStart_text_S6_1
      rw [s_len6, cI_i, if_neg (by rw [z_le (by omega) (by omega) (by omega) (by omega)]; omega), s_chr6 hi, cI_i, hp, z_add, show ((p : Int) + i) = ((p + i : Nat) : Int) by omega, s_signIs hT (by omega) hw, cI_i]
      by_cases q : sg n T (p + i) = wch 6 i
      · rw [bz_t q, if_neg (by decide), show (1 : Int32) = z 1 from rfl, z_add, Wp_some, Nx_l]
        refine hk _ _ ⟨rfl, rfl, fun j hj => ?_⟩
        by_cases e : j = i
        · subst e
          exact q
        · exact hn j (by omega)
      · rw [bz_f q, if_pos (by decide), Wp_some, Nx_r]
        exact ⟨i, rfl, by omega, hn, fun _ => q⟩
    · rintro ls D' ⟨rfl, rfl, hn⟩
      refine RunP.go ?_
      show Wp (b_X4_commonStart_text_S6_1 _ _) _
      unfold b_X4_commonStart_text_S6_1
      rw [s_len6, cI_i, if_pos (by rw [z_le (by omega) (by omega) (by omega) (by omega)]; omega), s_len6, cI_i, Wp_some, Nx_r]
      exact ⟨wlen 6, rfl, Nat.le_refl _, hn, fun h => absurd h (Nat.lt_irrefl _)⟩
  obtain ⟨r, h1, k, rfl, h2⟩ := key
  exact ⟨k, h1, h2⟩
theorem s_readWord (hT : TW D n T) (hp : D.1 130 = z p) (hpn : p ≤ n) : (∃ w, WOk n T p w ∧ S_X4_readWord D = some (0, some (.ref (1000 + w)), setI D 130 (z ((p + wlen w : Nat))))) ∨ ∃ m, WNo n T p m ∧ S_X4_readWord D = some (0, some .null, setI D 130 (z ((p + m : Nat)))) := by
  have h60 := hT.2.1
  have key : ∃ r, run T_X4_readWord FUEL 0 [] D = some r ∧ ((∃ w, WOk n T p w ∧ r = (0, some (.ref (1000 + w)), setI D 130 (z ((p + wlen w : Nat))))) ∨ ∃ m, WNo n T p m ∧ r = (0, some .null, setI D 130 (z ((p + m : Nat))))) := by
    refine RunP.fin (c := 20) ?_ (by decide)
    refine RunP.go ?_
    show Wp (b_X4_readWord_0 _) _
    unfold b_X4_readWord_0
    simp only [Int.reduceToNat, Wp_some, Nx_l, Nx_r, cI_i, cV_v, cL_l, ite_t, ite_f, z_nn, toNat_c, bz_e0, z_add, z_sub, z_mul, z_neg, ite_T, ite_F, zl_0, zl_1, zl_2, zl_3, zl_4, zl_5, zl_6, zl_7, zl_8, zl_9, zl_10, zl_11, zl_12, zl_13, zl_14, zl_15, zl_16, zl_17, zl_18, zl_19, zl_20, zl_21, zl_22, zl_23, zl_24, zl_25, zl_26, zl_27, zl_28, zl_29, zl_30, zl_31, zl_32, zl_33, zl_34, zl_35, zl_36, zl_37, zl_38, zl_39, zl_40, zl_41, zl_42, zl_43, zl_44, zl_45, zl_46, zl_47, zl_48, zl_49, zl_50, zl_51, zl_52, zl_53, zl_54, zl_55, zl_56, zl_57, zl_58, zl_59, zl_60, zl_61, zl_62, zl_63, zl_64, zl_97, zl_99, zl_100, zl_126, zl_255, zl_434, zl_496, zl_1000000, zl_100000]
    refine RunP.loop (fun i ls D' => D' = D ∧ ∃ m : Nat, ls = [z m, z 7, z i] ∧ m ≤ 6 ∧ (i = 0 → m = 0) ∧ (0 < i → ∃ w, w < 7 ∧ m < wlen w ∧ ∀ j, j < m → Mt n T p w j) ∧ ∀ w, w < i → ∃ k, k ≤ m ∧ k < wlen w ∧ ¬ Mt n T p w k) 7 1 1 ?_ ?_ 0 _ _ (by omega) ⟨rfl, 0, rfl, by omega, fun _ => rfl, fun h => by omega, fun w h => by omega⟩ (by omega)
    · rintro i ls D' c hi ⟨rfl, m, rfl, hm, hm0, hma, hmb⟩ hk
      refine RunP.go ?_
      show Wp (b_X4_readWord_1 _ _ _ _) _
      have tail : ∀ (w k : Nat), w < 7 → k ≤ wlen w → (∀ i, i < k → Mt n T p w i) → (k < wlen w → ¬ Mt n T p w k) → i = w → Wp (if z (k : Nat) = z (wlen w) then some (Sum.inr (0, some (Value.ref (1000 + w)), setI D' 130 (D'.1 130 + z (k : Nat)))) else some (Sum.inl (1, [if z (m : Nat) < z (k : Nat) then z (k : Nat) else z (m : Nat), z 7, z (w : Nat) + z 1], D')) : Option ((Nat × List Int32 × DD) ⊕ RT)) (Nx T_X4_readWord c (fun r => (∃ w, WOk n T p w ∧ r = (0, some (.ref (1000 + w)), setI D' 130 (z ((p + wlen w : Nat))))) ∨ ∃ m, WNo n T p m ∧ r = (0, some .null, setI D' 130 (z ((p + m : Nat)))))) := by
        intro w k hw hk1 hk2 hk3 hiw
        have hl6 : wlen w ≤ 6 := (by decide : ∀ w, w < 7 → wlen w ≤ 6) w hw
        by_cases e : k = wlen w
        · rw [if_pos (by rw [e]), Wp_some, Nx_r, hp, z_add, e]
          rw [e] at hk2
          exact Or.inl ⟨w, ⟨hw, hk2⟩, rfl⟩
        · have hno := hk3 (by omega)
          rw [if_neg (by rw [z_eq (by omega) (by omega) (by omega) (by omega)]; omega), Wp_some, Nx_l, z_add]
          by_cases hlt : m < k
          · rw [if_pos (by rw [z_lt (by omega) (by omega) (by omega) (by omega)]; omega)]
            refine hk _ _ ⟨rfl, k, by rw [hiw]; rfl, by omega, fun h => by omega, fun _ => ⟨w, hw, by omega, hk2⟩, fun w' hw' => ?_⟩
            by_cases e2 : w' = w
            · rw [e2]
              exact ⟨k, Nat.le_refl _, by omega, hno⟩
            · obtain ⟨k', a1, a2, a3⟩ := hmb w' (by omega)
              exact ⟨k', by omega, a2, a3⟩
          · rw [if_neg (by rw [z_lt (by omega) (by omega) (by omega) (by omega)]; omega)]
            refine hk _ _ ⟨rfl, m, by rw [hiw]; rfl, hm, fun h => by omega, fun _ => ?_, fun w' hw' => ?_⟩
            · by_cases h0 : 0 < i
              · exact hma h0
              · have := hm0 (by omega)
                exact ⟨w, hw, by omega, fun j hj => by omega⟩
            · by_cases e2 : w' = w
              · rw [e2]
                exact ⟨k, by omega, by omega, hno⟩
              · exact hmb w' (by omega)
      unfold b_X4_readWord_1
      have : i = 0 ∨ i = 1 ∨ i = 2 ∨ i = 3 ∨ i = 4 ∨ i = 5 ∨ i = 6 := by omega
      rcases this with rfl | rfl | rfl | rfl | rfl | rfl | rfl
      · obtain ⟨k, q1, q2, q3, q4⟩ := s_common0 hT hp hpn
        have hl : wlen 0 = 4 := rfl
        rw [if_neg (by decide), if_pos (by decide), q1, cI_i, s_len0, cI_i]
        exact tail 0 k (by decide) q2 q3 q4 rfl
      · obtain ⟨k, q1, q2, q3, q4⟩ := s_common1 hT hp hpn
        have hl : wlen 1 = 6 := rfl
        rw [if_neg (by decide), if_neg (by decide), if_pos (by decide), q1, cI_i, s_len1, cI_i]
        exact tail 1 k (by decide) q2 q3 q4 rfl
      · obtain ⟨k, q1, q2, q3, q4⟩ := s_common2 hT hp hpn
        have hl : wlen 2 = 6 := rfl
        rw [if_neg (by decide), if_neg (by decide), if_neg (by decide), if_pos (by decide), q1, cI_i, s_len2, cI_i]
        exact tail 2 k (by decide) q2 q3 q4 rfl
      · obtain ⟨k, q1, q2, q3, q4⟩ := s_common3 hT hp hpn
        have hl : wlen 3 = 6 := rfl
        rw [if_neg (by decide), if_neg (by decide), if_neg (by decide), if_neg (by decide), if_pos (by decide), q1, cI_i, s_len3, cI_i]
        exact tail 3 k (by decide) q2 q3 q4 rfl
      · obtain ⟨k, q1, q2, q3, q4⟩ := s_common4 hT hp hpn
        have hl : wlen 4 = 3 := rfl
        rw [if_neg (by decide), if_neg (by decide), if_neg (by decide), if_neg (by decide), if_neg (by decide), if_pos (by decide), q1, cI_i, s_len4, cI_i]
        exact tail 4 k (by decide) q2 q3 q4 rfl
      · obtain ⟨k, q1, q2, q3, q4⟩ := s_common5 hT hp hpn
        have hl : wlen 5 = 5 := rfl
        rw [if_neg (by decide), if_neg (by decide), if_neg (by decide), if_neg (by decide), if_neg (by decide), if_neg (by decide), if_pos (by decide), q1, cI_i, s_len5, cI_i]
        exact tail 5 k (by decide) q2 q3 q4 rfl
      · obtain ⟨k, q1, q2, q3, q4⟩ := s_common6 hT hp hpn
        have hl : wlen 6 = 4 := rfl
        rw [if_neg (by decide), if_neg (by decide), if_neg (by decide), if_neg (by decide), if_neg (by decide), if_neg (by decide), if_neg (by decide), if_pos (by decide), q1, cI_i, s_len6, cI_i]
        exact tail 6 k (by decide) q2 q3 q4 rfl
    · rintro ls D' ⟨rfl, m, rfl, hm, hm0, hma, hmb⟩
      refine RunP.go ?_
      show Wp (b_X4_readWord_1 _ _ _ _) _
      unfold b_X4_readWord_1
      rw [if_pos (by decide), Wp_some, Nx_r, hp, z_add]
      exact Or.inr ⟨m, ⟨hma (by omega), hmb⟩, rfl⟩
  obtain ⟨r, h1, h2⟩ := key
  rcases h2 with ⟨w, a1, rfl⟩ | ⟨m, a1, rfl⟩
  · exact Or.inl ⟨w, a1, h1⟩
  · exact Or.inr ⟨m, a1, h1⟩
end LL
