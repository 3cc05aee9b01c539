/-! pure: the text, the reference's side -/
def wat (w : Nat) : Nat := [0, 4, 10, 16, 22, 25, 30, 34].getD w 0
theorem wf_at : ∀ w, w < 8 → wordAtRow w = z (wat w) := by decide +kernel
theorem wf_ch : ∀ w, w < 7 → ∀ j, j < 6 → j < wlen w → wordsRow (wat w + j) = z (wch w j) ∧ wat w + j < 34 ∧ wch w j < 1000 := by decide +kernel
theorem wf_len : ∀ w, w < 7 → wat (w + 1) = wat w + wlen w ∧ wat w < 34 := by decide
theorem wf_dif : ∀ w, w < 7 → ∀ x, x < 7 → w ≠ x → ∃ j, j < 6 ∧ j < wlen w ∧ j < wlen x ∧ wch w j ≠ wch x j := by decide +kernel
/-- the reader stands at q; b: something was wrong -/
def Rp (D : DD) (q : Nat) (b : Nat) : DD := setI (setI D 149 (z b)) 146 (z q)
theorem Rp_Rp (D : DD) (p q a b : Nat) : Rp (Rp D p a) q b = Rp D q b := by
  unfold Rp setI
  dsimp only
  congr 1
  funext j
  unfold va_up
  by_cases h1 : j = 146 <;> by_cases h2 : j = 149 <;> simp [h1, h2]
theorem Rp_set (D : DD) (p q a b : Nat) : setI (setI (Rp D p a) 149 (z b)) 146 (z q) = Rp D q b := Rp_Rp D p q a b
theorem Rp_149 (D : DD) (p a b : Nat) : setI (Rp D p a) 149 (z b) = Rp D p b := by
  unfold Rp setI
  dsimp only
  congr 1
  funext j
  unfold va_up
  by_cases h1 : j = 149
  · rw [if_pos h1, if_neg (by omega), if_pos h1]
  · rw [if_neg h1]
    by_cases h2 : j = 146
    · rw [if_pos h2, if_pos h2]
    · rw [if_neg h2, if_neg h2, if_neg h1, if_neg h1]
theorem Rp_146 (D : DD) (p q a : Nat) : setI (Rp D p a) 146 (z q) = Rp D q a := by
  unfold Rp
  rw [setI_two]
/-- the reference's text -/
def RX (D : DD) (n : Nat) (T : Nat → Nat) : Prop := D.1 147 = z n ∧ n ≤ 60 ∧ (∀ i, i < n → D.2.2.1 79 i = z (T i)) ∧ (∀ i, i < n → 32 ≤ T i ∧ T i ≤ 126) ∧ WM D
def lf (n : Nat) (T : Nat → Nat) (p u w : Nat) : Bool := (List.range u).all (fun i => decide (i < wlen w) && decide (sg n T (p + i) = wch w i))
theorem lf_iff {n : Nat} {T : Nat → Nat} {p u w : Nat} : lf n T p u w = true ↔ ∀ i, i < u → i < wlen w ∧ Mt n T p w i := by
  unfold lf Mt
  rw [List.all_eq_true]
  constructor
  · intro h i hi
    have := h i (List.mem_range.mpr hi)
    rw [Bool.and_eq_true, decide_eq_true_eq, decide_eq_true_eq] at this
    exact this
  · intro h i hi
    rw [Bool.and_eq_true, decide_eq_true_eq, decide_eq_true_eq]
    exact h i (List.mem_range.mp hi)
theorem lf_s (n : Nat) (T : Nat → Nat) (p u w : Nat) : lf n T p (u + 1) w = (lf n T p u w && (decide (u < wlen w) && decide (sg n T (p + u) = wch w u))) := by
  refine bool_iff ?_
  rw [Bool.and_eq_true, Bool.and_eq_true, decide_eq_true_eq, decide_eq_true_eq, lf_iff, lf_iff]
  constructor
  · intro h
    exact ⟨fun i hi => h i (by omega), h u (by omega)⟩
  · rintro ⟨h1, h2⟩ i hi
    by_cases e : i = u
    · rw [e]
      exact h2
    · exact h1 i (by omega)
theorem zb_and1 (b : Bool) : z (zb b) &&& z 1 = z (zb b) := by cases b <;> decide
theorem zb_and0 (b : Bool) : z (zb b) &&& z 0 = z 0 := by cases b <;> decide
theorem zb_or1 (b : Bool) : z (zb b) ||| z 1 = z 1 := by cases b <;> decide
theorem zb_or0 (b : Bool) : z (zb b) ||| z 0 = z (zb b) := by cases b <;> decide
theorem zb_e1 (b : Bool) : (z (zb b) = z 1) = (b = true) := by cases b <;> decide
def anyB (f : Nat → Bool) : Nat → Bool
  | 0 => false
  | w + 1 => anyB f w || f w
theorem anyB_s (f : Nat → Bool) (w : Nat) : anyB f (w + 1) = (anyB f w || f w) := rfl
theorem anyB_iff {f : Nat → Bool} : ∀ w, anyB f w = true ↔ ∃ x, x < w ∧ f x = true
  | 0 => ⟨fun h => (by cases h), fun ⟨x, h, _⟩ => absurd h (Nat.not_lt_zero _)⟩
  | w + 1 => by
    rw [anyB_s, Bool.or_eq_true, anyB_iff w]
    constructor
    · rintro (⟨x, h1, h2⟩ | h)
      · exact ⟨x, by omega, h2⟩
      · exact ⟨w, by omega, h⟩
    · rintro ⟨x, h1, h2⟩
      by_cases e : x = w
      · exact Or.inr (e ▸ h2)
      · exact Or.inl ⟨x, by omega, h2⟩
section LL
variable {D : DD} {n : Nat} {T : Nat → Nat} {p u c : Nat} {g : Nat → Int32} {P : RT → Prop}
theorem RX.rp (h : RX D n T) (q b : Nat) : RX (Rp D q b) n T := h
theorem RX.r81 (h : RX D n T) (g : Nat → Int32) : RX (setA D 81 g) n T := h
theorem m_sign (h : RX D n T) (hp : D.1 146 = z p) (hpn : p ≤ 200) : S_X13_sign D = some (0, some (.int (z (sg n T p))), D) := by
  obtain ⟨h1, h2, h3, h4, -⟩ := h
  unfold S_X13_sign
  by_cases hin : p < n
  · have h5 := h3 p hin
    simp (disch := omega) only [z_add, z_sub, z_mul, z_neg, ite_T, ite_F, zl_0, zl_1, zl_2, zl_3, zl_4, zl_5, zl_6, zl_7, zl_8, zl_9, zl_10, zl_11, zl_12, zl_13, zl_14, zl_15, zl_16, zl_17, zl_18, zl_19, zl_20, zl_21, zl_22, zl_23, zl_24, zl_25, zl_26, zl_27, zl_28, zl_29, zl_30, zl_31, zl_32, zl_33, zl_34, zl_35, zl_36, zl_37, zl_38, zl_39, zl_40, zl_41, zl_42, zl_43, zl_44, zl_45, zl_46, zl_47, zl_48, zl_49, zl_50, zl_51, zl_52, zl_53, zl_54, zl_55, zl_56, zl_57, zl_58, zl_59, zl_60, zl_61, zl_62, zl_63, zl_64, zl_97, zl_99, zl_100, zl_126, zl_255, zl_434, zl_496, zl_1000000, zl_100000, z_lt, z_le, z_eq, inB_z, z_div, Int.reduceToNat, Wp_some, Nx_l, Nx_r, cI_i, cV_v, cL_l, ite_t, ite_f, z_nn, toNat_c, bz_e0, h1, hp, h5, sg_in hin]
  · simp (disch := omega) only [z_add, z_sub, z_mul, z_neg, ite_T, ite_F, zl_0, zl_1, zl_2, zl_3, zl_4, zl_5, zl_6, zl_7, zl_8, zl_9, zl_10, zl_11, zl_12, zl_13, zl_14, zl_15, zl_16, zl_17, zl_18, zl_19, zl_20, zl_21, zl_22, zl_23, zl_24, zl_25, zl_26, zl_27, zl_28, zl_29, zl_30, zl_31, zl_32, zl_33, zl_34, zl_35, zl_36, zl_37, zl_38, zl_39, zl_40, zl_41, zl_42, zl_43, zl_44, zl_45, zl_46, zl_47, zl_48, zl_49, zl_50, zl_51, zl_52, zl_53, zl_54, zl_55, zl_56, zl_57, zl_58, zl_59, zl_60, zl_61, zl_62, zl_63, zl_64, zl_97, zl_99, zl_100, zl_126, zl_255, zl_434, zl_496, zl_1000000, zl_100000, z_lt, z_le, z_eq, inB_z, z_div, Int.reduceToNat, Wp_some, Nx_l, Nx_r, cI_i, cV_v, cL_l, ite_t, ite_f, z_nn, toNat_c, bz_e0, h1, hp, sg_out hin]
theorem m_expects (h : RX D n T) (hpn : p ≤ 200) {c : Nat} (hc : c < 1000) : S_X13_expects (z c) (Rp D p 0) = some (0, none, if sg n T p = c then Rp D (p + 1) 0 else Rp D p 1) := by
  have e1 : (Rp D p 0).1 149 = z 0 := rfl
  have e2 : (Rp D p 0).1 146 = z p := rfl
  have hlo := sg_lo n T p
  have hs := m_sign (h.rp p 0) e2 hpn
  have hhi : sg n T p ≤ 126 := by
    by_cases hin : p < n
    · have := h.2.2.2.1 p hin
      rw [sg_in hin]
      omega
    · rw [sg_out hin]
      omega
  unfold S_X13_expects
  rw [e1, if_pos (by decide), hs, cI_i, e2]
  by_cases q : sg n T p = c
  · rw [if_pos (by rw [q]), if_pos rfl, if_pos q, show (0 : Int32) = z ((0 : Nat) : Int) from rfl, show (1 : Int32) = z 1 from rfl, z_add]
    exact congrArg (fun x => some (0, none, x)) (Rp_set D p (p + 1) 0 0)
  · rw [if_neg (by rw [z_eq (by omega) (by omega) (by omega) (by omega)]; exact q), if_neg (by decide), if_neg q, show (1 : Int32) = z ((1 : Nat) : Int) from rfl, show (0 : Int32) = z 0 from rfl, z_add, Int.add_zero]
    exact congrArg (fun x => some (0, none, x)) (Rp_set D p p 0 1)
theorem m_number (h : RX D n T) (hpn : p ≤ n) {m : Nat} (hm : m = 1 ∨ m = 2) : ∃ x, S_X13_number (z m) (Rp D p 0) = some (0, some (.int x), Rp D (numF n T m p).2.2 (if (numF n T m p).1 = true then 0 else 1)) ∧ ((numF n T m p).1 = true → x = z (numF n T m p).2.1) := by
  have h60 := h.2.1
  have key : ∃ r, run T_X13_number FUEL 0 [z m] (Rp D p 0) = some r ∧ ∃ x, r = (0, some (.int x), Rp D (numF n T m p).2.2 (if (numF n T m p).1 = true then 0 else 1)) ∧ ((numF n T m p).1 = true → x = z (numF n T m p).2.1) := by
    refine RunP.fin (c := 10) ?_ (by decide)
    refine RunP.go ?_
    show Wp (b_X13_number_0 _ _) _
    unfold b_X13_number_0
    rw [show (32 : Int32) = z ((32 : Nat) : Int) from rfl, m_expects h (by omega) (by omega), cV_v, show (0 : Int32) = z 0 from rfl, Wp_some, Nx_l]
    have fin0 : ∀ (q : Nat) (b : Nat), b ≤ 1 → b_X13_number_2 (z 0) (z 0) (Rp D q b) = some (.inr (0, some (.int (z 0)), Rp D q 1)) := by
      intro q b hb
      have e : (Rp D q b).1 149 ||| (1 : Int32) = z ((1 : Nat) : Int) := by
        show z (b : Nat) ||| (1 : Int32) = _
        have : b = 0 ∨ b = 1 := by omega
        rcases this with rfl | rfl <;> decide
      unfold b_X13_number_2
      rw [if_pos (show z 0 = 0 from rfl), e, if_pos (Or.inr (by decide)), Rp_149]
    have fin1 : ∀ (x : Int32) (k q : Nat), 0 < k → k < 5 → b_X13_number_2 x (z k) (Rp D q 0) = some (.inr (0, some (.int x), Rp D q 0)) := by
      intro x k q hk hk5
      have e : (Rp D q 0).1 149 ||| (0 : Int32) = z ((0 : Nat) : Int) := by
        show z ((0 : Nat) : Int) ||| (0 : Int32) = _
        decide
      unfold b_X13_number_2
      rw [if_neg (by rw [show (0 : Int32) = z 0 from rfl, z_eq (by omega) (by omega) (by omega) (by omega)]; omega), e, if_pos (Or.inl (by decide)), Rp_149]
    -- one look at a digit
    have look : ∀ (x : Int) (k q : Nat), k < 5 → q ≤ 100 → k < m → b_X13_number_1 (z m) (z x) (z k) (Rp D q 0) = if 48 ≤ sg n T q ∧ sg n T q ≤ 57 then some (.inl (1, [z m, z (10 * x + (sg n T q - 48)), z ((k + 1 : Nat))], Rp D (q + 1) 0)) else some (.inl (2, [z x, z k], Rp D q 0)) := by
      intro x k q hk hq hkm
      have e1 : (Rp D q 0).1 149 = z 0 := rfl
      have e2 : (Rp D q 0).1 146 = z q := rfl
      have hlo := sg_lo n T q
      have hhi : sg n T q ≤ 126 := by
        by_cases hin : q < n
        · have := h.2.2.2.1 q hin
          rw [sg_in hin]
          omega
        · rw [sg_out hin]
          omega
      have hs := m_sign (h.rp q 0) e2 (by omega)
      unfold b_X13_number_1
      rw [e1, if_pos (by decide), if_neg (by rw [z_le (by omega) (by omega) (by omega) (by omega)]; omega), hs, cI_i, show (48 : Int32) = z 48 from rfl, show (57 : Int32) = z 57 from rfl, m_isIn (by omega) (by omega) (by omega) (by omega) (by omega) (by omega), cI_i]
      by_cases hd : 48 ≤ sg n T q ∧ sg n T q ≤ 57
      · rw [bz_t hd, if_neg (by decide), if_pos hd, hs, cI_i, e2, show (10 : Int32) = z 10 from rfl, show (1 : Int32) = z 1 from rfl, z_mul, z_add, z_sub, z_add, z_add, show (q : Int) + 1 = ((q + 1 : Nat) : Int) by omega, Rp_146, show 10 * x + sg n T q - 48 = 10 * x + (sg n T q - 48) by omega]
        rfl
      · rw [bz_f hd, if_pos (by decide), if_neg hd]
    have stop : ∀ (x : Int32) (k q : Nat), k < 5 → m ≤ k → b_X13_number_1 (z m) x (z k) (Rp D q 0) = some (.inl (2, [x, z k], Rp D q 0)) := by
      intro x k q hk hkm
      have e1 : (Rp D q 0).1 149 = z 0 := rfl
      unfold b_X13_number_1
      rw [e1, if_pos (by decide), if_pos (by rw [z_le (by omega) (by omega) (by omega) (by omega)]; omega)]
    by_cases h32 : sg n T p = ((32 : Nat) : Int)
    · rw [if_pos h32]
      by_cases hd : isD n T (p + 1)
      · refine RunP.mono (c := 8 + 1) ?_ (by omega)
        refine RunP.go ?_
        show Wp (b_X13_number_1 (z m) (z 0) (z ((0 : Nat) : Int)) _) _
        rw [look 0 0 (p + 1) (by omega) (by omega) (by omega), if_pos (show 48 ≤ sg n T (p + 1) ∧ sg n T (p + 1) ≤ 57 from hd), Wp_some, Nx_l]
        by_cases hd2 : m = 2 ∧ isD n T (p + 2)
        · obtain ⟨rfl, hd2⟩ := hd2
          refine RunP.mono (c := 7 + 1) ?_ (by omega)
          refine RunP.go ?_
          show Wp (b_X13_number_1 (z ((2 : Nat) : Int)) (z (10 * 0 + (sg n T (p + 1) - 48))) (z ((0 + 1 : Nat))) (Rp D (p + 1 + 1) 0)) _
          rw [look _ (0 + 1) (p + 1 + 1) (by omega) (by omega) (by omega), if_pos (show 48 ≤ sg n T (p + 1 + 1) ∧ sg n T (p + 1 + 1) ≤ 57 from hd2), Wp_some, Nx_l]
          refine RunP.mono (c := 6 + 1) ?_ (by omega)
          refine RunP.go ?_
          show Wp (b_X13_number_1 (z ((2 : Nat) : Int)) (z (10 * (10 * 0 + (sg n T (p + 1) - 48)) + (sg n T (p + 1 + 1) - 48))) (z ((0 + 1 + 1 : Nat))) (Rp D (p + 1 + 1 + 1) 0)) _
          rw [stop _ (0 + 1 + 1) (p + 1 + 1 + 1) (by omega) (by omega), Wp_some, Nx_l]
          refine RunP.mono (c := 5 + 1) ?_ (by omega)
          refine RunP.go ?_
          show Wp (b_X13_number_2 _ _ _) _
          rw [fin1 _ (0 + 1 + 1) _ (by omega) (by omega), Wp_some, Nx_r, numF_2 h32 hd ⟨rfl, hd2⟩]
          refine ⟨_, rfl, fun _ => ?_⟩
          unfold isD at hd hd2
          congr 1
          dsimp only
          rw [show p + 1 + 1 = p + 2 from rfl]
          omega
        · have hnext : RunP T_X13_number 7 2 [z (10 * 0 + (sg n T (p + 1) - 48)), z ((0 + 1 : Nat))] (Rp D (p + 1 + 1) 0) (fun r => ∃ x, r = (0, some (.int x), Rp D (numF n T m p).2.2 (if (numF n T m p).1 = true then 0 else 1)) ∧ ((numF n T m p).1 = true → x = z (numF n T m p).2.1)) := by
            refine RunP.mono (c := 5 + 1) ?_ (by omega)
            refine RunP.go ?_
            show Wp (b_X13_number_2 _ _ _) _
            rw [fin1 _ (0 + 1) _ (by omega) (by omega), Wp_some, Nx_r, numF_1 h32 hd hd2]
            refine ⟨_, rfl, fun _ => ?_⟩
            unfold isD at hd
            congr 1
            dsimp only
            omega
          refine RunP.mono (c := 7 + 1) ?_ (by omega)
          refine RunP.go ?_
          show Wp (b_X13_number_1 (z m) (z (10 * 0 + (sg n T (p + 1) - 48))) (z ((0 + 1 : Nat))) (Rp D (p + 1 + 1) 0)) _
          rcases hm with rfl | rfl
          · rw [stop _ (0 + 1) (p + 1 + 1) (by omega) (by omega), Wp_some, Nx_l]
            exact hnext
          · rw [look _ (0 + 1) (p + 1 + 1) (by omega) (by omega) (by omega), if_neg (show ¬ (48 ≤ sg n T (p + 1 + 1) ∧ sg n T (p + 1 + 1) ≤ 57) from fun q => hd2 ⟨rfl, q⟩), Wp_some, Nx_l]
            exact hnext
      · refine RunP.mono (c := 8 + 1) ?_ (by omega)
        refine RunP.go ?_
        show Wp (b_X13_number_1 (z m) (z 0) (z ((0 : Nat) : Int)) _) _
        rw [look 0 0 (p + 1) (by omega) (by omega) (by omega), if_neg (show ¬ (48 ≤ sg n T (p + 1) ∧ sg n T (p + 1) ≤ 57) from hd), Wp_some, Nx_l]
        refine RunP.mono (c := 5 + 1) ?_ (by omega)
        refine RunP.go ?_
        show Wp (b_X13_number_2 (z 0) (z 0) _) _
        rw [fin0 _ 0 (by omega), Wp_some, Nx_r, numF_n h32 hd]
        exact ⟨_, rfl, fun q => by cases q⟩
    · rw [if_neg h32]
      refine RunP.mono (c := 8 + 1) ?_ (by omega)
      refine RunP.go ?_
      show Wp (b_X13_number_1 _ _ _ _) _
      have e1 : (Rp D p 1).1 149 = z ((1 : Nat) : Int) := rfl
      unfold b_X13_number_1
      rw [e1, if_neg (by decide), Wp_some, Nx_l]
      refine RunP.mono (c := 5 + 1) ?_ (by omega)
      refine RunP.go ?_
      show Wp (b_X13_number_2 (z 0) (z 0) _) _
      rw [fin0 _ 1 (by omega), Wp_some, Nx_r, numF_b h32]
      exact ⟨_, rfl, fun q => by cases q⟩
  obtain ⟨r, h1, x, rfl, h2⟩ := key
  exact ⟨x, h1, h2⟩
theorem mw_round (h : RX D n T) (hpu : p + u ≤ 100) (hu : u ≤ 6) {is : Int} {more : Bool} (hmore : more = true ↔ ∃ x, x < 7 ∧ lf n T p (u + 1) x = true) (his : (is = -1 ∧ ∀ x, x < 7 → lf n T p (u + 1) x = true → wlen x ≠ u + 1) ∨ (∃ w : Nat, w < 7 ∧ is = w ∧ lf n T p (u + 1) w = true ∧ wlen w = u + 1 ∧ ∀ x, x < 7 → lf n T p (u + 1) x = true → wlen x = u + 1 → x = w)) (hn : ∀ g', (∀ x, x < 7 → g' x = z (zb (lf n T p (u + 1) x))) → RunP T_X13_word c 2 [z ((u + 1 : Nat)), z is] (setA (Rp D (if more = true then p + u + 1 else p + u) (if more = true then 0 else 1)) 81 g') P) (hg : ∀ x, x < 7 → g x = z (zb (lf n T p u x))) : RunP T_X13_word (c + 20) 2 [z (u : Nat), z (-1)] (setA (Rp D (p + u) 0) 81 g) P := by
  have hmany : anyB (lf n T p (u + 1)) 7 = more := bool_iff (by rw [anyB_iff, hmore])
  obtain ⟨hr1, hr2, hr3, hr4, hr5, hr6⟩ := h
  have e149 : ∀ g, (setA (Rp D (p + u) 0) 81 g).1 149 = z 0 := fun _ => rfl
  have e146 : ∀ g, (setA (Rp D (p + u) 0) 81 g).1 146 = z ((p + u : Nat)) := fun _ => rfl
  have e83 : ∀ (q b : Nat) g, (setA (Rp D q b) 81 g).2.2.1 83 = wordAtRow := fun _ _ _ => hr6
  have e82 : ∀ g, (setA (Rp D (p + u) 0) 81 g).2.2.1 82 = wordsRow := fun _ => hr5
  have hsg : ∀ g, S_X13_sign (setA (Rp D (p + u) 0) 81 g) = some (0, some (.int (z (sg n T (p + u)))), setA (Rp D (p + u) 0) 81 g) := fun g => m_sign (D := setA (Rp D (p + u) 0) 81 g) (p := p + u) ⟨hr1, hr2, hr3, hr4, hr5, hr6⟩ rfl (by omega)
  have hlo := sg_lo n T (p + u)
  have hhi : sg n T (p + u) ≤ 126 := by
    by_cases hin : p + u < n
    · have := hr4 (p + u) hin
      rw [sg_in hin]
      omega
    · rw [sg_out hin]
      omega
  refine RunP.mono (c := (c + 18) + 1) ?_ (by omega)
  refine RunP.go ?_
  show Wp (b_X13_word_2 _ _ _) _
  unfold b_X13_word_2
  rw [if_neg (by decide), e149, if_pos (by decide), Wp_some, Nx_l]
  refine RunP.loop (fun w ls D' => ls = [z (u : Nat), z (-1), z (zb (anyB (lf n T p (u + 1)) w)), z (w : Nat)] ∧ ∃ g', D' = setA (Rp D (p + u) 0) 81 g' ∧ (∀ x, x < w → g' x = z (zb (lf n T p (u + 1) x))) ∧ ∀ x, w ≤ x → x < 7 → g' x = z (zb (lf n T p u x))) 7 1 (c + 10) ?_ ?_ 0 _ _ (by omega) ⟨rfl, g, rfl, fun x hx => by omega, fun x _ hx => hg x hx⟩ (by omega)
  · rintro w ls D' c2 hw ⟨rfl, g', rfl, hg1, hg2⟩ hk
    obtain ⟨l1, l2⟩ := wf_len w hw
    obtain ⟨-, -, -, l3, l4⟩ := wnp_3 w hw
    have a1 := wf_at w (by omega)
    have a2 := wf_at (w + 1) (by omega)
    have b1 := hg2 w (Nat.le_refl _) hw
    have hs := lf_s n T p u w
    have next : ∀ nb : Bool, nb = lf n T p (u + 1) w → RunP T_X13_word c2 3 [z (u : Nat), z (-1), z (zb (anyB (lf n T p (u + 1)) w || nb)), z ((w + 1 : Nat))] (setA (Rp D (p + u) 0) 81 (upd g' w (z (zb nb)))) P := by
      rintro nb rfl
      refine hk _ _ ⟨rfl, _, rfl, fun x hx => ?_, fun x h1 h2 => ?_⟩
      · by_cases e : x = w
        · rw [e, upd_same]
        · rw [upd_ne _ _ e]
          exact hg1 x (by omega)
      · rw [upd_ne _ _ (by omega)]
        exact hg2 x (by omega) h2
    have nextF : lf n T p (u + 1) w = false → RunP T_X13_word c2 3 [z (u : Nat), z (-1), z (zb (anyB (lf n T p (u + 1)) w)), z ((w + 1 : Nat))] (setA (Rp D (p + u) 0) 81 (upd g' w (z 0))) P := by
      intro e
      have := next false e.symm
      rw [Bool.or_false] at this
      exact this
    refine RunP.go ?_
    show Wp (b_X13_word_3 _ _ _ _ _) _
    unfold b_X13_word_3
    have i7 : inB (z (w : Nat)) 7 = true := by rw [inB_z (by omega) (by omega)]; omega
    have i8 : inB (z (w : Nat)) 8 = true := by rw [inB_z (by omega) (by omega)]; omega
    have i8' : inB (z (w : Nat) + (1 : Int32)) 8 = true := by rw [show (1 : Int32) = z 1 from rfl, z_add, inB_z (by omega) (by omega)]; omega
    have n8 : (z (w : Nat)).toNatClampNeg = w := by rw [z_nn (by omega) (by omega)]; rfl
    have n8' : (z (w : Nat) + (1 : Int32)).toNatClampNeg = w + 1 := by rw [show (1 : Int32) = z 1 from rfl, z_add, z_nn (by omega) (by omega)]; omega
    have s8 : z (w : Nat) + (1 : Int32) = z ((w + 1 : Nat)) := by rw [show (1 : Int32) = z 1 from rfl, z_add]; rfl
    rw [if_neg (by rw [show (7 : Int32) = z 7 from rfl, z_le (by omega) (by omega) (by omega) (by omega)]; omega), if_pos i7, if_pos i8, if_pos i8', n8, n8', e83, a1, a2, z_add, setA_same, b1, upd_same]
    by_cases hlen : wlen w ≤ u
    · rw [if_pos (by rw [z_le (by omega) (by omega) (by omega) (by omega)]; omega), if_pos i7, if_pos i7, show (0 : Int32) = z 0 from rfl, zb_and0, if_neg (by decide), zb_or0, setA_two, s8, Wp_some, Nx_l]
      exact nextF (by rw [hs]; simp; intro _; omega)
    · obtain ⟨w1, w2, w3⟩ := wf_ch w hw u (by omega) (by omega)
      rw [if_neg (by rw [z_le (by omega) (by omega) (by omega) (by omega)]; omega), if_pos i8, if_pos (by rw [inB_z (by omega) (by omega)]; omega), hsg, cI_i, e82, show (z ((wat w : Int) + (u : Int))).toNatClampNeg = wat w + u by rw [z_nn (by omega) (by omega)]; omega, w1]
      by_cases q : sg n T (p + u) = wch w u
      · rw [if_pos (by rw [q]), if_pos i7, if_pos i7, show (1 : Int32) = z 1 from rfl, zb_and1, setA_same, upd_same, setA_two]
        have hnew : lf n T p (u + 1) w = lf n T p u w := by rw [hs]; simp [q]; intro _; omega
        cases hb : lf n T p u w with
        | true =>
          rw [if_pos (show z (zb true) = z 1 from rfl), zb_or1, z_add, Wp_some, Nx_l]
          have := next true (by rw [hnew, hb])
          rw [Bool.or_true] at this
          exact this
        | false =>
          rw [if_neg (by decide), show (0 : Int32) = z 0 from rfl, zb_or0, z_add, Wp_some, Nx_l]
          exact nextF (by rw [hnew, hb])
      · rw [if_neg (by rw [z_eq (by omega) (by omega) (by omega) (by omega)]; omega), if_pos i7, if_pos i7, show (0 : Int32) = z 0 from rfl, zb_and0, setA_same, upd_same, setA_two, if_neg (by decide), zb_or0, s8, Wp_some, Nx_l]
        exact nextF (by rw [hs]; simp [q])
  · rintro ls D' ⟨rfl, g', rfl, hg1, -⟩
    rw [hmany]
    have e3 : b_X13_word_3 (z (u : Nat)) (z (-1)) (z (zb more)) (z ((7 : Nat) : Int)) (setA (Rp D (p + u) 0) 81 g') = some (.inl (4, [z ((u + 1 : Nat)), z (-1), z 0], setA (Rp D (if more = true then p + u + 1 else p + u) (if more = true then 0 else 1)) 81 g')) := by
      unfold b_X13_word_3
      rw [if_pos (by decide), e146, show (1 : Int32) = z ((1 : Nat) : Int) from rfl, show (0 : Int32) = z ((0 : Nat) : Int) from rfl, z_add, z_add, z_add]
      cases more with
      | true =>
        rw [if_neg (by decide), if_neg (by decide), if_pos rfl, if_pos rfl]
        exact congrArg (fun x => some (Sum.inl (4, [z ((u + 1 : Nat)), z (-1), z 0], setA x 81 g'))) (Rp_set D (p + u) (p + u + 1) 0 0)
      | false =>
        rw [if_pos (by decide), if_pos (by decide), if_neg (by decide), if_neg (by decide)]
        exact congrArg (fun x => some (Sum.inl (4, [z ((u + 1 : Nat)), z (-1), z 0], setA x 81 g'))) (Rp_set D (p + u) (p + u) 0 1)
    refine RunP.mono (c := (c + 9) + 1) ?_ (by omega)
    refine RunP.go ?_
    show Wp (b_X13_word_3 _ _ _ _ _) _
    rw [e3, Wp_some, Nx_l]
    refine RunP.loop (fun w ls D' => D' = setA (Rp D (if more = true then p + u + 1 else p + u) (if more = true then 0 else 1)) 81 g' ∧ ∃ i : Int, ls = [z ((u + 1 : Nat)), z i, z (w : Nat)] ∧ ((i = -1 ∧ ∀ x, x < w → lf n T p (u + 1) x = true → wlen x ≠ u + 1) ∨ ∃ x : Nat, x < w ∧ i = x ∧ lf n T p (u + 1) x = true ∧ wlen x = u + 1)) 7 1 (c + 1) ?_ ?_ 0 _ _ (by omega) ⟨rfl, -1, rfl, Or.inl ⟨rfl, fun x hx => by omega⟩⟩ (by omega)
    · rintro w ls D' c2 hw ⟨rfl, i, rfl, hi⟩ hk
      obtain ⟨l1, l2⟩ := wf_len w hw
      obtain ⟨-, -, -, l3, l4⟩ := wnp_3 w hw
      have a1 := wf_at w (by omega)
      have a2 := wf_at (w + 1) (by omega)
      have b1 := hg1 w hw
      have i7 : inB (z (w : Nat)) 7 = true := by rw [inB_z (by omega) (by omega)]; omega
      have i8 : inB (z (w : Nat)) 8 = true := by rw [inB_z (by omega) (by omega)]; omega
      have i8' : inB (z (w : Nat) + (1 : Int32)) 8 = true := by rw [show (1 : Int32) = z 1 from rfl, z_add, inB_z (by omega) (by omega)]; omega
      have n8 : (z (w : Nat)).toNatClampNeg = w := by rw [z_nn (by omega) (by omega)]; rfl
      have n8' : (z (w : Nat) + (1 : Int32)).toNatClampNeg = w + 1 := by rw [show (1 : Int32) = z 1 from rfl, z_add, z_nn (by omega) (by omega)]; omega
      have s8 : z (w : Nat) + (1 : Int32) = z ((w + 1 : Nat)) := by rw [show (1 : Int32) = z 1 from rfl, z_add]; rfl
      refine RunP.go ?_
      show Wp (b_X13_word_4 _ _ _ _) _
      unfold b_X13_word_4
      rw [if_neg (by rw [show (7 : Int32) = z 7 from rfl, z_le (by omega) (by omega) (by omega) (by omega)]; omega), if_pos i7, if_pos i8, if_pos i8', n8, n8', e83, a1, a2, z_add, setA_same, b1, s8]
      have keep : (lf n T p (u + 1) w = true → wlen w ≠ u + 1) → RunP T_X13_word c2 4 [z ((u + 1 : Nat)), z i, z ((w + 1 : Nat))] (setA (Rp D (if more = true then p + u + 1 else p + u) (if more = true then 0 else 1)) 81 g') P := by
        intro hno
        refine hk _ _ ⟨rfl, i, rfl, ?_⟩
        rcases hi with ⟨h1, h2⟩ | ⟨x, h1, h2⟩
        · refine Or.inl ⟨h1, fun x hx => ?_⟩
          by_cases e : x = w
          · rw [e]
            exact hno
          · exact h2 x (by omega)
        · exact Or.inr ⟨x, by omega, h2⟩
      cases hb : lf n T p (u + 1) w with
      | false =>
        rw [if_neg (by decide), Wp_some, Nx_l]
        exact keep (fun q => by rw [hb] at q; cases q)
      | true =>
        rw [if_pos (by decide)]
        by_cases hl : wlen w = u + 1
        · rw [if_pos (by congr 1; omega), Wp_some, Nx_l]
          exact hk _ _ ⟨rfl, w, rfl, Or.inr ⟨w, by omega, rfl, hb, hl⟩⟩
        · rw [if_neg (by rw [z_eq (by omega) (by omega) (by omega) (by omega)]; omega), Wp_some, Nx_l]
          exact keep (fun _ => hl)
    · rintro ls D' ⟨rfl, i, rfl, hi⟩
      have hii : i = is := by
        rcases his with ⟨h1, h2⟩ | ⟨w, h1, h2, h3, h4, h5⟩
        · rcases hi with ⟨h6, -⟩ | ⟨x, h6, h7, h8, h9⟩
          · omega
          · exact absurd h9 (h2 x h6 h8)
        · rcases hi with ⟨-, h6⟩ | ⟨x, h6, h7, h8, h9⟩
          · exact absurd h4 (h6 w h1 h3)
          · have := h5 x h6 h8 h9
            omega
      subst hii
      refine RunP.go ?_
      show Wp (b_X13_word_4 _ _ _ _) _
      unfold b_X13_word_4
      rw [if_pos (by decide), Wp_some, Nx_l]
      exact hn g' hg1
theorem m_word (h : RX D n T) (hpn : p ≤ n) : (∀ w, WOk n T p w → ∃ g, S_X13_word (Rp D p 0) = some (0, some (.int (z (w : Nat))), Rp (setA D 81 g) (p + wlen w) 0)) ∧ ∀ m, WNo n T p m → ∃ g x, S_X13_word (Rp D p 0) = some (0, some (.int x), Rp (setA D 81 g) (p + m) 1) := by
  have h60 := h.2.1
  have start : ∀ (P : RT → Prop) (c : Nat), (∀ g, (∀ x, x < 7 → g x = z (zb (lf n T p 0 x))) → RunP T_X13_word c 2 [z ((0 : Nat) : Int), z (-1)] (setA (Rp D (p + 0) 0) 81 g) P) → RunP T_X13_word (c + 20) 0 [] (Rp D p 0) P := by
    intro P c hn
    refine RunP.mono (c := (c + 10) + 1) ?_ (by omega)
    refine RunP.go ?_
    show Wp (b_X13_word_0 _) _
    unfold b_X13_word_0
    rw [Wp_some, Nx_l]
    refine RunP.loop (fun i ls D' => ls = [z (i : Nat)] ∧ ∃ g, D' = setA (Rp D p 0) 81 g ∧ ∀ x, x < i → g x = z 1) 7 1 (c + 1) ?_ ?_ 0 _ _ (by omega) ⟨rfl, _, (setA_self _ 81).symm, fun x hx => by omega⟩ (by omega)
    · rintro i ls D' c2 hi ⟨rfl, g, rfl, hg⟩ hk
      refine RunP.go ?_
      show Wp (b_X13_word_1 _ _) _
      unfold b_X13_word_1
      simp (disch := omega) only [z_add, z_sub, z_mul, z_neg, ite_T, ite_F, zl_0, zl_1, zl_2, zl_3, zl_4, zl_5, zl_6, zl_7, zl_8, zl_9, zl_10, zl_11, zl_12, zl_13, zl_14, zl_15, zl_16, zl_17, zl_18, zl_19, zl_20, zl_21, zl_22, zl_23, zl_24, zl_25, zl_26, zl_27, zl_28, zl_29, zl_30, zl_31, zl_32, zl_33, zl_34, zl_35, zl_36, zl_37, zl_38, zl_39, zl_40, zl_41, zl_42, zl_43, zl_44, zl_45, zl_46, zl_47, zl_48, zl_49, zl_50, zl_51, zl_52, zl_53, zl_54, zl_55, zl_56, zl_57, zl_58, zl_59, zl_60, zl_61, zl_62, zl_63, zl_64, zl_97, zl_99, zl_100, zl_126, zl_255, zl_434, zl_496, zl_1000000, zl_100000, z_lt, z_le, z_eq, inB_z, z_div, Int.reduceToNat, Wp_some, Nx_l, Nx_r, cI_i, cV_v, cL_l, ite_t, ite_f, z_nn, toNat_c, bz_e0, setA_same, setA_two]
      refine hk _ _ ⟨rfl, _, rfl, fun x hx => ?_⟩
      by_cases e : x = i
      · rw [e, upd_same]
      · rw [upd_ne _ _ e]
        exact hg x (by omega)
    · rintro ls D' ⟨rfl, g, rfl, hg⟩
      refine RunP.go ?_
      show Wp (b_X13_word_1 _ _) _
      unfold b_X13_word_1
      simp (disch := omega) only [z_add, z_sub, z_mul, z_neg, ite_T, ite_F, zl_0, zl_1, zl_2, zl_3, zl_4, zl_5, zl_6, zl_7, zl_8, zl_9, zl_10, zl_11, zl_12, zl_13, zl_14, zl_15, zl_16, zl_17, zl_18, zl_19, zl_20, zl_21, zl_22, zl_23, zl_24, zl_25, zl_26, zl_27, zl_28, zl_29, zl_30, zl_31, zl_32, zl_33, zl_34, zl_35, zl_36, zl_37, zl_38, zl_39, zl_40, zl_41, zl_42, zl_43, zl_44, zl_45, zl_46, zl_47, zl_48, zl_49, zl_50, zl_51, zl_52, zl_53, zl_54, zl_55, zl_56, zl_57, zl_58, zl_59, zl_60, zl_61, zl_62, zl_63, zl_64, zl_97, zl_99, zl_100, zl_126, zl_255, zl_434, zl_496, zl_1000000, zl_100000, z_lt, z_le, z_eq, inB_z, z_div, Int.reduceToNat, Wp_some, Nx_l, Nx_r, cI_i, cV_v, cL_l, ite_t, ite_f, z_nn, toNat_c, bz_e0]
      exact hn g (fun x hx => by rw [hg x hx]; rfl)
  constructor
  · intro w hw
    obtain ⟨hw7, hwm⟩ := id hw
    obtain ⟨-, -, -, l3, l6⟩ := wnp_3 w hw7
    have hle := hw.le
    have hlw : ∀ u, u ≤ wlen w → lf n T p u w = true := fun u hu => lf_iff.mpr (fun i hi => ⟨by omega, hwm i (by omega)⟩)
    have huniq : ∀ x u, x < 7 → u ≤ wlen w → lf n T p u x = true → wlen x = u → x = w := by
      intro x u hx hu hl hlen
      by_cases e : x = w
      · exact e
      · obtain ⟨j, j1, j2, j3, j4⟩ := wf_dif x hx w hw7 e
        have q1 := (lf_iff.mp hl j (by omega)).2
        have q2 := hwm j j3
        unfold Mt at q1 q2
        rw [q1] at q2
        exact absurd (by omega) j4
    have main : ∀ j u g, u + j = wlen w → 0 < j → (∀ x, x < 7 → g x = z (zb (lf n T p u x))) → RunP T_X13_word (20 * j + 1) 2 [z (u : Nat), z (-1)] (setA (Rp D (p + u) 0) 81 g) (fun r => ∃ g, r = (0, some (.int (z (w : Nat))), Rp (setA D 81 g) (p + wlen w) 0)) := by
      intro j
      induction j with
      | zero => intro u g _ h0; omega
      | succ j ih =>
        intro u g huj _ hg
        have hmore : (true = true) ↔ ∃ x, x < 7 ∧ lf n T p (u + 1) x = true := ⟨fun _ => ⟨w, hw7, hlw (u + 1) (by omega)⟩, fun _ => rfl⟩
        by_cases h0 : j = 0
        · subst h0
          refine RunP.mono (c := 1 + 20) ?_ (by omega)
          refine mw_round (is := (w : Int)) (more := true) h (by omega) (by omega) hmore (Or.inr ⟨w, hw7, rfl, hlw (u + 1) (by omega), by omega, fun x hx hl hlen => huniq x (u + 1) hx (by omega) hl hlen⟩) (fun g' hg' => ?_) hg
          refine RunP.mono (c := 0 + 1) ?_ (by omega)
          refine RunP.go ?_
          show Wp (b_X13_word_2 _ _ _) _
          unfold b_X13_word_2
          rw [if_pos (by rw [show (0 : Int32) = z 0 from rfl, z_le (by omega) (by omega) (by omega) (by omega)]; omega), Wp_some, Nx_r]
          refine ⟨g', ?_⟩
          rw [if_pos rfl, if_pos rfl, show p + u + 1 = p + wlen w by omega]
          rfl
        · refine RunP.mono (c := (20 * j + 1) + 20) ?_ (by omega)
          refine mw_round (is := -1) (more := true) h (by omega) (by omega) hmore (Or.inl ⟨rfl, fun x hx hl hlen => ?_⟩) (fun g' hg' => ?_) hg
          · have := huniq x (u + 1) hx (by omega) hl hlen
            rw [this] at hlen
            omega
          · rw [if_pos rfl, if_pos rfl]
            exact ih (u + 1) g' (by omega) (by omega) hg'
    have key : ∃ r, run T_X13_word FUEL 0 [] (Rp D p 0) = some r ∧ ∃ g, r = (0, some (.int (z (w : Nat))), Rp (setA D 81 g) (p + wlen w) 0) := by
      refine RunP.fin (c := (20 * wlen w + 1) + 20) ?_ (by have : FUEL = 1000000 := rfl; omega)
      exact start _ _ (fun g hg => main (wlen w) 0 g (by omega) (by omega) hg)
    obtain ⟨r, h1, g, rfl⟩ := key
    exact ⟨g, h1⟩
  · intro m hm
    obtain ⟨⟨w, hw7, hmw, hwm⟩, hno⟩ := hm
    obtain ⟨-, -, -, l3, l6⟩ := wnp_3 w hw7
    have hlw : ∀ u, u ≤ m → lf n T p u w = true := fun u hu => lf_iff.mpr (fun i hi => ⟨by omega, hwm i (by omega)⟩)
    have main : ∀ j u g, u + j = m → (∀ x, x < 7 → g x = z (zb (lf n T p u x))) → RunP T_X13_word (20 * j + 21) 2 [z (u : Nat), z (-1)] (setA (Rp D (p + u) 0) 81 g) (fun r => ∃ g x, r = (0, some (.int x), Rp (setA D 81 g) (p + m) 1)) := by
      intro j
      induction j with
      | zero =>
        intro u g huj hg
        refine RunP.mono (c := 1 + 20) ?_ (by omega)
        have hall : ∀ x, x < 7 → lf n T p (u + 1) x = true → False := by
          intro x hx hl
          obtain ⟨k, k1, k2, k3⟩ := hno x hx
          exact k3 (lf_iff.mp hl k (by omega)).2
        refine mw_round (is := -1) (more := false) h (by omega) (by omega) ⟨fun q => (by cases q), fun ⟨x, hx, hl⟩ => (hall x hx hl).elim⟩ (Or.inl ⟨rfl, fun x hx hl => (hall x hx hl).elim⟩) (fun g' hg' => ?_) hg
        refine RunP.mono (c := 0 + 1) ?_ (by omega)
        refine RunP.go ?_
        show Wp (b_X13_word_2 _ _ _) _
        unfold b_X13_word_2
        have e149 : (setA (Rp D (if false = true then p + u + 1 else p + u) (if false = true then 0 else 1)) 81 g').1 149 = z ((1 : Nat) : Int) := rfl
        rw [if_neg (by decide), e149, if_neg (by decide), Wp_some, Nx_r]
        refine ⟨g', z (-1), ?_⟩
        rw [show p + m = p + u by omega]
        rfl
      | succ j ih =>
        intro u g huj hg
        refine RunP.mono (c := (20 * j + 21) + 20) ?_ (by omega)
        refine mw_round (is := -1) (more := true) h (by omega) (by omega) ⟨fun _ => ⟨w, hw7, hlw (u + 1) (by omega)⟩, fun _ => rfl⟩ (Or.inl ⟨rfl, fun x hx hl hlen => ?_⟩) (fun g' hg' => ?_) hg
        · obtain ⟨k, k1, k2, k3⟩ := hno x hx
          exact k3 (lf_iff.mp hl k (by omega)).2
        · rw [if_pos rfl, if_pos rfl]
          exact ih (u + 1) g' (by omega) hg'
    have key : ∃ r, run T_X13_word FUEL 0 [] (Rp D p 0) = some r ∧ ∃ g x, r = (0, some (.int x), Rp (setA D 81 g) (p + m) 1) := by
      refine RunP.fin (c := (20 * m + 21) + 20) ?_ (by have : FUEL = 1000000 := rfl; omega)
      exact start _ _ (fun g hg => main m 0 g (by omega) hg)
    obtain ⟨r, h1, g, x, rfl⟩ := key
    exact ⟨g, x, h1⟩
end LL
