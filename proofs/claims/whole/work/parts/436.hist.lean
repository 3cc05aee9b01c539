/-! pure: what can be undone; the snapshot -/
def cp (a b : Nat) (D : DD) : DD := setJ (setI (setI (setI (setI (setA (setA (setA (setA D (4 * a) (va_cpy (D.2.2.1 (4 * b)) (D.2.2.1 (4 * a)) (0 : Int32).toNatClampNeg (0 : Int32).toNatClampNeg (36 : Int32).toNatClampNeg)) (4 * a + 1) (va_cpy (D.2.2.1 (4 * b + 1)) (D.2.2.1 (4 * a + 1)) (0 : Int32).toNatClampNeg (0 : Int32).toNatClampNeg (6 : Int32).toNatClampNeg)) (4 * a + 2) (va_cpy (D.2.2.1 (4 * b + 2)) (D.2.2.1 (4 * a + 2)) (0 : Int32).toNatClampNeg (0 : Int32).toNatClampNeg (6 : Int32).toNatClampNeg)) (4 * a + 3) (va_cpy (D.2.2.1 (4 * b + 3)) (D.2.2.1 (4 * a + 3)) (0 : Int32).toNatClampNeg (0 : Int32).toNatClampNeg (11 : Int32).toNatClampNeg)) (10 * a) (D.1 (10 * b))) (10 * a + 1) (D.1 (10 * b + 1))) (10 * a + 2) (D.1 (10 * b + 2))) (10 * a + 3) (D.1 (10 * b + 3))) a (D.2.1 b)
theorem cR_r {α : Type} (q : Nat) (D : DD) (k : Nat → DD → Option α) (kn : DD → Option α) : cR (some (0, some (.ref q), D)) k kn = k q D := rfl
theorem cR_n {α : Type} (D : DD) (k : Nat → DD → Option α) (kn : DD → Option α) : cR (some (0, some .null, D)) k kn = kn D := rfl
theorem nn_0 : (0 : Int32).toNatClampNeg = 0 := by decide
theorem nn_6 : (6 : Int32).toNatClampNeg = 6 := by decide
theorem nn_11 : (11 : Int32).toNatClampNeg = 11 := by decide
theorem nn_36 : (36 : Int32).toNatClampNeg = 36 := by decide
section LL
variable {D D' : DD} {v w : Nat → Nat} {a b n nx : Nat} {p : Nat → Nat → Nat}
theorem cp_i {k : Nat} (h : k < 10 * a ∨ 10 * a + 3 < k) : (cp a b D).1 k = D.1 k := by
  simp only [cp, setJ, setI, setA, va_up]
  rw [if_neg (by omega), if_neg (by omega), if_neg (by omega), if_neg (by omega)]
theorem cp_j {k : Nat} (h : k ≠ a) : (cp a b D).2.1 k = D.2.1 k := by
  simp only [cp, setJ, setI, setA, va_up]
  rw [if_neg h]
theorem cp_a {k : Nat} (h : k < 4 * a ∨ 4 * a + 3 < k) : (cp a b D).2.2.1 k = D.2.2.1 k := by
  simp only [cp, setJ, setI, setA, va_up]
  rw [if_neg (by omega), if_neg (by omega), if_neg (by omega), if_neg (by omega)]
theorem cp_QS (h : QS D b v) (h6 : v 3 ≤ 6) : QS (cp a b D) a v := by
  obtain ⟨h1, h2, h3, h4, h5, h6', h7, h8, h9⟩ := h
  refine ⟨fun i hi => ?_, fun i hi => ?_, fun i hi => ?_, fun i x y => ?_, ?_, ?_, ?_, ?_, ?_⟩
  · simp only [cp, setJ, setI, setA, va_up]
    rw [if_neg (by omega), if_neg (by omega), if_neg (by omega), ite_T, nn_0, nn_36, cpy_eq _ _ _ _ hi]
    exact h1 i hi
  · simp only [cp, setJ, setI, setA, va_up]
    rw [if_neg (by omega), if_neg (by omega), ite_T, nn_0, nn_6, cpy_eq _ _ _ _ (by omega)]
    exact h2 i hi
  · simp only [cp, setJ, setI, setA, va_up]
    rw [if_neg (by omega), ite_T, nn_0, nn_6, cpy_eq _ _ _ _ (by omega)]
    exact h3 i hi
  · simp only [cp, setJ, setI, setA, va_up]
    rw [ite_T, nn_0, nn_11, cpy_eq _ _ _ _ (by omega)]
    exact h4 i x y
  · simp only [cp, setJ, setI, setA, va_up]
    rw [if_neg (by omega), if_neg (by omega), if_neg (by omega), ite_T]
    exact h5
  · simp only [cp, setJ, setI, setA, va_up]
    rw [if_neg (by omega), if_neg (by omega), ite_T]
    exact h6'
  · simp only [cp, setJ, setI, setA, va_up]
    rw [if_neg (by omega), ite_T]
    exact h7
  · simp only [cp, setJ, setI, setA, va_up]
    rw [ite_T]
    exact h8
  · simp only [cp, setJ, setI, setA, va_up]
    rw [ite_T]
    exact h9
def pn (n : Nat) : Nat := if n < 8 then n + 1 else 8
def pnx (nx : Nat) : Nat := if nx + 1 < 8 then nx + 1 else 0
def pp (n : Nat) (p : Nat → Nat → Nat) (v : Nat → Nat) : Nat → Nat → Nat := fun i => if n < 8 then (if i = n then v else p i) else (if i = 7 then v else p (i + 1))
theorem pn_le (hn : n ≤ 8) : pn n ≤ 8 := by unfold pn; split <;> omega
theorem pnx_lt (hnx : nx < 8) : pnx nx < 8 := by unfold pnx; split <;> omega
theorem pp_WF (hn : n ≤ 8) (hp : ∀ i, i < n → WF (p i)) (hW : WF v) : ∀ i, i < pn n → WF (pp n p v i) := by
  intro i hi
  unfold pn at hi
  unfold pp
  split
  · rw [if_pos (by assumption)] at hi
    split
    · exact hW
    · exact hp i (by omega)
  · rw [if_neg (by assumption)] at hi
    split
    · exact hW
    · exact hp (i + 1) (by omega)
/-- the ring changes, nothing else -/
def FH (D D' : DD) : Prop := (∀ k, k < 30 ∨ (104 ≤ k ∧ k ≠ 123 ∧ k ≠ 124) → D'.1 k = D.1 k) ∧ (∀ k, k < 3 ∨ 11 ≤ k → D'.2.1 k = D.2.1 k) ∧ (∀ k, k < 12 ∨ 44 ≤ k → D'.2.2.1 k = D.2.2.1 k) ∧ D'.2.2.2 = D.2.2.2
theorem HC.push (hb : b ≤ 1) (hQ : QS D b v) (h6 : v 3 ≤ 6) (hH : HC D n nx p) (hn : n ≤ 8) (hnx : nx < 8) : HC (setI (setI (cp (nx + 3) b D) 123 (z (pnx nx))) 124 (z (pn n))) (pn n) (pnx nx) (pp n p v) := by
  obtain ⟨h1, h2, h3⟩ := hH
  have hnew : QS (setI (setI (cp (nx + 3) b D) 123 (z (pnx nx))) 124 (z (pn n))) (nx + 3) v := (cp_QS (a := nx + 3) hQ h6).ag (fun k _ _ => by rw [setI_1, if_neg (by omega), setI_1, if_neg (by omega)]) rfl (fun k _ _ => rfl)
  have hold : ∀ o u, o < 8 → o ≠ nx → QS D (o + 3) u → QS (setI (setI (cp (nx + 3) b D) 123 (z (pnx nx))) 124 (z (pn n))) (o + 3) u := by
    intro o u ho hne hq
    refine hq.ag (fun k _ _ => by rw [setI_1, if_neg (by omega), setI_1, if_neg (by omega), cp_i (by omega)]) ?_ (fun k _ _ => ?_)
    · show (cp (nx + 3) b D).2.1 (o + 3) = _
      exact cp_j (by omega)
    · show (cp (nx + 3) b D).2.2.1 k = _
      exact cp_a (by omega)
  refine ⟨by rw [setI_1, if_neg (by omega), setI_1, if_pos rfl], by rw [setI_1, if_pos rfl], fun i hi => ?_⟩
  unfold pn at hi ⊢
  unfold pp
  have hpx : pnx nx = (nx + 1) % 8 := by unfold pnx; split <;> omega
  rw [hpx]
  by_cases h8 : n < 8
  · rw [if_pos h8] at hi
    rw [if_pos h8, if_pos h8]
    by_cases e : i = n
    · rw [if_pos e, show ((nx + 1) % 8 + 8 - (n + 1) + i) % 8 = nx by omega]
      have := hnew
      unfold pn at this
      rw [hpx, if_pos h8] at this
      exact this
    · rw [if_neg e, show ((nx + 1) % 8 + 8 - (n + 1) + i) % 8 = (nx + 8 - n + i) % 8 by omega]
      have := hold ((nx + 8 - n + i) % 8) (p i) (by omega) (by omega) (h3 i (by omega))
      unfold pn at this
      rw [hpx, if_pos h8] at this
      exact this
  · rw [if_neg h8] at hi
    rw [if_neg h8, if_neg h8]
    have e8 : n = 8 := by omega
    by_cases e : i = 7
    · rw [if_pos e, show ((nx + 1) % 8 + 8 - 8 + i) % 8 = nx by omega]
      have := hnew
      unfold pn at this
      rw [hpx, if_neg h8] at this
      exact this
    · rw [if_neg e]
      have hx := h3 (i + 1) (by omega)
      rw [show (nx + 8 - n + (i + 1)) % 8 = ((nx + 1) % 8 + 8 - 8 + i) % 8 by omega] at hx
      have := hold _ (p (i + 1)) (Nat.mod_lt _ (by omega)) (by omega) hx
      unfold pn at this
      rw [hpx, if_neg h8] at this
      exact this
theorem FH.push (hnx : nx < 8) : FH D (setI (setI (cp (nx + 3) b D) 123 (z (pnx nx))) 124 (z (pn n))) := by
  refine ⟨fun k hk => by rw [setI_1, if_neg (by omega), setI_1, if_neg (by omega), cp_i (by omega)], fun k hk => ?_, fun k hk => ?_, rfl⟩
  · show (cp (nx + 3) b D).2.1 k = _
    exact cp_j (by omega)
  · show (cp (nx + 3) b D).2.2.1 k = _
    exact cp_a (by omega)
theorem s_placeAt (h : a < 8) : S_X6_placeAt (z a) D = some (0, some (.ref (18 + 5 * a)), D) := by
  unfold S_X6_placeAt
  simp (disch := omega) only [z_add, z_sub, z_mul, z_neg, ite_T, ite_F, zl_0, zl_1, zl_2, zl_3, zl_4, zl_5, zl_6, zl_7, zl_8, zl_9, zl_10, zl_11, zl_12, zl_13, zl_14, zl_15, zl_16, zl_17, zl_18, zl_19, zl_20, zl_21, zl_22, zl_23, zl_24, zl_25, zl_26, zl_27, zl_28, zl_29, zl_30, zl_31, zl_32, zl_33, zl_34, zl_35, zl_36, zl_37, zl_38, zl_39, zl_40, zl_41, zl_42, zl_43, zl_44, zl_45, zl_46, zl_47, zl_48, zl_49, zl_50, zl_51, zl_52, zl_53, zl_54, zl_55, zl_56, zl_57, zl_58, zl_59, zl_60, zl_61, zl_62, zl_63, zl_64, zl_97, zl_99, zl_100, zl_126, zl_255, zl_434, zl_496, zl_1000000, zl_100000, z_lt, z_le, z_eq, inB_z, z_div, Int.reduceToNat, Wp_some, Nx_l, Nx_r, cI_i, cV_v, cL_l, ite_t, ite_f, z_nn, toNat_c, bz_e0, s_inRange]
theorem s_remember {b0 : Nat} (hb : b0 = 0) (hQ : QS D b0 v) (h6 : v 3 ≤ 6) (hH : HC D n nx p) (hn : n ≤ 8) (hnx : nx < 8) : ∃ D', S_X6_remember D = some (0, none, D') ∧ HC D' (pn n) (pnx nx) (pp n p v) ∧ FH D D' := by
  subst hb
  refine ⟨setI (setI (cp (nx + 3) 0 D) 123 (z (pnx nx))) 124 (z (pn n)), ?_, HC.push (by omega) hQ h6 hH hn hnx, FH.push hnx⟩
  obtain ⟨h1, h2, -⟩ := hH
  have e0 : b_X6_remember_0 D = some (.inl (1, [], cp (nx + 3) 0 D)) := by
    unfold b_X6_remember_0
    rw [h1, s_placeAt hnx, cR_r]
    have : nx = 0 ∨ nx = 1 ∨ nx = 2 ∨ nx = 3 ∨ nx = 4 ∨ nx = 5 ∨ nx = 6 ∨ nx = 7 := by omega
    rcases this with rfl | rfl | rfl | rfl | rfl | rfl | rfl | rfl <;> rfl
  unfold S_X6_remember
  refine RunP.eqn (c := 2) ?_ (by decide)
  refine RunP.go ?_
  show Wp (b_X6_remember_0 _) _
  rw [e0, Wp_some, Nx_l]
  refine RunP.go ?_
  show Wp (b_X6_remember_1 _) _
  have g1 : (cp (nx + 3) 0 D).1 123 = z nx := by rw [cp_i (by omega), h1]
  have g2 : (cp (nx + 3) 0 D).1 124 = z n := by rw [cp_i (by omega), h2]
  unfold b_X6_remember_1
  simp (disch := omega) only [z_add, z_sub, z_mul, z_neg, ite_T, ite_F, zl_0, zl_1, zl_2, zl_3, zl_4, zl_5, zl_6, zl_7, zl_8, zl_9, zl_10, zl_11, zl_12, zl_13, zl_14, zl_15, zl_16, zl_17, zl_18, zl_19, zl_20, zl_21, zl_22, zl_23, zl_24, zl_25, zl_26, zl_27, zl_28, zl_29, zl_30, zl_31, zl_32, zl_33, zl_34, zl_35, zl_36, zl_37, zl_38, zl_39, zl_40, zl_41, zl_42, zl_43, zl_44, zl_45, zl_46, zl_47, zl_48, zl_49, zl_50, zl_51, zl_52, zl_53, zl_54, zl_55, zl_56, zl_57, zl_58, zl_59, zl_60, zl_61, zl_62, zl_63, zl_64, zl_97, zl_99, zl_100, zl_126, zl_255, zl_434, zl_496, zl_1000000, zl_100000, z_lt, z_le, z_eq, inB_z, z_div, Int.reduceToNat, Wp_some, Nx_l, Nx_r, cI_i, cV_v, cL_l, ite_t, ite_f, z_nn, toNat_c, bz_e0, g1, g2]
  unfold pnx pn
  by_cases e1 : nx + 1 < 8
  · rw [if_neg (by omega), if_pos e1]
    by_cases e2 : n < 8
    · rw [if_pos e2, if_neg (by omega), Wp_some, Nx_r]
      rfl
    · rw [if_pos (c := (8 : Int) < n + 1) (by omega), if_neg (c := n < 8) e2, Wp_some, Nx_r]
      rfl
  · rw [if_pos (by omega), if_neg e1]
    by_cases e2 : n < 8
    · rw [if_pos e2, if_neg (by omega), Wp_some, Nx_r]
      rfl
    · rw [if_pos (c := (8 : Int) < n + 1) (by omega), if_neg (c := n < 8) e2, Wp_some, Nx_r]
      rfl
theorem s_remember_history_before {b0 : Nat} (hb : b0 = 1) (hQ : QS D b0 v) (h6 : v 3 ≤ 6) (hH : HC D n nx p) (hn : n ≤ 8) (hnx : nx < 8) : ∃ D', S_X6_remember_history_before D = some (0, none, D') ∧ HC D' (pn n) (pnx nx) (pp n p v) ∧ FH D D' := by
  subst hb
  refine ⟨setI (setI (cp (nx + 3) 1 D) 123 (z (pnx nx))) 124 (z (pn n)), ?_, HC.push (by omega) hQ h6 hH hn hnx, FH.push hnx⟩
  obtain ⟨h1, h2, -⟩ := hH
  have e0 : b_X6_remember_history_before_0 D = some (.inl (1, [], cp (nx + 3) 1 D)) := by
    unfold b_X6_remember_history_before_0
    rw [h1, s_placeAt hnx, cR_r]
    have : nx = 0 ∨ nx = 1 ∨ nx = 2 ∨ nx = 3 ∨ nx = 4 ∨ nx = 5 ∨ nx = 6 ∨ nx = 7 := by omega
    rcases this with rfl | rfl | rfl | rfl | rfl | rfl | rfl | rfl <;> rfl
  unfold S_X6_remember_history_before
  refine RunP.eqn (c := 2) ?_ (by decide)
  refine RunP.go ?_
  show Wp (b_X6_remember_history_before_0 _) _
  rw [e0, Wp_some, Nx_l]
  refine RunP.go ?_
  show Wp (b_X6_remember_history_before_1 _) _
  have g1 : (cp (nx + 3) 1 D).1 123 = z nx := by rw [cp_i (by omega), h1]
  have g2 : (cp (nx + 3) 1 D).1 124 = z n := by rw [cp_i (by omega), h2]
  unfold b_X6_remember_history_before_1
  simp (disch := omega) only [z_add, z_sub, z_mul, z_neg, ite_T, ite_F, zl_0, zl_1, zl_2, zl_3, zl_4, zl_5, zl_6, zl_7, zl_8, zl_9, zl_10, zl_11, zl_12, zl_13, zl_14, zl_15, zl_16, zl_17, zl_18, zl_19, zl_20, zl_21, zl_22, zl_23, zl_24, zl_25, zl_26, zl_27, zl_28, zl_29, zl_30, zl_31, zl_32, zl_33, zl_34, zl_35, zl_36, zl_37, zl_38, zl_39, zl_40, zl_41, zl_42, zl_43, zl_44, zl_45, zl_46, zl_47, zl_48, zl_49, zl_50, zl_51, zl_52, zl_53, zl_54, zl_55, zl_56, zl_57, zl_58, zl_59, zl_60, zl_61, zl_62, zl_63, zl_64, zl_97, zl_99, zl_100, zl_126, zl_255, zl_434, zl_496, zl_1000000, zl_100000, z_lt, z_le, z_eq, inB_z, z_div, Int.reduceToNat, Wp_some, Nx_l, Nx_r, cI_i, cV_v, cL_l, ite_t, ite_f, z_nn, toNat_c, bz_e0, g1, g2]
  unfold pnx pn
  by_cases e1 : nx + 1 < 8
  · rw [if_neg (by omega), if_pos e1]
    by_cases e2 : n < 8
    · rw [if_pos e2, if_neg (by omega), Wp_some, Nx_r]
      rfl
    · rw [if_pos (c := (8 : Int) < n + 1) (by omega), if_neg (c := n < 8) e2, Wp_some, Nx_r]
      rfl
  · rw [if_pos (by omega), if_neg e1]
    by_cases e2 : n < 8
    · rw [if_pos e2, if_neg (by omega), Wp_some, Nx_r]
      rfl
    · rw [if_pos (c := (8 : Int) < n + 1) (by omega), if_neg (c := n < 8) e2, Wp_some, Nx_r]
      rfl
theorem s_takeBack (hH : HC D n nx p) (h0 : 0 < n) (hn : n ≤ 8) (hnx : nx < 8) (h6 : p (n - 1) 3 ≤ 6) : ∃ D', S_X6_takeBack D = some (0, some (.int (z ((n - 1 : Nat)))), D') ∧ CS D' (p (n - 1)) ∧ HC D' (n - 1) ((nx + 7) % 8) p ∧ (∀ k, (4 ≤ k ∧ k < 123) ∨ 125 ≤ k → D'.1 k = D.1 k) ∧ (∀ k, 1 ≤ k → D'.2.1 k = D.2.1 k) ∧ (∀ k, 4 ≤ k → D'.2.2.1 k = D.2.2.1 k) ∧ D'.2.2.2 = D.2.2.2 := by
  obtain ⟨h1, h2, h3⟩ := hH
  have hm : (nx + 7) % 8 < 8 := Nat.mod_lt _ (by omega)
  have hslot := h3 (n - 1) (by omega)
  rw [show (nx + 8 - n + (n - 1)) % 8 = (nx + 7) % 8 by omega] at hslot
  have q0 : QS (setI (setI D 123 (z (((nx + 7) % 8 : Nat)))) 124 (z ((n - 1 : Nat)))) ((nx + 7) % 8 + 3) (p (n - 1)) := hslot.ag (fun k _ _ => by rw [setI_1, if_neg (by omega), setI_1, if_neg (by omega)]) rfl (fun k _ _ => rfl)
  refine ⟨cp 0 ((nx + 7) % 8 + 3) (setI (setI D 123 (z (((nx + 7) % 8 : Nat)))) 124 (z ((n - 1 : Nat)))), ?_, cp_QS q0 h6, ⟨?_, ?_, fun i hi => ?_⟩, fun k hk => ?_, fun k hk => ?_, fun k hk => ?_, rfl⟩
  · have e : ∀ (u : Nat) (D2 : DD), u < 8 → D2.1 124 = z ((n - 1 : Nat)) → (cR (S_X6_placeAt (z u) D2) (fun q3 D2 => (if q3 = 18 then (cV (S_X8_copyFrom_state_ring0 D2) (fun D6 => some (0, some (.int (D6.1 124)), D6))) else (if q3 = 23 then (cV (S_X8_copyFrom_state_ring1 D2) (fun D9 => some (0, some (.int (D9.1 124)), D9))) else (if q3 = 28 then (cV (S_X8_copyFrom_state_ring2 D2) (fun D12 => some (0, some (.int (D12.1 124)), D12))) else (if q3 = 33 then (cV (S_X8_copyFrom_state_ring3 D2) (fun D15 => some (0, some (.int (D15.1 124)), D15))) else (if q3 = 38 then (cV (S_X8_copyFrom_state_ring4 D2) (fun D18 => some (0, some (.int (D18.1 124)), D18))) else (if q3 = 43 then (cV (S_X8_copyFrom_state_ring5 D2) (fun D21 => some (0, some (.int (D21.1 124)), D21))) else (if q3 = 48 then (cV (S_X8_copyFrom_state_ring6 D2) (fun D24 => some (0, some (.int (D24.1 124)), D24))) else (if q3 = 53 then (cV (S_X8_copyFrom_state_ring7 D2) (fun D27 => some (0, some (.int (D27.1 124)), D27))) else none))))))))) (fun D2 => some (0, some (.int (D2.1 124)), D2)) : Option RT) = some (0, some (.int (z ((n - 1 : Nat)))), cp 0 (u + 3) D2) := by
      intro u D2 hu h124
      rw [s_placeAt hu, cR_r]
      have g : (cp 0 (u + 3) D2).1 124 = z ((n - 1 : Nat)) := by rw [cp_i (by omega), h124]
      rw [← g]
      have : u = 0 ∨ u = 1 ∨ u = 2 ∨ u = 3 ∨ u = 4 ∨ u = 5 ∨ u = 6 ∨ u = 7 := by omega
      rcases this with rfl | rfl | rfl | rfl | rfl | rfl | rfl | rfl <;> rfl
    unfold S_X6_takeBack
    have s1 : D.1 124 - (1 : Int32) = z ((n - 1 : Nat)) := by
      rw [h2, show (1 : Int32) = z 1 from rfl, z_sub, show ((n : Int) - 1) = ((n - 1 : Nat) : Int) by omega]
    rw [if_neg (c := D.1 124 ≤ 0) (by rw [h2, show (0 : Int32) = z 0 from rfl, z_le (by omega) (by omega) (by omega) (by omega)]; omega), s1]
    by_cases hx : nx = 0
    · rw [if_pos (c := D.1 123 ≤ 0) (by rw [h1, show (0 : Int32) = z 0 from rfl, z_le (by omega) (by omega) (by omega) (by omega)]; omega)]
      have := e 7 (setI (setI D 123 (z 7)) 124 (z ((n - 1 : Nat)))) (by omega) rfl
      rw [show (nx + 7) % 8 = 7 by omega]
      exact this
    · have s2 : D.1 123 - (1 : Int32) = z ((nx - 1 : Nat)) := by
        rw [h1, show (1 : Int32) = z 1 from rfl, z_sub, show ((nx : Int) - 1) = ((nx - 1 : Nat) : Int) by omega]
      rw [if_neg (c := D.1 123 ≤ 0) (by rw [h1, show (0 : Int32) = z 0 from rfl, z_le (by omega) (by omega) (by omega) (by omega)]; omega), s2, show (nx + 7) % 8 = nx - 1 by omega]
      exact e (nx - 1) _ (by omega) rfl
  · rw [cp_i (by omega), setI_1, if_neg (by omega), setI_1, if_pos rfl]
  · rw [cp_i (by omega), setI_1, if_pos rfl]
  · have := h3 i (by omega)
    rw [show ((nx + 7) % 8 + 8 - (n - 1) + i) % 8 = (nx + 8 - n + i) % 8 by omega]
    exact this.ag (fun k _ _ => by rw [cp_i (by omega), setI_1, if_neg (by omega), setI_1, if_neg (by omega)]) (by rw [cp_j (by omega)]; rfl) (fun k _ _ => by rw [cp_a (by omega)]; rfl)
  · rw [cp_i (by omega), setI_1, if_neg (by omega), setI_1, if_neg (by omega)]
  · rw [cp_j (by omega)]
    rfl
  · rw [cp_a (by omega)]
    rfl
theorem m_lays_m_before_m_v (D : DD) : ∃ g, S_X13_lays_m_before_m_v D = some (0, none, setA D 71 g) ∧ ∀ k, k < 62 → g k = D.2.2.1 70 k := by
  have key : ∃ r, run T_X13_lays_m_before_m_v FUEL 0 [] D = some r ∧ ∃ g, r = (0, none, setA D 71 g) ∧ ∀ k, k < 62 → g k = D.2.2.1 70 k := by
    refine RunP.fin (c := 100) ?_ (by decide)
    refine RunP.go ?_
    show Wp (b_X13_lays_m_before_m_v_0 _) _
    unfold b_X13_lays_m_before_m_v_0
    simp only [Int.reduceToNat, Wp_some, Nx_l, Nx_r, cI_i, cV_v, cL_l, ite_t, ite_f, z_nn, toNat_c, bz_e0, z_add, z_sub, z_mul, z_neg, ite_T, ite_F, zl_0, zl_1, zl_2, zl_3, zl_4, zl_5, zl_6, zl_7, zl_8, zl_9, zl_10, zl_11, zl_12, zl_13, zl_14, zl_15, zl_16, zl_17, zl_18, zl_19, zl_20, zl_21, zl_22, zl_23, zl_24, zl_25, zl_26, zl_27, zl_28, zl_29, zl_30, zl_31, zl_32, zl_33, zl_34, zl_35, zl_36, zl_37, zl_38, zl_39, zl_40, zl_41, zl_42, zl_43, zl_44, zl_45, zl_46, zl_47, zl_48, zl_49, zl_50, zl_51, zl_52, zl_53, zl_54, zl_55, zl_56, zl_57, zl_58, zl_59, zl_60, zl_61, zl_62, zl_63, zl_64, zl_97, zl_99, zl_100, zl_126, zl_255, zl_434, zl_496, zl_1000000, zl_100000]
    refine RunP.loop (fun i ls D' => ls = [z i] ∧ ∃ g, D' = setA D 71 g ∧ ∀ k, k < i → g k = D.2.2.1 70 k) 62 1 1 ?_ ?_ 0 _ _ (by omega) ⟨rfl, D.2.2.1 71, (setA_self D 71).symm, fun k h => by omega⟩ (by omega)
    · rintro i ls D' c hi ⟨rfl, g, rfl, hg⟩ hkk
      refine RunP.go ?_
      show Wp (b_X13_lays_m_before_m_v_1 _ _) _
      unfold b_X13_lays_m_before_m_v_1
      simp (disch := omega) only [z_add, z_sub, z_mul, z_neg, ite_T, ite_F, zl_0, zl_1, zl_2, zl_3, zl_4, zl_5, zl_6, zl_7, zl_8, zl_9, zl_10, zl_11, zl_12, zl_13, zl_14, zl_15, zl_16, zl_17, zl_18, zl_19, zl_20, zl_21, zl_22, zl_23, zl_24, zl_25, zl_26, zl_27, zl_28, zl_29, zl_30, zl_31, zl_32, zl_33, zl_34, zl_35, zl_36, zl_37, zl_38, zl_39, zl_40, zl_41, zl_42, zl_43, zl_44, zl_45, zl_46, zl_47, zl_48, zl_49, zl_50, zl_51, zl_52, zl_53, zl_54, zl_55, zl_56, zl_57, zl_58, zl_59, zl_60, zl_61, zl_62, zl_63, zl_64, zl_97, zl_99, zl_100, zl_126, zl_255, zl_434, zl_496, zl_1000000, zl_100000, z_lt, z_le, z_eq, inB_z, z_div, Int.reduceToNat, Wp_some, Nx_l, Nx_r, cI_i, cV_v, cL_l, ite_t, ite_f, z_nn, toNat_c, bz_e0, setA_same, setA_two, setA_ne]
      refine hkk _ _ ⟨rfl, _, rfl, fun k hk => ?_⟩
      by_cases e : k = i
      · rw [e, upd_same]
      · rw [upd_ne _ _ e]
        exact hg k (by omega)
    · rintro ls D' ⟨rfl, g, rfl, hg⟩
      refine RunP.go ?_
      show Wp (b_X13_lays_m_before_m_v_1 _ _) _
      unfold b_X13_lays_m_before_m_v_1
      simp (disch := omega) only [z_add, z_sub, z_mul, z_neg, ite_T, ite_F, zl_0, zl_1, zl_2, zl_3, zl_4, zl_5, zl_6, zl_7, zl_8, zl_9, zl_10, zl_11, zl_12, zl_13, zl_14, zl_15, zl_16, zl_17, zl_18, zl_19, zl_20, zl_21, zl_22, zl_23, zl_24, zl_25, zl_26, zl_27, zl_28, zl_29, zl_30, zl_31, zl_32, zl_33, zl_34, zl_35, zl_36, zl_37, zl_38, zl_39, zl_40, zl_41, zl_42, zl_43, zl_44, zl_45, zl_46, zl_47, zl_48, zl_49, zl_50, zl_51, zl_52, zl_53, zl_54, zl_55, zl_56, zl_57, zl_58, zl_59, zl_60, zl_61, zl_62, zl_63, zl_64, zl_97, zl_99, zl_100, zl_126, zl_255, zl_434, zl_496, zl_1000000, zl_100000, z_lt, z_le, z_eq, inB_z, z_div, Int.reduceToNat, Wp_some, Nx_l, Nx_r, cI_i, cV_v, cL_l, ite_t, ite_f, z_nn, toNat_c, bz_e0]
      exact ⟨g, rfl, hg⟩
  obtain ⟨r, h1, g, rfl, h2⟩ := key
  exact ⟨g, h1, h2⟩
theorem m_lays_m_v_m_before (D : DD) : ∃ g, S_X13_lays_m_v_m_before D = some (0, none, setA D 70 g) ∧ ∀ k, k < 62 → g k = D.2.2.1 71 k := by
  have key : ∃ r, run T_X13_lays_m_v_m_before FUEL 0 [] D = some r ∧ ∃ g, r = (0, none, setA D 70 g) ∧ ∀ k, k < 62 → g k = D.2.2.1 71 k := by
    refine RunP.fin (c := 100) ?_ (by decide)
    refine RunP.go ?_
    show Wp (b_X13_lays_m_v_m_before_0 _) _
    unfold b_X13_lays_m_v_m_before_0
    simp only [Int.reduceToNat, Wp_some, Nx_l, Nx_r, cI_i, cV_v, cL_l, ite_t, ite_f, z_nn, toNat_c, bz_e0, z_add, z_sub, z_mul, z_neg, ite_T, ite_F, zl_0, zl_1, zl_2, zl_3, zl_4, zl_5, zl_6, zl_7, zl_8, zl_9, zl_10, zl_11, zl_12, zl_13, zl_14, zl_15, zl_16, zl_17, zl_18, zl_19, zl_20, zl_21, zl_22, zl_23, zl_24, zl_25, zl_26, zl_27, zl_28, zl_29, zl_30, zl_31, zl_32, zl_33, zl_34, zl_35, zl_36, zl_37, zl_38, zl_39, zl_40, zl_41, zl_42, zl_43, zl_44, zl_45, zl_46, zl_47, zl_48, zl_49, zl_50, zl_51, zl_52, zl_53, zl_54, zl_55, zl_56, zl_57, zl_58, zl_59, zl_60, zl_61, zl_62, zl_63, zl_64, zl_97, zl_99, zl_100, zl_126, zl_255, zl_434, zl_496, zl_1000000, zl_100000]
    refine RunP.loop (fun i ls D' => ls = [z i] ∧ ∃ g, D' = setA D 70 g ∧ ∀ k, k < i → g k = D.2.2.1 71 k) 62 1 1 ?_ ?_ 0 _ _ (by omega) ⟨rfl, D.2.2.1 70, (setA_self D 70).symm, fun k h => by omega⟩ (by omega)
    · rintro i ls D' c hi ⟨rfl, g, rfl, hg⟩ hkk
      refine RunP.go ?_
      show Wp (b_X13_lays_m_v_m_before_1 _ _) _
      unfold b_X13_lays_m_v_m_before_1
      simp (disch := omega) only [z_add, z_sub, z_mul, z_neg, ite_T, ite_F, zl_0, zl_1, zl_2, zl_3, zl_4, zl_5, zl_6, zl_7, zl_8, zl_9, zl_10, zl_11, zl_12, zl_13, zl_14, zl_15, zl_16, zl_17, zl_18, zl_19, zl_20, zl_21, zl_22, zl_23, zl_24, zl_25, zl_26, zl_27, zl_28, zl_29, zl_30, zl_31, zl_32, zl_33, zl_34, zl_35, zl_36, zl_37, zl_38, zl_39, zl_40, zl_41, zl_42, zl_43, zl_44, zl_45, zl_46, zl_47, zl_48, zl_49, zl_50, zl_51, zl_52, zl_53, zl_54, zl_55, zl_56, zl_57, zl_58, zl_59, zl_60, zl_61, zl_62, zl_63, zl_64, zl_97, zl_99, zl_100, zl_126, zl_255, zl_434, zl_496, zl_1000000, zl_100000, z_lt, z_le, z_eq, inB_z, z_div, Int.reduceToNat, Wp_some, Nx_l, Nx_r, cI_i, cV_v, cL_l, ite_t, ite_f, z_nn, toNat_c, bz_e0, setA_same, setA_two, setA_ne]
      refine hkk _ _ ⟨rfl, _, rfl, fun k hk => ?_⟩
      by_cases e : k = i
      · rw [e, upd_same]
      · rw [upd_ne _ _ e]
        exact hg k (by omega)
    · rintro ls D' ⟨rfl, g, rfl, hg⟩
      refine RunP.go ?_
      show Wp (b_X13_lays_m_v_m_before_1 _ _) _
      unfold b_X13_lays_m_v_m_before_1
      simp (disch := omega) only [z_add, z_sub, z_mul, z_neg, ite_T, ite_F, zl_0, zl_1, zl_2, zl_3, zl_4, zl_5, zl_6, zl_7, zl_8, zl_9, zl_10, zl_11, zl_12, zl_13, zl_14, zl_15, zl_16, zl_17, zl_18, zl_19, zl_20, zl_21, zl_22, zl_23, zl_24, zl_25, zl_26, zl_27, zl_28, zl_29, zl_30, zl_31, zl_32, zl_33, zl_34, zl_35, zl_36, zl_37, zl_38, zl_39, zl_40, zl_41, zl_42, zl_43, zl_44, zl_45, zl_46, zl_47, zl_48, zl_49, zl_50, zl_51, zl_52, zl_53, zl_54, zl_55, zl_56, zl_57, zl_58, zl_59, zl_60, zl_61, zl_62, zl_63, zl_64, zl_97, zl_99, zl_100, zl_126, zl_255, zl_434, zl_496, zl_1000000, zl_100000, z_lt, z_le, z_eq, inB_z, z_div, Int.reduceToNat, Wp_some, Nx_l, Nx_r, cI_i, cV_v, cL_l, ite_t, ite_f, z_nn, toNat_c, bz_e0]
      exact ⟨g, rfl, hg⟩
  obtain ⟨r, h1, g, rfl, h2⟩ := key
  exact ⟨g, h1, h2⟩
theorem m_lays_m_saved_m_v (D : DD) : ∃ g, S_X13_lays_m_saved_m_v D = some (0, none, setA D 72 g) ∧ ∀ k, k < 62 → g k = D.2.2.1 70 k := by
  have key : ∃ r, run T_X13_lays_m_saved_m_v FUEL 0 [] D = some r ∧ ∃ g, r = (0, none, setA D 72 g) ∧ ∀ k, k < 62 → g k = D.2.2.1 70 k := by
    refine RunP.fin (c := 100) ?_ (by decide)
    refine RunP.go ?_
    show Wp (b_X13_lays_m_saved_m_v_0 _) _
    unfold b_X13_lays_m_saved_m_v_0
    simp only [Int.reduceToNat, Wp_some, Nx_l, Nx_r, cI_i, cV_v, cL_l, ite_t, ite_f, z_nn, toNat_c, bz_e0, z_add, z_sub, z_mul, z_neg, ite_T, ite_F, zl_0, zl_1, zl_2, zl_3, zl_4, zl_5, zl_6, zl_7, zl_8, zl_9, zl_10, zl_11, zl_12, zl_13, zl_14, zl_15, zl_16, zl_17, zl_18, zl_19, zl_20, zl_21, zl_22, zl_23, zl_24, zl_25, zl_26, zl_27, zl_28, zl_29, zl_30, zl_31, zl_32, zl_33, zl_34, zl_35, zl_36, zl_37, zl_38, zl_39, zl_40, zl_41, zl_42, zl_43, zl_44, zl_45, zl_46, zl_47, zl_48, zl_49, zl_50, zl_51, zl_52, zl_53, zl_54, zl_55, zl_56, zl_57, zl_58, zl_59, zl_60, zl_61, zl_62, zl_63, zl_64, zl_97, zl_99, zl_100, zl_126, zl_255, zl_434, zl_496, zl_1000000, zl_100000]
    refine RunP.loop (fun i ls D' => ls = [z i] ∧ ∃ g, D' = setA D 72 g ∧ ∀ k, k < i → g k = D.2.2.1 70 k) 62 1 1 ?_ ?_ 0 _ _ (by omega) ⟨rfl, D.2.2.1 72, (setA_self D 72).symm, fun k h => by omega⟩ (by omega)
    · rintro i ls D' c hi ⟨rfl, g, rfl, hg⟩ hkk
      refine RunP.go ?_
      show Wp (b_X13_lays_m_saved_m_v_1 _ _) _
      unfold b_X13_lays_m_saved_m_v_1
      simp (disch := omega) only [z_add, z_sub, z_mul, z_neg, ite_T, ite_F, zl_0, zl_1, zl_2, zl_3, zl_4, zl_5, zl_6, zl_7, zl_8, zl_9, zl_10, zl_11, zl_12, zl_13, zl_14, zl_15, zl_16, zl_17, zl_18, zl_19, zl_20, zl_21, zl_22, zl_23, zl_24, zl_25, zl_26, zl_27, zl_28, zl_29, zl_30, zl_31, zl_32, zl_33, zl_34, zl_35, zl_36, zl_37, zl_38, zl_39, zl_40, zl_41, zl_42, zl_43, zl_44, zl_45, zl_46, zl_47, zl_48, zl_49, zl_50, zl_51, zl_52, zl_53, zl_54, zl_55, zl_56, zl_57, zl_58, zl_59, zl_60, zl_61, zl_62, zl_63, zl_64, zl_97, zl_99, zl_100, zl_126, zl_255, zl_434, zl_496, zl_1000000, zl_100000, z_lt, z_le, z_eq, inB_z, z_div, Int.reduceToNat, Wp_some, Nx_l, Nx_r, cI_i, cV_v, cL_l, ite_t, ite_f, z_nn, toNat_c, bz_e0, setA_same, setA_two, setA_ne]
      refine hkk _ _ ⟨rfl, _, rfl, fun k hk => ?_⟩
      by_cases e : k = i
      · rw [e, upd_same]
      · rw [upd_ne _ _ e]
        exact hg k (by omega)
    · rintro ls D' ⟨rfl, g, rfl, hg⟩
      refine RunP.go ?_
      show Wp (b_X13_lays_m_saved_m_v_1 _ _) _
      unfold b_X13_lays_m_saved_m_v_1
      simp (disch := omega) only [z_add, z_sub, z_mul, z_neg, ite_T, ite_F, zl_0, zl_1, zl_2, zl_3, zl_4, zl_5, zl_6, zl_7, zl_8, zl_9, zl_10, zl_11, zl_12, zl_13, zl_14, zl_15, zl_16, zl_17, zl_18, zl_19, zl_20, zl_21, zl_22, zl_23, zl_24, zl_25, zl_26, zl_27, zl_28, zl_29, zl_30, zl_31, zl_32, zl_33, zl_34, zl_35, zl_36, zl_37, zl_38, zl_39, zl_40, zl_41, zl_42, zl_43, zl_44, zl_45, zl_46, zl_47, zl_48, zl_49, zl_50, zl_51, zl_52, zl_53, zl_54, zl_55, zl_56, zl_57, zl_58, zl_59, zl_60, zl_61, zl_62, zl_63, zl_64, zl_97, zl_99, zl_100, zl_126, zl_255, zl_434, zl_496, zl_1000000, zl_100000, z_lt, z_le, z_eq, inB_z, z_div, Int.reduceToNat, Wp_some, Nx_l, Nx_r, cI_i, cV_v, cL_l, ite_t, ite_f, z_nn, toNat_c, bz_e0]
      exact ⟨g, rfl, hg⟩
  obtain ⟨r, h1, g, rfl, h2⟩ := key
  exact ⟨g, h1, h2⟩
theorem m_lays_m_v_m_saved (D : DD) : ∃ g, S_X13_lays_m_v_m_saved D = some (0, none, setA D 70 g) ∧ ∀ k, k < 62 → g k = D.2.2.1 72 k := by
  have key : ∃ r, run T_X13_lays_m_v_m_saved FUEL 0 [] D = some r ∧ ∃ g, r = (0, none, setA D 70 g) ∧ ∀ k, k < 62 → g k = D.2.2.1 72 k := by
    refine RunP.fin (c := 100) ?_ (by decide)
    refine RunP.go ?_
    show Wp (b_X13_lays_m_v_m_saved_0 _) _
    unfold b_X13_lays_m_v_m_saved_0
    simp only [Int.reduceToNat, Wp_some, Nx_l, Nx_r, cI_i, cV_v, cL_l, ite_t, ite_f, z_nn, toNat_c, bz_e0, z_add, z_sub, z_mul, z_neg, ite_T, ite_F, zl_0, zl_1, zl_2, zl_3, zl_4, zl_5, zl_6, zl_7, zl_8, zl_9, zl_10, zl_11, zl_12, zl_13, zl_14, zl_15, zl_16, zl_17, zl_18, zl_19, zl_20, zl_21, zl_22, zl_23, zl_24, zl_25, zl_26, zl_27, zl_28, zl_29, zl_30, zl_31, zl_32, zl_33, zl_34, zl_35, zl_36, zl_37, zl_38, zl_39, zl_40, zl_41, zl_42, zl_43, zl_44, zl_45, zl_46, zl_47, zl_48, zl_49, zl_50, zl_51, zl_52, zl_53, zl_54, zl_55, zl_56, zl_57, zl_58, zl_59, zl_60, zl_61, zl_62, zl_63, zl_64, zl_97, zl_99, zl_100, zl_126, zl_255, zl_434, zl_496, zl_1000000, zl_100000]
    refine RunP.loop (fun i ls D' => ls = [z i] ∧ ∃ g, D' = setA D 70 g ∧ ∀ k, k < i → g k = D.2.2.1 72 k) 62 1 1 ?_ ?_ 0 _ _ (by omega) ⟨rfl, D.2.2.1 70, (setA_self D 70).symm, fun k h => by omega⟩ (by omega)
    · rintro i ls D' c hi ⟨rfl, g, rfl, hg⟩ hkk
      refine RunP.go ?_
      show Wp (b_X13_lays_m_v_m_saved_1 _ _) _
      unfold b_X13_lays_m_v_m_saved_1
      simp (disch := omega) only [z_add, z_sub, z_mul, z_neg, ite_T, ite_F, zl_0, zl_1, zl_2, zl_3, zl_4, zl_5, zl_6, zl_7, zl_8, zl_9, zl_10, zl_11, zl_12, zl_13, zl_14, zl_15, zl_16, zl_17, zl_18, zl_19, zl_20, zl_21, zl_22, zl_23, zl_24, zl_25, zl_26, zl_27, zl_28, zl_29, zl_30, zl_31, zl_32, zl_33, zl_34, zl_35, zl_36, zl_37, zl_38, zl_39, zl_40, zl_41, zl_42, zl_43, zl_44, zl_45, zl_46, zl_47, zl_48, zl_49, zl_50, zl_51, zl_52, zl_53, zl_54, zl_55, zl_56, zl_57, zl_58, zl_59, zl_60, zl_61, zl_62, zl_63, zl_64, zl_97, zl_99, zl_100, zl_126, zl_255, zl_434, zl_496, zl_1000000, zl_100000, z_lt, z_le, z_eq, inB_z, z_div, Int.reduceToNat, Wp_some, Nx_l, Nx_r, cI_i, cV_v, cL_l, ite_t, ite_f, z_nn, toNat_c, bz_e0, setA_same, setA_two, setA_ne]
      refine hkk _ _ ⟨rfl, _, rfl, fun k hk => ?_⟩
      by_cases e : k = i
      · rw [e, upd_same]
      · rw [upd_ne _ _ e]
        exact hg k (by omega)
    · rintro ls D' ⟨rfl, g, rfl, hg⟩
      refine RunP.go ?_
      show Wp (b_X13_lays_m_v_m_saved_1 _ _) _
      unfold b_X13_lays_m_v_m_saved_1
      simp (disch := omega) only [z_add, z_sub, z_mul, z_neg, ite_T, ite_F, zl_0, zl_1, zl_2, zl_3, zl_4, zl_5, zl_6, zl_7, zl_8, zl_9, zl_10, zl_11, zl_12, zl_13, zl_14, zl_15, zl_16, zl_17, zl_18, zl_19, zl_20, zl_21, zl_22, zl_23, zl_24, zl_25, zl_26, zl_27, zl_28, zl_29, zl_30, zl_31, zl_32, zl_33, zl_34, zl_35, zl_36, zl_37, zl_38, zl_39, zl_40, zl_41, zl_42, zl_43, zl_44, zl_45, zl_46, zl_47, zl_48, zl_49, zl_50, zl_51, zl_52, zl_53, zl_54, zl_55, zl_56, zl_57, zl_58, zl_59, zl_60, zl_61, zl_62, zl_63, zl_64, zl_97, zl_99, zl_100, zl_126, zl_255, zl_434, zl_496, zl_1000000, zl_100000, z_lt, z_le, z_eq, inB_z, z_div, Int.reduceToNat, Wp_some, Nx_l, Nx_r, cI_i, cV_v, cL_l, ite_t, ite_f, z_nn, toNat_c, bz_e0]
      exact ⟨g, rfl, hg⟩
  obtain ⟨r, h1, g, rfl, h2⟩ := key
  exact ⟨g, h1, h2⟩
theorem m_begins (D : DD) : ∃ g, S_X13_begins D = some (0, none, setA (setI D 140 (z 0)) 71 g) ∧ ∀ k, k < 62 → g k = D.2.2.1 70 k := by
  obtain ⟨g, h1, h2⟩ := m_lays_m_before_m_v (setI D 140 (z 0))
  refine ⟨g, ?_, h2⟩
  unfold S_X13_begins
  rw [show (0 : Int32) = z 0 from rfl, h1, cV_v]
def f141 (k : Nat) : Bool := k == 141
def f73 (k : Nat) : Bool := k == 73
theorem m_ends_no {t : Int} (h : D.1 140 = z t) (ht : t ≠ 0) (h1 : -2147483648 ≤ t) (h2 : t < 2147483648) (x : Int32) (hb : RV (D.2.2.1 71) w) : ∃ g, S_X13_ends x D = some (0, some (.int (z 0)), setA D 70 g) ∧ RV g w := by
  obtain ⟨g, q1, q2⟩ := m_lays_m_v_m_before D
  refine ⟨g, ?_, fun k hk => by rw [q2 k hk]; exact hb k hk⟩
  unfold S_X13_ends
  refine RunP.eqn (c := 1) ?_ (by decide)
  refine RunP.go ?_
  show Wp (b_X13_ends_0 _ _) _
  unfold b_X13_ends_0
  rw [h, show (0 : Int32) = z 0 from rfl, if_neg (by rw [z_eq (by omega) (by omega) (by omega) (by omega)]; exact ht), q1, cV_v, Wp_some, Nx_r]
theorem m_ends_ok (h : D.1 140 = z 0) (x : Int32) (hH : HM D n p) (hn : n ≤ 8) (hb : RV (D.2.2.1 71) w) : ∃ D', S_X13_ends x D = some (0, some (.int x), D') ∧ FG f141 n0 f73 false D D' ∧ HM D' (pn n) (pp n p w) := by
  obtain ⟨h1, h2⟩ := hH
  have key : ∃ r, run T_X13_ends FUEL 0 [x] D = some r ∧ ∃ D', r = (0, some (.int x), D') ∧ FG f141 n0 f73 false D D' ∧ HM D' (pn n) (pp n p w) := by
    refine RunP.fin (c := 1000) ?_ (by decide)
    have tail : ∀ (D1 : DD) (m : Nat) (q : Nat → Nat → Nat), m ≤ 7 → FG f141 n0 f73 false D D1 → HM D1 m q → (∀ i, i < m → q i = pp n p w i) → pp n p w m = w → pn n = m + 1 → RunP T_X13_ends 80 2 [x, z 0] D1 (fun r => ∃ D', r = (0, some (.int x), D') ∧ FG f141 n0 f73 false D D' ∧ HM D' (pn n) (pp n p w)) := by
      intro D1 m q hm hf hH1 hq hw hpn
      have hb1 : RV (D1.2.2.1 71) w := by rw [hf.2.2.1 71 rfl]; exact hb
      refine RunP.loop (fun i ls D' => ls = [x, z i] ∧ ∃ g, D' = setA D1 73 g ∧ (∀ j, j < 62 * m → g j = D1.2.2.1 73 j) ∧ ∀ k, k < i → g (62 * m + k) = z (w k)) 62 1 1 ?_ ?_ 0 _ _ (by omega) ⟨rfl, D1.2.2.1 73, (setA_self D1 73).symm, fun _ _ => rfl, fun k h => by omega⟩ (by omega)
      · rintro i ls D' c hi ⟨rfl, g, rfl, g1, g2⟩ hkk
        have e71 := hb1 i (by omega)
        have e141 : (setA D1 73 g).1 141 = z m := hH1.1
        refine RunP.go ?_
        show Wp (b_X13_ends_2 _ _ _) _
        unfold b_X13_ends_2
        simp (disch := omega) only [z_add, z_sub, z_mul, z_neg, ite_T, ite_F, zl_0, zl_1, zl_2, zl_3, zl_4, zl_5, zl_6, zl_7, zl_8, zl_9, zl_10, zl_11, zl_12, zl_13, zl_14, zl_15, zl_16, zl_17, zl_18, zl_19, zl_20, zl_21, zl_22, zl_23, zl_24, zl_25, zl_26, zl_27, zl_28, zl_29, zl_30, zl_31, zl_32, zl_33, zl_34, zl_35, zl_36, zl_37, zl_38, zl_39, zl_40, zl_41, zl_42, zl_43, zl_44, zl_45, zl_46, zl_47, zl_48, zl_49, zl_50, zl_51, zl_52, zl_53, zl_54, zl_55, zl_56, zl_57, zl_58, zl_59, zl_60, zl_61, zl_62, zl_63, zl_64, zl_97, zl_99, zl_100, zl_126, zl_255, zl_434, zl_496, zl_1000000, zl_100000, z_lt, z_le, z_eq, inB_z, z_div, Int.reduceToNat, Wp_some, Nx_l, Nx_r, cI_i, cV_v, cL_l, ite_t, ite_f, z_nn, toNat_c, bz_e0, setA_same, setA_two, setA_ne, e71, e141]
        rw [show ((m : Int) * 62 + i).toNat = 62 * m + i by omega]
        refine hkk _ _ ⟨rfl, _, rfl, fun j hj => ?_, fun k hk => ?_⟩
        · rw [upd_ne _ _ (by omega)]
          exact g1 j hj
        · by_cases e : k = i
          · rw [e, upd_same]
          · rw [upd_ne _ _ (by omega)]
            exact g2 k (by omega)
      · rintro ls D' ⟨rfl, g, rfl, g1, g2⟩
        have e141 : (setA D1 73 g).1 141 = z m := hH1.1
        refine RunP.go ?_
        show Wp (b_X13_ends_2 _ _ _) _
        unfold b_X13_ends_2
        simp (disch := omega) only [z_add, z_sub, z_mul, z_neg, ite_T, ite_F, zl_0, zl_1, zl_2, zl_3, zl_4, zl_5, zl_6, zl_7, zl_8, zl_9, zl_10, zl_11, zl_12, zl_13, zl_14, zl_15, zl_16, zl_17, zl_18, zl_19, zl_20, zl_21, zl_22, zl_23, zl_24, zl_25, zl_26, zl_27, zl_28, zl_29, zl_30, zl_31, zl_32, zl_33, zl_34, zl_35, zl_36, zl_37, zl_38, zl_39, zl_40, zl_41, zl_42, zl_43, zl_44, zl_45, zl_46, zl_47, zl_48, zl_49, zl_50, zl_51, zl_52, zl_53, zl_54, zl_55, zl_56, zl_57, zl_58, zl_59, zl_60, zl_61, zl_62, zl_63, zl_64, zl_97, zl_99, zl_100, zl_126, zl_255, zl_434, zl_496, zl_1000000, zl_100000, z_lt, z_le, z_eq, inB_z, z_div, Int.reduceToNat, Wp_some, Nx_l, Nx_r, cI_i, cV_v, cL_l, ite_t, ite_f, z_nn, toNat_c, bz_e0, e141]
        refine ⟨_, rfl, (hf.sA rfl).sI rfl, ?_, fun i hi k hk => ?_⟩
        · rw [setI_same, hpn]
          rfl
        · rw [hpn] at hi
          show (setA D1 73 g).2.2.1 73 (62 * i + k) = _
          rw [setA_same]
          by_cases e : i = m
          · rw [e, hw]
            exact g2 k hk
          · rw [g1 _ (by omega), ← hq i (by omega)]
            exact hH1.2 i (by omega) k hk
    refine RunP.go ?_
    show Wp (b_X13_ends_0 _ _) _
    unfold b_X13_ends_0
    simp (disch := omega) only [z_add, z_sub, z_mul, z_neg, ite_T, ite_F, zl_0, zl_1, zl_2, zl_3, zl_4, zl_5, zl_6, zl_7, zl_8, zl_9, zl_10, zl_11, zl_12, zl_13, zl_14, zl_15, zl_16, zl_17, zl_18, zl_19, zl_20, zl_21, zl_22, zl_23, zl_24, zl_25, zl_26, zl_27, zl_28, zl_29, zl_30, zl_31, zl_32, zl_33, zl_34, zl_35, zl_36, zl_37, zl_38, zl_39, zl_40, zl_41, zl_42, zl_43, zl_44, zl_45, zl_46, zl_47, zl_48, zl_49, zl_50, zl_51, zl_52, zl_53, zl_54, zl_55, zl_56, zl_57, zl_58, zl_59, zl_60, zl_61, zl_62, zl_63, zl_64, zl_97, zl_99, zl_100, zl_126, zl_255, zl_434, zl_496, zl_1000000, zl_100000, z_lt, z_le, z_eq, inB_z, z_div, Int.reduceToNat, Wp_some, Nx_l, Nx_r, cI_i, cV_v, cL_l, ite_t, ite_f, z_nn, toNat_c, bz_e0, h, h1]
    by_cases h8 : n = 8
    · subst h8
      rw [if_pos (by omega), Wp_some, Nx_l]
      refine RunP.loop (fun i ls D' => ls = [x, z i] ∧ ∃ g, D' = setA D 73 g ∧ ∀ j, j < 496 → g j = if j < i then D.2.2.1 73 (j + 62) else D.2.2.1 73 j) 434 1 81 ?_ ?_ 0 _ _ (by omega) ⟨rfl, D.2.2.1 73, (setA_self D 73).symm, fun j _ => by rw [if_neg (by omega)]⟩ (by omega)
      · rintro i ls D' c hi ⟨rfl, g, rfl, hg⟩ hkk
        refine RunP.go ?_
        show Wp (b_X13_ends_1 _ _ _) _
        unfold b_X13_ends_1
        simp (disch := omega) only [z_add, z_sub, z_mul, z_neg, ite_T, ite_F, zl_0, zl_1, zl_2, zl_3, zl_4, zl_5, zl_6, zl_7, zl_8, zl_9, zl_10, zl_11, zl_12, zl_13, zl_14, zl_15, zl_16, zl_17, zl_18, zl_19, zl_20, zl_21, zl_22, zl_23, zl_24, zl_25, zl_26, zl_27, zl_28, zl_29, zl_30, zl_31, zl_32, zl_33, zl_34, zl_35, zl_36, zl_37, zl_38, zl_39, zl_40, zl_41, zl_42, zl_43, zl_44, zl_45, zl_46, zl_47, zl_48, zl_49, zl_50, zl_51, zl_52, zl_53, zl_54, zl_55, zl_56, zl_57, zl_58, zl_59, zl_60, zl_61, zl_62, zl_63, zl_64, zl_97, zl_99, zl_100, zl_126, zl_255, zl_434, zl_496, zl_1000000, zl_100000, z_lt, z_le, z_eq, inB_z, z_div, Int.reduceToNat, Wp_some, Nx_l, Nx_r, cI_i, cV_v, cL_l, ite_t, ite_f, z_nn, toNat_c, bz_e0, setA_same, setA_two]
        refine hkk _ _ ⟨rfl, _, rfl, fun j hj => ?_⟩
        by_cases e : j = i
        · rw [e, upd_same, if_pos (by omega), show ((i : Int) + 62).toNat = i + 62 by omega, hg _ (by omega), if_neg (by omega)]
        · rw [upd_ne _ _ e, hg j hj]
          by_cases h : j < i
          · rw [if_pos h, if_pos (by omega)]
          · rw [if_neg h, if_neg (by omega)]
      · rintro ls D' ⟨rfl, g, rfl, hg⟩
        have e141 : (setA D 73 g).1 141 = z ((8 : Nat) : Int) := h1
        refine RunP.go ?_
        show Wp (b_X13_ends_1 _ _ _) _
        unfold b_X13_ends_1
        simp (disch := omega) only [z_add, z_sub, z_mul, z_neg, ite_T, ite_F, zl_0, zl_1, zl_2, zl_3, zl_4, zl_5, zl_6, zl_7, zl_8, zl_9, zl_10, zl_11, zl_12, zl_13, zl_14, zl_15, zl_16, zl_17, zl_18, zl_19, zl_20, zl_21, zl_22, zl_23, zl_24, zl_25, zl_26, zl_27, zl_28, zl_29, zl_30, zl_31, zl_32, zl_33, zl_34, zl_35, zl_36, zl_37, zl_38, zl_39, zl_40, zl_41, zl_42, zl_43, zl_44, zl_45, zl_46, zl_47, zl_48, zl_49, zl_50, zl_51, zl_52, zl_53, zl_54, zl_55, zl_56, zl_57, zl_58, zl_59, zl_60, zl_61, zl_62, zl_63, zl_64, zl_97, zl_99, zl_100, zl_126, zl_255, zl_434, zl_496, zl_1000000, zl_100000, z_lt, z_le, z_eq, inB_z, z_div, Int.reduceToNat, Wp_some, Nx_l, Nx_r, cI_i, cV_v, cL_l, ite_t, ite_f, z_nn, toNat_c, bz_e0, e141]
        refine tail _ 7 (fun i => p (i + 1)) (by omega) ((FG.rfl.sA rfl).sI rfl) ⟨setI_same _ _ _, fun i hi k hk => ?_⟩ (fun i hi => ?_) ?_ rfl
        · show (setA D 73 g).2.2.1 73 (62 * i + k) = _
          rw [setA_same, hg _ (by omega), if_pos (by omega), show 62 * i + k + 62 = 62 * (i + 1) + k by omega]
          exact h2 (i + 1) (by omega) k hk
        · unfold pp
          rw [if_neg (by omega), if_neg (by omega)]
        · unfold pp
          rw [if_neg (by omega), if_pos rfl]
    · rw [if_neg (by omega), Wp_some, Nx_l]
      refine (tail D n p (by omega) FG.rfl ⟨h1, h2⟩ (fun i hi => ?_) ?_ ?_).mono (by omega)
      · unfold pp
        rw [if_pos (by omega), if_neg (by omega)]
      · unfold pp
        rw [if_pos (by omega), if_pos rfl]
      · unfold pn
        rw [if_pos (by omega)]
  obtain ⟨r, q1, D', rfl, q2⟩ := key
  exact ⟨D', q1, q2⟩
theorem m_undo_no (h : D.1 141 = z 0) : S_X13_undo D = some (0, some (.int (z 0)), setI D 140 (z 1)) := by
  unfold S_X13_undo
  refine RunP.eqn (c := 1) ?_ (by decide)
  refine RunP.go ?_
  show Wp (b_X13_undo_0 _) _
  unfold b_X13_undo_0
  simp (disch := omega) only [z_add, z_sub, z_mul, z_neg, ite_T, ite_F, zl_0, zl_1, zl_2, zl_3, zl_4, zl_5, zl_6, zl_7, zl_8, zl_9, zl_10, zl_11, zl_12, zl_13, zl_14, zl_15, zl_16, zl_17, zl_18, zl_19, zl_20, zl_21, zl_22, zl_23, zl_24, zl_25, zl_26, zl_27, zl_28, zl_29, zl_30, zl_31, zl_32, zl_33, zl_34, zl_35, zl_36, zl_37, zl_38, zl_39, zl_40, zl_41, zl_42, zl_43, zl_44, zl_45, zl_46, zl_47, zl_48, zl_49, zl_50, zl_51, zl_52, zl_53, zl_54, zl_55, zl_56, zl_57, zl_58, zl_59, zl_60, zl_61, zl_62, zl_63, zl_64, zl_97, zl_99, zl_100, zl_126, zl_255, zl_434, zl_496, zl_1000000, zl_100000, z_lt, z_le, z_eq, inB_z, z_div, Int.reduceToNat, Wp_some, Nx_l, Nx_r, cI_i, cV_v, cL_l, ite_t, ite_f, z_nn, toNat_c, bz_e0, h]
theorem m_undo_ok (hH : HM D n p) (h0 : 0 < n) (hn : n ≤ 8) : ∃ g, S_X13_undo D = some (0, some (.int (z ((n - 1 : Nat)))), setA (setI (setI D 140 (z 0)) 141 (z ((n - 1 : Nat)))) 70 g) ∧ RV g (p (n - 1)) := by
  obtain ⟨h1, h2⟩ := hH
  have key : ∃ r, run T_X13_undo FUEL 0 [] D = some r ∧ ∃ g, r = (0, some (.int (z ((n - 1 : Nat)))), setA (setI (setI D 140 (z 0)) 141 (z ((n - 1 : Nat)))) 70 g) ∧ RV g (p (n - 1)) := by
    refine RunP.fin (c := 100) ?_ (by decide)
    refine RunP.go ?_
    show Wp (b_X13_undo_0 _) _
    unfold b_X13_undo_0
    simp (disch := omega) only [z_add, z_sub, z_mul, z_neg, ite_T, ite_F, zl_0, zl_1, zl_2, zl_3, zl_4, zl_5, zl_6, zl_7, zl_8, zl_9, zl_10, zl_11, zl_12, zl_13, zl_14, zl_15, zl_16, zl_17, zl_18, zl_19, zl_20, zl_21, zl_22, zl_23, zl_24, zl_25, zl_26, zl_27, zl_28, zl_29, zl_30, zl_31, zl_32, zl_33, zl_34, zl_35, zl_36, zl_37, zl_38, zl_39, zl_40, zl_41, zl_42, zl_43, zl_44, zl_45, zl_46, zl_47, zl_48, zl_49, zl_50, zl_51, zl_52, zl_53, zl_54, zl_55, zl_56, zl_57, zl_58, zl_59, zl_60, zl_61, zl_62, zl_63, zl_64, zl_97, zl_99, zl_100, zl_126, zl_255, zl_434, zl_496, zl_1000000, zl_100000, z_lt, z_le, z_eq, inB_z, z_div, Int.reduceToNat, Wp_some, Nx_l, Nx_r, cI_i, cV_v, cL_l, ite_t, ite_f, z_nn, toNat_c, bz_e0, h1]
    rw [show ((n : Int) - 1) = ((n - 1 : Nat) : Int) by omega]
    refine RunP.loop (fun i ls D' => ls = [z i] ∧ ∃ g, D' = setA (setI (setI D 140 (z 0)) 141 (z ((n - 1 : Nat)))) 70 g ∧ ∀ k, k < i → g k = z (p (n - 1) k)) 62 1 1 ?_ ?_ 0 _ _ (by omega) ⟨rfl, D.2.2.1 70, (setA_self _ 70).symm, fun k h => by omega⟩ (by omega)
    · rintro i ls D' c hi ⟨rfl, g, rfl, hg⟩ hkk
      have e141 : (setA (setI (setI D 140 (z 0)) 141 (z ((n - 1 : Nat)))) 70 g).1 141 = z ((n - 1 : Nat)) := rfl
      have e73 : (setA (setI (setI D 140 (z 0)) 141 (z ((n - 1 : Nat)))) 70 g).2.2.1 73 (62 * (n - 1) + i) = z (p (n - 1) i) := h2 (n - 1) (by omega) i hi
      refine RunP.go ?_
      show Wp (b_X13_undo_1 _ _) _
      unfold b_X13_undo_1
      simp (disch := omega) only [z_add, z_sub, z_mul, z_neg, ite_T, ite_F, zl_0, zl_1, zl_2, zl_3, zl_4, zl_5, zl_6, zl_7, zl_8, zl_9, zl_10, zl_11, zl_12, zl_13, zl_14, zl_15, zl_16, zl_17, zl_18, zl_19, zl_20, zl_21, zl_22, zl_23, zl_24, zl_25, zl_26, zl_27, zl_28, zl_29, zl_30, zl_31, zl_32, zl_33, zl_34, zl_35, zl_36, zl_37, zl_38, zl_39, zl_40, zl_41, zl_42, zl_43, zl_44, zl_45, zl_46, zl_47, zl_48, zl_49, zl_50, zl_51, zl_52, zl_53, zl_54, zl_55, zl_56, zl_57, zl_58, zl_59, zl_60, zl_61, zl_62, zl_63, zl_64, zl_97, zl_99, zl_100, zl_126, zl_255, zl_434, zl_496, zl_1000000, zl_100000, z_lt, z_le, z_eq, inB_z, z_div, Int.reduceToNat, Wp_some, Nx_l, Nx_r, cI_i, cV_v, cL_l, ite_t, ite_f, z_nn, toNat_c, bz_e0, setA_same, setA_two, e141]
      rw [show (((n - 1 : Nat) : Int) * 62 + i).toNat = 62 * (n - 1) + i by omega, e73]
      refine hkk _ _ ⟨rfl, _, rfl, fun k hk => ?_⟩
      by_cases e : k = i
      · rw [e, upd_same]
      · rw [upd_ne _ _ e]
        exact hg k (by omega)
    · rintro ls D' ⟨rfl, g, rfl, hg⟩
      refine RunP.go ?_
      show Wp (b_X13_undo_1 _ _) _
      unfold b_X13_undo_1
      simp (disch := omega) only [z_add, z_sub, z_mul, z_neg, ite_T, ite_F, zl_0, zl_1, zl_2, zl_3, zl_4, zl_5, zl_6, zl_7, zl_8, zl_9, zl_10, zl_11, zl_12, zl_13, zl_14, zl_15, zl_16, zl_17, zl_18, zl_19, zl_20, zl_21, zl_22, zl_23, zl_24, zl_25, zl_26, zl_27, zl_28, zl_29, zl_30, zl_31, zl_32, zl_33, zl_34, zl_35, zl_36, zl_37, zl_38, zl_39, zl_40, zl_41, zl_42, zl_43, zl_44, zl_45, zl_46, zl_47, zl_48, zl_49, zl_50, zl_51, zl_52, zl_53, zl_54, zl_55, zl_56, zl_57, zl_58, zl_59, zl_60, zl_61, zl_62, zl_63, zl_64, zl_97, zl_99, zl_100, zl_126, zl_255, zl_434, zl_496, zl_1000000, zl_100000, z_lt, z_le, z_eq, inB_z, z_div, Int.reduceToNat, Wp_some, Nx_l, Nx_r, cI_i, cV_v, cL_l, ite_t, ite_f, z_nn, toNat_c, bz_e0]
      exact ⟨g, rfl, hg⟩
  obtain ⟨r, q1, g, rfl, q2⟩ := key
  exact ⟨g, q1, q2⟩
end LL
