/-! pure: numbers, data, steps -/
def z (n : Int) : Int32 := Int32.ofInt n
theorem z_neg (a : Int) : -z a = z (-a) := Int32.neg_ofInt
theorem ite_T {α : Type} {a b : α} : (if True then a else b) = a := if_pos trivial
theorem ite_F {α : Type} {a b : α} : (if False then a else b) = b := if_neg id
theorem z_toInt {a : Int} (h : -2147483648 ≤ a) (h2 : a < 2147483648) : (z a).toInt = a := Int32.toInt_ofInt_of_le h h2
theorem z_add (a b : Int) : z a + z b = z (a + b) := (Int32.ofInt_add a b).symm
theorem z_sub (a b : Int) : z a - z b = z (a - b) := (Int32.ofInt_sub a b).symm
theorem z_mul (a b : Int) : z a * z b = z (a * b) := (Int32.ofInt_mul a b).symm
theorem z_lt {a b : Int} (h1 : -2147483648 ≤ a) (h2 : a < 2147483648) (h3 : -2147483648 ≤ b) (h4 : b < 2147483648) : (z a < z b) = (a < b) := propext (by rw [Int32.lt_iff_toInt_lt, z_toInt h1 h2, z_toInt h3 h4])
theorem z_le {a b : Int} (h1 : -2147483648 ≤ a) (h2 : a < 2147483648) (h3 : -2147483648 ≤ b) (h4 : b < 2147483648) : (z a ≤ z b) = (a ≤ b) := propext (by rw [Int32.le_iff_toInt_le, z_toInt h1 h2, z_toInt h3 h4])
theorem z_eq {a b : Int} (h1 : -2147483648 ≤ a) (h2 : a < 2147483648) (h3 : -2147483648 ≤ b) (h4 : b < 2147483648) : (z a = z b) = (a = b) := propext (by rw [← Int32.toInt_inj, z_toInt h1 h2, z_toInt h3 h4])
theorem z_nn {a : Int} (h1 : -2147483648 ≤ a) (h2 : a < 2147483648) : (z a).toNatClampNeg = a.toNat := Int32.toNatClampNeg_ofInt_of_le h1 h2
theorem z_div {a b : Int} (h1 : 0 ≤ a) (h2 : a < 2147483648) (h3 : 0 < b) (h4 : b < 2147483648) : z a / z b = z (a / b) := by
  apply Int32.toInt_inj.mp
  have hb : (z b).toInt = b := z_toInt (by omega) h4
  have ha : (z a).toInt = a := z_toInt (by omega) h2
  have hd1 : 0 ≤ a / b := Int.ediv_nonneg h1 (by omega)
  have hd2 : a / b ≤ a := Int.ediv_le_self b h1
  rw [Int32.toInt_div_of_ne_right _ _ (by
    intro h
    have : (z b).toInt = (-1 : Int32).toInt := by rw [h]
    rw [hb] at this
    have e : (-1 : Int32).toInt = -1 := by decide
    omega), ha, hb, z_toInt (by omega) (by omega), Int.tdiv_eq_ediv_of_nonneg h1]
theorem z_of (x : Int32) : ∃ a : Int, x = z a ∧ -2147483648 ≤ a ∧ a < 2147483648 := ⟨x.toInt, (Int32.ofInt_toInt x).symm, x.le_toInt, x.toInt_lt⟩
theorem inB_z {a : Int} {n : Nat} (h1 : -2147483648 ≤ a) (h2 : a < 2147483648) : (inB (z a) n = true) = (0 ≤ a ∧ a < n) := propext (by
  have h0 : (0 : Int32) = z 0 := by decide
  unfold inB
  rw [Bool.and_eq_true, decide_eq_true_eq, decide_eq_true_eq, h0, z_le (by decide) (by decide) h1 h2, z_nn h1 h2]
  omega)
theorem z_nI (k : Nat) : Int32.ofNat k = z k := Int32.ofInt_eq_ofNat.symm
theorem zl_0 : (0 : Int32) = z 0 := by decide
theorem zl_1 : (1 : Int32) = z 1 := by decide
theorem zl_2 : (2 : Int32) = z 2 := by decide
theorem zl_3 : (3 : Int32) = z 3 := by decide
theorem zl_4 : (4 : Int32) = z 4 := by decide
theorem zl_5 : (5 : Int32) = z 5 := by decide
theorem zl_6 : (6 : Int32) = z 6 := by decide
theorem zl_7 : (7 : Int32) = z 7 := by decide
theorem zl_8 : (8 : Int32) = z 8 := by decide
theorem zl_9 : (9 : Int32) = z 9 := by decide
theorem zl_10 : (10 : Int32) = z 10 := by decide
theorem zl_11 : (11 : Int32) = z 11 := by decide
theorem zl_12 : (12 : Int32) = z 12 := by decide
theorem zl_13 : (13 : Int32) = z 13 := by decide
theorem zl_14 : (14 : Int32) = z 14 := by decide
theorem zl_15 : (15 : Int32) = z 15 := by decide
theorem zl_16 : (16 : Int32) = z 16 := by decide
theorem zl_17 : (17 : Int32) = z 17 := by decide
theorem zl_18 : (18 : Int32) = z 18 := by decide
theorem zl_19 : (19 : Int32) = z 19 := by decide
theorem zl_20 : (20 : Int32) = z 20 := by decide
theorem zl_21 : (21 : Int32) = z 21 := by decide
theorem zl_22 : (22 : Int32) = z 22 := by decide
theorem zl_23 : (23 : Int32) = z 23 := by decide
theorem zl_24 : (24 : Int32) = z 24 := by decide
theorem zl_25 : (25 : Int32) = z 25 := by decide
theorem zl_26 : (26 : Int32) = z 26 := by decide
theorem zl_27 : (27 : Int32) = z 27 := by decide
theorem zl_28 : (28 : Int32) = z 28 := by decide
theorem zl_29 : (29 : Int32) = z 29 := by decide
theorem zl_30 : (30 : Int32) = z 30 := by decide
theorem zl_31 : (31 : Int32) = z 31 := by decide
theorem zl_32 : (32 : Int32) = z 32 := by decide
theorem zl_33 : (33 : Int32) = z 33 := by decide
theorem zl_34 : (34 : Int32) = z 34 := by decide
theorem zl_35 : (35 : Int32) = z 35 := by decide
theorem zl_36 : (36 : Int32) = z 36 := by decide
theorem zl_37 : (37 : Int32) = z 37 := by decide
theorem zl_38 : (38 : Int32) = z 38 := by decide
theorem zl_39 : (39 : Int32) = z 39 := by decide
theorem zl_40 : (40 : Int32) = z 40 := by decide
theorem zl_41 : (41 : Int32) = z 41 := by decide
theorem zl_42 : (42 : Int32) = z 42 := by decide
theorem zl_43 : (43 : Int32) = z 43 := by decide
theorem zl_44 : (44 : Int32) = z 44 := by decide
theorem zl_45 : (45 : Int32) = z 45 := by decide
theorem zl_46 : (46 : Int32) = z 46 := by decide
theorem zl_47 : (47 : Int32) = z 47 := by decide
theorem zl_48 : (48 : Int32) = z 48 := by decide
theorem zl_49 : (49 : Int32) = z 49 := by decide
theorem zl_50 : (50 : Int32) = z 50 := by decide
theorem zl_51 : (51 : Int32) = z 51 := by decide
theorem zl_52 : (52 : Int32) = z 52 := by decide
theorem zl_53 : (53 : Int32) = z 53 := by decide
theorem zl_54 : (54 : Int32) = z 54 := by decide
theorem zl_55 : (55 : Int32) = z 55 := by decide
theorem zl_56 : (56 : Int32) = z 56 := by decide
theorem zl_57 : (57 : Int32) = z 57 := by decide
theorem zl_58 : (58 : Int32) = z 58 := by decide
theorem zl_59 : (59 : Int32) = z 59 := by decide
theorem zl_60 : (60 : Int32) = z 60 := by decide
theorem zl_61 : (61 : Int32) = z 61 := by decide
theorem zl_62 : (62 : Int32) = z 62 := by decide
theorem zl_63 : (63 : Int32) = z 63 := by decide
theorem zl_64 : (64 : Int32) = z 64 := by decide
theorem zl_97 : (97 : Int32) = z 97 := by decide
theorem zl_99 : (99 : Int32) = z 99 := by decide
theorem zl_100 : (100 : Int32) = z 100 := by decide
theorem zl_126 : (126 : Int32) = z 126 := by decide
theorem zl_255 : (255 : Int32) = z 255 := by decide
theorem zl_434 : (434 : Int32) = z 434 := by decide
theorem zl_496 : (496 : Int32) = z 496 := by decide
theorem zl_1000000 : (1000000 : Int32) = z 1000000 := by decide
theorem zl_100000 : (100000 : Int32) = z 100000 := by decide
theorem zl_m1 : (-1 : Int32) = z (-1) := by decide
theorem zl_m100000 : (-100000 : Int32) = z (-100000) := by decide

-- data
theorem setI_1 (D : DD) (k : Nat) (v : Int32) (j : Nat) : (setI D k v).1 j = if j = k then v else D.1 j := rfl
theorem setI_2 (D : DD) (k : Nat) (v : Int32) : (setI D k v).2 = D.2 := rfl
theorem setJ_1 (D : DD) (k : Nat) (v : Int64) : (setJ D k v).1 = D.1 := rfl
theorem setJ_21 (D : DD) (k : Nat) (v : Int64) (j : Nat) : (setJ D k v).2.1 j = if j = k then v else D.2.1 j := rfl
theorem setJ_22 (D : DD) (k : Nat) (v : Int64) : (setJ D k v).2.2 = D.2.2 := rfl
theorem setA_1 (D : DD) (k : Nat) (f : Nat → Int32) : (setA D k f).1 = D.1 := rfl
theorem setA_21 (D : DD) (k : Nat) (f : Nat → Int32) : (setA D k f).2.1 = D.2.1 := rfl
theorem setA_a (D : DD) (k : Nat) (f : Nat → Int32) (j : Nat) : (setA D k f).2.2.1 j = if j = k then f else D.2.2.1 j := rfl
theorem setA_r (D : DD) (k : Nat) (f : Nat → Int32) : (setA D k f).2.2.2 = D.2.2.2 := rfl
theorem upd_eq (f : Nat → Int32) (i : Nat) (x : Int32) (j : Nat) : upd f i x j = if j = i then x else f j := rfl
theorem cI_i {α : Type} (x : Int32) (D : DD) (k : Int32 → DD → Option α) : cI (some (0, some (.int x), D)) k = k x D := rfl
theorem cL_l {α : Type} (x : Int64) (D : DD) (k : Int64 → DD → Option α) : cL (some (0, some (.long x), D)) k = k x D := rfl
theorem cV_v {α : Type} (D : DD) (k : DD → Option α) : cV (some (0, none, D)) k = k D := rfl
-- steps
def RunP (T : Nat → List Int32 → DD → Option ((Nat × List Int32 × DD) ⊕ RT)) (c k : Nat) (ls : List Int32) (D : DD) (P : RT → Prop) : Prop := ∃ n r, n ≤ c ∧ run T n k ls D = some r ∧ P r
section RR
variable {T : Nat → List Int32 → DD → Option ((Nat × List Int32 × DD) ⊕ RT)} {c c' k k' n m : Nat} {ls ls' : List Int32} {D D' : DD} {P : RT → Prop} {r : RT}
theorem run_mono (h : run T n k ls D = some r) (hm : n ≤ m) : run T m k ls D = some r := by
  induction n generalizing m k ls D with
  | zero => cases h
  | succ n ih =>
    cases m with
    | zero => omega
    | succ m =>
      rw [run] at h ⊢
      cases hT : T k ls D with
      | none => rw [hT] at h; cases h
      | some o =>
        rw [hT] at h
        cases o with
        | inl x => exact ih h (by omega)
        | inr x => exact h
theorem RunP.fin (h : RunP T c k ls D P) (hc : c ≤ FUEL) : ∃ r, run T FUEL k ls D = some r ∧ P r := by
  obtain ⟨n, r, h1, h2, h3⟩ := h
  exact ⟨r, run_mono h2 (Nat.le_trans h1 hc), h3⟩
theorem RunP.eqn (h : RunP T c k ls D (fun r' => r' = r)) (hc : c ≤ FUEL) : run T FUEL k ls D = some r := by
  obtain ⟨r', h1, rfl⟩ := h.fin hc
  exact h1
theorem RunP.stop (h : T k ls D = some (.inr r)) (hP : P r) : RunP T (c + 1) k ls D P := ⟨1, r, by omega, by rw [run, h], hP⟩
theorem RunP.step (h : T k ls D = some (.inl (k', ls', D'))) (hn : RunP T c k' ls' D' P) : RunP T (c + 1) k ls D P := by
  obtain ⟨n, r, h1, h2, h3⟩ := hn
  exact ⟨n + 1, r, by omega, by rw [run, h]; exact h2, h3⟩
theorem RunP.mono (h : RunP T c k ls D P) (hc : c ≤ c') : RunP T c' k ls D P := by
  obtain ⟨n, r, h1, h2, h3⟩ := h
  exact ⟨n, r, by omega, h2, h3⟩
/-- a loop at block k: J i, then J (i+1), .. up to J N; w steps each -/
theorem RunP.loop (J : Nat → List Int32 → DD → Prop) (N w c0 : Nat) (hbody : ∀ i ls D c, i < N → J i ls D → (∀ ls' D', J (i + 1) ls' D' → RunP T c k ls' D' P) → RunP T (c + w) k ls D P) (hend : ∀ ls D, J N ls D → RunP T c0 k ls D P) (i : Nat) (ls : List Int32) (D : DD) (hi : i ≤ N) (h : J i ls D) (hc : c0 + N * w ≤ c) : RunP T c k ls D P := by
  have key : ∀ m i ls D, i + m = N → J i ls D → RunP T (c0 + m * w) k ls D P := by
    intro m
    induction m with
    | zero =>
      intro i ls D hi h
      have : i = N := by omega
      subst this
      rw [Nat.zero_mul]
      exact hend _ _ h
    | succ m ih =>
      intro i ls D hi h
      rw [Nat.succ_mul, ← Nat.add_assoc]
      exact hbody i ls D _ (by omega) h (fun ls' D' h' => ih (i + 1) ls' D' (by omega) h')
  refine (key (N - i) i ls D (by omega) h).mono ?_
  have : (N - i) * w ≤ N * w := Nat.mul_le_mul_right _ (by omega)
  omega
end RR
def Wp {α : Type} (o : Option α) (Q : α → Prop) : Prop := ∃ y, o = some y ∧ Q y
theorem Wp_some {α : Type} (y : α) (Q : α → Prop) : Wp (some y) Q = Q y := propext ⟨fun ⟨_, h, q⟩ => by cases h; exact q, fun q => ⟨y, rfl, q⟩⟩
theorem Wp.ite {α : Type} {p : Prop} [Decidable p] {a b : Option α} {Q : α → Prop} (h1 : p → Wp a Q) (h2 : ¬ p → Wp b Q) : Wp (if p then a else b) Q := by
  split
  · exact h1 (by assumption)
  · exact h2 (by assumption)
theorem Wp.cIs {α : Type} {o : Option RT} {k : Int32 → DD → Option α} {Q : α → Prop} {R : Int32 → DD → Prop} (h : ∃ x D', o = some (0, some (.int x), D') ∧ R x D') (hk : ∀ x D', R x D' → Wp (k x D') Q) : Wp (cI o k) Q := by
  obtain ⟨x, D', rfl, h⟩ := h
  exact hk x D' h
theorem Wp.cLs {α : Type} {o : Option RT} {k : Int64 → DD → Option α} {Q : α → Prop} {R : Int64 → DD → Prop} (h : ∃ x D', o = some (0, some (.long x), D') ∧ R x D') (hk : ∀ x D', R x D' → Wp (k x D') Q) : Wp (cL o k) Q := by
  obtain ⟨x, D', rfl, h⟩ := h
  exact hk x D' h
theorem Wp.cVs {α : Type} {o : Option RT} {k : DD → Option α} {Q : α → Prop} {R : DD → Prop} (h : ∃ D', o = some (0, none, D') ∧ R D') (hk : ∀ D', R D' → Wp (k D') Q) : Wp (cV o k) Q := by
  obtain ⟨D', rfl, h⟩ := h
  exact hk D' h
def Nx (T : Nat → List Int32 → DD → Option ((Nat × List Int32 × DD) ⊕ RT)) (c : Nat) (P : RT → Prop) : (Nat × List Int32 × DD) ⊕ RT → Prop
  | .inl x => RunP T c x.1 x.2.1 x.2.2 P
  | .inr r => P r
theorem Nx_l (T : Nat → List Int32 → DD → Option ((Nat × List Int32 × DD) ⊕ RT)) (c : Nat) (P : RT → Prop) (k : Nat) (ls : List Int32) (D : DD) : Nx T c P (.inl (k, ls, D)) = RunP T c k ls D P := rfl
theorem Nx_r (T : Nat → List Int32 → DD → Option ((Nat × List Int32 × DD) ⊕ RT)) (c : Nat) (P : RT → Prop) (r : RT) : Nx T c P (.inr r) = P r := rfl
theorem RunP.go {T : Nat → List Int32 → DD → Option ((Nat × List Int32 × DD) ⊕ RT)} {c k : Nat} {ls : List Int32} {D : DD} {P : RT → Prop} (h : Wp (T k ls D) (Nx T c P)) : RunP T (c + 1) k ls D P := by
  obtain ⟨y, h1, h2⟩ := h
  cases y with
  | inl x => exact RunP.step h1 h2
  | inr r => exact RunP.stop h1 h2
/-- the same, for bodies that may leave the loop -/
theorem RunP.loopE {T : Nat → List Int32 → DD → Option ((Nat × List Int32 × DD) ⊕ RT)} {c k : Nat} {P : RT → Prop} (J : Nat → List Int32 → DD → Prop) (N w c0 : Nat) (hbody : ∀ i ls D c, c0 ≤ c → i < N → J i ls D → (∀ ls' D', J (i + 1) ls' D' → RunP T c k ls' D' P) → RunP T (c + w) k ls D P) (hend : ∀ ls D, J N ls D → RunP T c0 k ls D P) (i : Nat) (ls : List Int32) (D : DD) (hi : i ≤ N) (h : J i ls D) (hc : c0 + N * w ≤ c) : RunP T c k ls D P := by
  have key : ∀ m i ls D, i + m = N → J i ls D → RunP T (c0 + m * w) k ls D P := by
    intro m
    induction m with
    | zero =>
      intro i ls D hi h
      have : i = N := by omega
      subst this
      rw [Nat.zero_mul]
      exact hend _ _ h
    | succ m ih =>
      intro i ls D hi h
      rw [Nat.succ_mul, ← Nat.add_assoc]
      exact hbody i ls D _ (by omega) (by omega) h (fun ls' D' h' => ih (i + 1) ls' D' (by omega) h')
  refine (key (N - i) i ls D (by omega) h).mono ?_
  have : (N - i) * w ≤ N * w := Nat.mul_le_mul_right _ (by omega)
  omega
