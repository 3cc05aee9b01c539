/-! pure: the law -/
theorem uc_z (x : Int32) : ∃ c, c < 65536 ∧ (x.toUInt32 % 65536).toInt32 = z (c : Nat) := by
  refine ⟨(x.toUInt32 % 65536).toNat, ?_, ?_⟩
  · rw [UInt32.toNat_mod]
    exact Nat.mod_lt _ (by decide)
  · rw [← z_nI]
    exact (congrArg UInt32.toInt32 (UInt32.ofNat_toNat (x := x.toUInt32 % 65536))).symm
abbrev LT : Type := (Nat × Int32 × DD) ⊕ Int32
section LL
variable {D : DD} {SL SM : DD → Option RT} {x : Int32}
theorem th_ok {k : Int} (h : D.1 140 = z k) : S_X13_thrown D = some (0, some (.int (z k)), D) := by
  unfold S_X13_thrown
  rw [h]
theorem tail_e (h : Ce SL SM D) : ∃ D', Inv D' ∧ (cI (SL D) (fun r55 D54 => (cI (SM D54) (fun r61 D60 => (cI (S_X13_thrown D60) (fun r64 D63 => (if r64 = r55 then (if r55 = 0 then (if (lg_cmp ((D63.2.2.2.1 0) (0 : Int32).toNatClampNeg) r61.toInt64) = 0 then some (.inl (0, x, D63)) else some (.inr (0 : Int32))) else some (.inl (0, x, D63))) else some (.inr (0 : Int32)))))))) : Option LT) = some (.inl (0, x, D')) := by
  obtain ⟨k, a, D1, D2, e1, e2, e3, e4, e5, e6, e7, e8⟩ := h
  refine ⟨D2, e8, ?_⟩
  rw [e1, cI_i, e3, cI_i, th_ok e5, cI_i, if_pos rfl]
  by_cases hk : k = 0
  · rw [if_pos (by rw [hk]; rfl), e4, nn_0, e2 hk, if_pos ((lg_cmp_eq _ _).mpr rfl)]
  · rw [if_neg (by rw [show (0 : Int32) = z 0 from rfl, z_eq (by omega) (by omega) (by omega) (by omega)]; exact hk)]
theorem tail_L (h : CeL SL SM D) : ∃ D', Inv D' ∧ (cI (SL D) (fun r55 D54 => (cL (SM D54) (fun r61 D60 => (cI (S_X13_thrown D60) (fun r64 D63 => (if r64 = r55 then (if r55 = 0 then (if (lg_cmp ((D63.2.2.2.1 0) (0 : Int32).toNatClampNeg) r61) = 0 then some (.inl (0, x, D63)) else some (.inr (0 : Int32))) else some (.inl (0, x, D63))) else some (.inr (0 : Int32)))))))) : Option LT) = some (.inl (0, x, D')) := by
  obtain ⟨k, a, D1, D2, e1, e2, e3, e4, e5, e6, e7, e8⟩ := h
  refine ⟨D2, e8, ?_⟩
  rw [e1, cI_i, e3, cL_l, th_ok e5, cI_i, if_pos rfl]
  by_cases hk : k = 0
  · rw [if_pos (by rw [hk]; rfl), e4, nn_0, e2 hk, if_pos ((lg_cmp_eq _ _).mpr rfl)]
  · rw [if_neg (by rw [show (0 : Int32) = z 0 from rfl, z_eq (by omega) (by omega) (by omega) (by omega)]; exact hk)]
theorem tail_d (h : Cd SL SM D) : ∃ D', Inv D' ∧ (cI (SL D) (fun r1 D1 => (cI (SM D1) (fun r2 D2 => (if r1 = r2 then some (.inl (0, x, D2)) else some (.inr (0 : Int32)))))) : Option LT) = some (.inl (0, x, D')) := by
  obtain ⟨a, D1, D2, e1, e2, e3⟩ := h
  exact ⟨D2, e3, by rw [e1, cI_i, e2, cI_i, if_pos rfl]⟩
theorem tail_dL (h : CdL SL SM D) : ∃ D', Inv D' ∧ (cL (SL D) (fun r1 D1 => (cL (SM D1) (fun r2 D2 => (if (lg_cmp r1 r2) = 0 then some (.inl (0, x, D2)) else some (.inr (0 : Int32)))))) : Option LT) = some (.inl (0, x, D')) := by
  obtain ⟨a, D1, D2, e1, e2, e3⟩ := h
  exact ⟨D2, e3, by rw [e1, cL_l, e2, cL_l, if_pos ((lg_cmp_eq _ _).mpr rfl)]⟩
theorem cD_d {α : Type} (x : UInt64) (D : DD) (k : UInt64 → DD → Option α) : cD (some (0, some (.double x), D)) k = k x D := rfl
theorem cF_f {α : Type} (x : UInt32) (D : DD) (k : UInt32 → DD → Option α) : cF (some (0, some (.float x), D)) k = k x D := rfl
theorem law_1 {xs : Nat → Int32} {Ln i : Nat} (hL : Ln ≤ 2048) (hi : i + 3 < Ln) (hD : Inv D) : ∃ D', Inv D' ∧ b_law_1 xs Ln (z i) D = some (.inl (0, z i + (4 : Int32), D')) := by
  have i1 : (inB (z i + (1 : Int32)) Ln = true) = True := eq_true (by rw [show (1 : Int32) = z 1 from rfl, z_add, inB_z (by omega) (by omega)]; omega)
  have i2 : (inB (z i + (2 : Int32)) Ln = true) = True := eq_true (by rw [show (2 : Int32) = z 2 from rfl, z_add, inB_z (by omega) (by omega)]; omega)
  have i3 : (inB (z i + (3 : Int32)) Ln = true) = True := eq_true (by rw [show (3 : Int32) = z 3 from rfl, z_add, inB_z (by omega) (by omega)]; omega)
  unfold b_law_1
  simp only [i1, i2, i3, ite_T]
  obtain ⟨a, ha, ha1, ha2⟩ := z_of (xs (z i + (1 : Int32)).toNatClampNeg)
  obtain ⟨b, hb, hb1, hb2⟩ := z_of (xs (z i + (2 : Int32)).toNatClampNeg)
  obtain ⟨c, hc, hc1, hc2⟩ := z_of (xs (z i + (3 : Int32)).toNatClampNeg)
  rw [ha, hb, hc]
  exact tail_e (c_setHardness ha1 ha2 hb1 hb2 hc1 hc2 hD)
theorem law_2 {xs : Nat → Int32} {Ln i : Nat} (hL : Ln ≤ 2048) (hi : i + 3 < Ln) (hD : Inv D) : ∃ D', Inv D' ∧ b_law_2 xs Ln (z i) D = some (.inl (0, z i + (4 : Int32), D')) := by
  have i1 : (inB (z i + (1 : Int32)) Ln = true) = True := eq_true (by rw [show (1 : Int32) = z 1 from rfl, z_add, inB_z (by omega) (by omega)]; omega)
  have i2 : (inB (z i + (2 : Int32)) Ln = true) = True := eq_true (by rw [show (2 : Int32) = z 2 from rfl, z_add, inB_z (by omega) (by omega)]; omega)
  have i3 : (inB (z i + (3 : Int32)) Ln = true) = True := eq_true (by rw [show (3 : Int32) = z 3 from rfl, z_add, inB_z (by omega) (by omega)]; omega)
  unfold b_law_2
  simp only [i1, i2, i3, ite_T]
  obtain ⟨a, ha, ha1, ha2⟩ := z_of (xs (z i + (1 : Int32)).toNatClampNeg)
  obtain ⟨b, hb, hb1, hb2⟩ := z_of (xs (z i + (2 : Int32)).toNatClampNeg)
  rw [ha, hb]
  exact tail_L (c_dig ha1 ha2 hb1 hb2 hD)
theorem law_3 {xs : Nat → Int32} {Ln i : Nat} (hL : Ln ≤ 2048) (hi : i + 3 < Ln) (hD : Inv D) : ∃ D', Inv D' ∧ b_law_3 xs Ln (z i) D = some (.inl (0, z i + (4 : Int32), D')) := by
  have i1 : (inB (z i + (1 : Int32)) Ln = true) = True := eq_true (by rw [show (1 : Int32) = z 1 from rfl, z_add, inB_z (by omega) (by omega)]; omega)
  have i2 : (inB (z i + (2 : Int32)) Ln = true) = True := eq_true (by rw [show (2 : Int32) = z 2 from rfl, z_add, inB_z (by omega) (by omega)]; omega)
  have i3 : (inB (z i + (3 : Int32)) Ln = true) = True := eq_true (by rw [show (3 : Int32) = z 3 from rfl, z_add, inB_z (by omega) (by omega)]; omega)
  unfold b_law_3
  simp only [i1, i2, i3, ite_T]
  obtain ⟨a, ha, ha1, ha2⟩ := z_of (xs (z i + (1 : Int32)).toNatClampNeg)
  obtain ⟨b, hb, hb1, hb2⟩ := z_of (xs (z i + (2 : Int32)).toNatClampNeg)
  rw [ha, hb]
  exact tail_e (c_hardnessOf ha1 ha2 hb1 hb2 hD)
theorem law_4 {xs : Nat → Int32} {Ln i : Nat} (hL : Ln ≤ 2048) (hi : i + 3 < Ln) (hD : Inv D) : ∃ D', Inv D' ∧ b_law_4 xs Ln (z i) D = some (.inl (0, z i + (4 : Int32), D')) := by
  have i1 : (inB (z i + (1 : Int32)) Ln = true) = True := eq_true (by rw [show (1 : Int32) = z 1 from rfl, z_add, inB_z (by omega) (by omega)]; omega)
  have i2 : (inB (z i + (2 : Int32)) Ln = true) = True := eq_true (by rw [show (2 : Int32) = z 2 from rfl, z_add, inB_z (by omega) (by omega)]; omega)
  have i3 : (inB (z i + (3 : Int32)) Ln = true) = True := eq_true (by rw [show (3 : Int32) = z 3 from rfl, z_add, inB_z (by omega) (by omega)]; omega)
  unfold b_law_4
  simp only [i1, i2, i3, ite_T]
  obtain ⟨a, ha, ha1, ha2⟩ := z_of (xs (z i + (1 : Int32)).toNatClampNeg)
  obtain ⟨b, hb, hb1, hb2⟩ := z_of (xs (z i + (2 : Int32)).toNatClampNeg)
  rw [ha, hb]
  obtain ⟨k, y, D1, D2, e1, e2, e3, e4, e5, e6, e7, e8⟩ := c_isOpen ha1 ha2 hb1 hb2 hD
  refine ⟨D2, e8, ?_⟩
  rw [e1, cI_i, e3, cI_i, th_ok e5, cI_i, if_pos rfl]
  by_cases hk : k = 0
  · rw [if_pos (c := z k = 0) (by rw [hk]; rfl), e4, nn_0]
    rcases e2 hk with ⟨hy, hb⟩ | ⟨hy, hb⟩
    · rw [hy, hb, if_pos rfl, if_pos ((lg_cmp_eq _ _).mpr rfl)]
    · rw [hy, hb, if_neg (by decide), if_pos ((lg_cmp_eq _ _).mpr rfl)]
  · rw [if_neg (c := z k = 0) (by rw [show (0 : Int32) = z 0 from rfl, z_eq (by omega) (by omega) (by omega) (by omega)]; exact hk)]
theorem law_5 {xs : Nat → Int32} {Ln i : Nat} (hL : Ln ≤ 2048) (hi : i + 3 < Ln) (hD : Inv D) : ∃ D', Inv D' ∧ b_law_5 xs Ln (z i) D = some (.inl (0, z i + (4 : Int32), D')) := by
  unfold b_law_5
  exact tail_d (c_openCount hD)
theorem law_6 {xs : Nat → Int32} {Ln i : Nat} (hL : Ln ≤ 2048) (hi : i + 3 < Ln) (hD : Inv D) : ∃ D', Inv D' ∧ b_law_6 xs Ln (z i) D = some (.inl (0, z i + (4 : Int32), D')) := by
  have i1 : (inB (z i + (1 : Int32)) Ln = true) = True := eq_true (by rw [show (1 : Int32) = z 1 from rfl, z_add, inB_z (by omega) (by omega)]; omega)
  have i2 : (inB (z i + (2 : Int32)) Ln = true) = True := eq_true (by rw [show (2 : Int32) = z 2 from rfl, z_add, inB_z (by omega) (by omega)]; omega)
  have i3 : (inB (z i + (3 : Int32)) Ln = true) = True := eq_true (by rw [show (3 : Int32) = z 3 from rfl, z_add, inB_z (by omega) (by omega)]; omega)
  unfold b_law_6
  simp only [i1, i2, i3, ite_T]
  obtain ⟨a, ha, ha1, ha2⟩ := z_of (xs (z i + (1 : Int32)).toNatClampNeg)
  rw [ha]
  exact tail_e (c_veinCount ha1 ha2 hD)
theorem law_7 {xs : Nat → Int32} {Ln i : Nat} (hL : Ln ≤ 2048) (hi : i + 3 < Ln) (hD : Inv D) : ∃ D', Inv D' ∧ b_law_7 xs Ln (z i) D = some (.inl (0, z i + (4 : Int32), D')) := by
  have i1 : (inB (z i + (1 : Int32)) Ln = true) = True := eq_true (by rw [show (1 : Int32) = z 1 from rfl, z_add, inB_z (by omega) (by omega)]; omega)
  have i2 : (inB (z i + (2 : Int32)) Ln = true) = True := eq_true (by rw [show (2 : Int32) = z 2 from rfl, z_add, inB_z (by omega) (by omega)]; omega)
  have i3 : (inB (z i + (3 : Int32)) Ln = true) = True := eq_true (by rw [show (3 : Int32) = z 3 from rfl, z_add, inB_z (by omega) (by omega)]; omega)
  unfold b_law_7
  simp only [i1, i2, i3, ite_T]
  obtain ⟨a, ha, ha1, ha2⟩ := z_of (xs (z i + (1 : Int32)).toNatClampNeg)
  obtain ⟨b, hb, hb1, hb2⟩ := z_of (xs (z i + (2 : Int32)).toNatClampNeg)
  rw [ha, hb]
  exact tail_e (c_veinSize ha1 ha2 hb1 hb2 hD)
theorem law_8 {xs : Nat → Int32} {Ln i : Nat} (hL : Ln ≤ 2048) (hi : i + 3 < Ln) (hD : Inv D) : ∃ D', Inv D' ∧ b_law_8 xs Ln (z i) D = some (.inl (0, z i + (4 : Int32), D')) := by
  have i1 : (inB (z i + (1 : Int32)) Ln = true) = True := eq_true (by rw [show (1 : Int32) = z 1 from rfl, z_add, inB_z (by omega) (by omega)]; omega)
  have i2 : (inB (z i + (2 : Int32)) Ln = true) = True := eq_true (by rw [show (2 : Int32) = z 2 from rfl, z_add, inB_z (by omega) (by omega)]; omega)
  have i3 : (inB (z i + (3 : Int32)) Ln = true) = True := eq_true (by rw [show (3 : Int32) = z 3 from rfl, z_add, inB_z (by omega) (by omega)]; omega)
  unfold b_law_8
  simp only [i1, i2, i3, ite_T]
  obtain ⟨a, ha, ha1, ha2⟩ := z_of (xs (z i + (1 : Int32)).toNatClampNeg)
  obtain ⟨b, hb, hb1, hb2⟩ := z_of (xs (z i + (2 : Int32)).toNatClampNeg)
  obtain ⟨c, hc, hc1, hc2⟩ := z_of (xs (z i + (3 : Int32)).toNatClampNeg)
  rw [ha, hb, hc]
  exact tail_e (c_addCharge ha1 ha2 hb1 hb2 hc1 hc2 hD)
theorem law_9 {xs : Nat → Int32} {Ln i : Nat} (hL : Ln ≤ 2048) (hi : i + 3 < Ln) (hD : Inv D) : ∃ D', Inv D' ∧ b_law_9 xs Ln (z i) D = some (.inl (0, z i + (4 : Int32), D')) := by
  have i1 : (inB (z i + (1 : Int32)) Ln = true) = True := eq_true (by rw [show (1 : Int32) = z 1 from rfl, z_add, inB_z (by omega) (by omega)]; omega)
  have i2 : (inB (z i + (2 : Int32)) Ln = true) = True := eq_true (by rw [show (2 : Int32) = z 2 from rfl, z_add, inB_z (by omega) (by omega)]; omega)
  have i3 : (inB (z i + (3 : Int32)) Ln = true) = True := eq_true (by rw [show (3 : Int32) = z 3 from rfl, z_add, inB_z (by omega) (by omega)]; omega)
  unfold b_law_9
  simp only [i1, i2, i3, ite_T]
  obtain ⟨a, ha, ha1, ha2⟩ := z_of (xs (z i + (1 : Int32)).toNatClampNeg)
  rw [ha]
  exact tail_e (c_removeCharge ha1 ha2 hD)
theorem law_10 {xs : Nat → Int32} {Ln i : Nat} (hL : Ln ≤ 2048) (hi : i + 3 < Ln) (hD : Inv D) : ∃ D', Inv D' ∧ b_law_10 xs Ln (z i) D = some (.inl (0, z i + (4 : Int32), D')) := by
  have i1 : (inB (z i + (1 : Int32)) Ln = true) = True := eq_true (by rw [show (1 : Int32) = z 1 from rfl, z_add, inB_z (by omega) (by omega)]; omega)
  have i2 : (inB (z i + (2 : Int32)) Ln = true) = True := eq_true (by rw [show (2 : Int32) = z 2 from rfl, z_add, inB_z (by omega) (by omega)]; omega)
  have i3 : (inB (z i + (3 : Int32)) Ln = true) = True := eq_true (by rw [show (3 : Int32) = z 3 from rfl, z_add, inB_z (by omega) (by omega)]; omega)
  unfold b_law_10
  simp only [i1, i2, i3, ite_T]
  obtain ⟨a, ha, ha1, ha2⟩ := z_of (xs (z i + (1 : Int32)).toNatClampNeg)
  rw [ha]
  exact tail_e (c_ignite ha1 ha2 hD)
theorem law_11 {xs : Nat → Int32} {Ln i : Nat} (hL : Ln ≤ 2048) (hi : i + 3 < Ln) (hD : Inv D) : ∃ D', Inv D' ∧ b_law_11 xs Ln (z i) D = some (.inl (0, z i + (4 : Int32), D')) := by
  unfold b_law_11
  exact tail_d (c_chargeCount hD)
theorem law_12 {xs : Nat → Int32} {Ln i : Nat} (hL : Ln ≤ 2048) (hi : i + 3 < Ln) (hD : Inv D) : ∃ D', Inv D' ∧ b_law_12 xs Ln (z i) D = some (.inl (0, z i + (4 : Int32), D')) := by
  have i1 : (inB (z i + (1 : Int32)) Ln = true) = True := eq_true (by rw [show (1 : Int32) = z 1 from rfl, z_add, inB_z (by omega) (by omega)]; omega)
  have i2 : (inB (z i + (2 : Int32)) Ln = true) = True := eq_true (by rw [show (2 : Int32) = z 2 from rfl, z_add, inB_z (by omega) (by omega)]; omega)
  have i3 : (inB (z i + (3 : Int32)) Ln = true) = True := eq_true (by rw [show (3 : Int32) = z 3 from rfl, z_add, inB_z (by omega) (by omega)]; omega)
  unfold b_law_12
  simp only [i1, i2, i3, ite_T]
  obtain ⟨a, ha, ha1, ha2⟩ := z_of (xs (z i + (1 : Int32)).toNatClampNeg)
  rw [ha]
  exact tail_e (c_chargeRow ha1 ha2 hD)
theorem law_13 {xs : Nat → Int32} {Ln i : Nat} (hL : Ln ≤ 2048) (hi : i + 3 < Ln) (hD : Inv D) : ∃ D', Inv D' ∧ b_law_13 xs Ln (z i) D = some (.inl (0, z i + (4 : Int32), D')) := by
  have i1 : (inB (z i + (1 : Int32)) Ln = true) = True := eq_true (by rw [show (1 : Int32) = z 1 from rfl, z_add, inB_z (by omega) (by omega)]; omega)
  have i2 : (inB (z i + (2 : Int32)) Ln = true) = True := eq_true (by rw [show (2 : Int32) = z 2 from rfl, z_add, inB_z (by omega) (by omega)]; omega)
  have i3 : (inB (z i + (3 : Int32)) Ln = true) = True := eq_true (by rw [show (3 : Int32) = z 3 from rfl, z_add, inB_z (by omega) (by omega)]; omega)
  unfold b_law_13
  simp only [i1, i2, i3, ite_T]
  obtain ⟨a, ha, ha1, ha2⟩ := z_of (xs (z i + (1 : Int32)).toNatClampNeg)
  rw [ha]
  exact tail_e (c_chargeColumn ha1 ha2 hD)
theorem law_14 {xs : Nat → Int32} {Ln i : Nat} (hL : Ln ≤ 2048) (hi : i + 3 < Ln) (hD : Inv D) : ∃ D', Inv D' ∧ b_law_14 xs Ln (z i) D = some (.inl (0, z i + (4 : Int32), D')) := by
  have i1 : (inB (z i + (1 : Int32)) Ln = true) = True := eq_true (by rw [show (1 : Int32) = z 1 from rfl, z_add, inB_z (by omega) (by omega)]; omega)
  have i2 : (inB (z i + (2 : Int32)) Ln = true) = True := eq_true (by rw [show (2 : Int32) = z 2 from rfl, z_add, inB_z (by omega) (by omega)]; omega)
  have i3 : (inB (z i + (3 : Int32)) Ln = true) = True := eq_true (by rw [show (3 : Int32) = z 3 from rfl, z_add, inB_z (by omega) (by omega)]; omega)
  unfold b_law_14
  simp only [i1, i2, i3, ite_T]
  obtain ⟨a, ha, ha1, ha2⟩ := z_of (xs (z i + (1 : Int32)).toNatClampNeg)
  rw [ha]
  exact tail_e (c_chargeStrength ha1 ha2 hD)
theorem law_15 {xs : Nat → Int32} {Ln i : Nat} (hL : Ln ≤ 2048) (hi : i + 3 < Ln) (hD : Inv D) : ∃ D', Inv D' ∧ b_law_15 xs Ln (z i) D = some (.inl (0, z i + (4 : Int32), D')) := by
  have i1 : (inB (z i + (1 : Int32)) Ln = true) = True := eq_true (by rw [show (1 : Int32) = z 1 from rfl, z_add, inB_z (by omega) (by omega)]; omega)
  have i2 : (inB (z i + (2 : Int32)) Ln = true) = True := eq_true (by rw [show (2 : Int32) = z 2 from rfl, z_add, inB_z (by omega) (by omega)]; omega)
  have i3 : (inB (z i + (3 : Int32)) Ln = true) = True := eq_true (by rw [show (3 : Int32) = z 3 from rfl, z_add, inB_z (by omega) (by omega)]; omega)
  unfold b_law_15
  simp only [i1, i2, i3, ite_T]
  obtain ⟨a, ha, ha1, ha2⟩ := z_of (xs (z i + (1 : Int32)).toNatClampNeg)
  rw [ha]
  exact tail_e (c_chainOf ha1 ha2 hD)
theorem law_16 {xs : Nat → Int32} {Ln i : Nat} (hL : Ln ≤ 2048) (hi : i + 3 < Ln) (hD : Inv D) : ∃ D', Inv D' ∧ b_law_16 xs Ln (z i) D = some (.inl (0, z i + (4 : Int32), D')) := by
  have i1 : (inB (z i + (1 : Int32)) Ln = true) = True := eq_true (by rw [show (1 : Int32) = z 1 from rfl, z_add, inB_z (by omega) (by omega)]; omega)
  have i2 : (inB (z i + (2 : Int32)) Ln = true) = True := eq_true (by rw [show (2 : Int32) = z 2 from rfl, z_add, inB_z (by omega) (by omega)]; omega)
  have i3 : (inB (z i + (3 : Int32)) Ln = true) = True := eq_true (by rw [show (3 : Int32) = z 3 from rfl, z_add, inB_z (by omega) (by omega)]; omega)
  unfold b_law_16
  simp only [i1, i2, i3, ite_T]
  obtain ⟨a, ha, ha1, ha2⟩ := z_of (xs (z i + (1 : Int32)).toNatClampNeg)
  rw [ha]
  exact tail_e (c_chainByRounds ha1 ha2 hD)
theorem law_17 {xs : Nat → Int32} {Ln i : Nat} (hL : Ln ≤ 2048) (hi : i + 3 < Ln) (hD : Inv D) : ∃ D', Inv D' ∧ b_law_17 xs Ln (z i) D = some (.inl (0, z i + (4 : Int32), D')) := by
  have i1 : (inB (z i + (1 : Int32)) Ln = true) = True := eq_true (by rw [show (1 : Int32) = z 1 from rfl, z_add, inB_z (by omega) (by omega)]; omega)
  have i2 : (inB (z i + (2 : Int32)) Ln = true) = True := eq_true (by rw [show (2 : Int32) = z 2 from rfl, z_add, inB_z (by omega) (by omega)]; omega)
  have i3 : (inB (z i + (3 : Int32)) Ln = true) = True := eq_true (by rw [show (3 : Int32) = z 3 from rfl, z_add, inB_z (by omega) (by omega)]; omega)
  unfold b_law_17
  simp only [i1, i2, i3, ite_T]
  obtain ⟨a, ha, ha1, ha2⟩ := z_of (xs (z i + (1 : Int32)).toNatClampNeg)
  rw [ha]
  exact tail_e (c_opensOf ha1 ha2 hD)
theorem law_18 {xs : Nat → Int32} {Ln i : Nat} (hL : Ln ≤ 2048) (hi : i + 3 < Ln) (hD : Inv D) : ∃ D', Inv D' ∧ b_law_18 xs Ln (z i) D = some (.inl (0, z i + (4 : Int32), D')) := by
  unfold b_law_18
  exact tail_e (c_bestCharge hD)
theorem law_19 {xs : Nat → Int32} {Ln i : Nat} (hL : Ln ≤ 2048) (hi : i + 3 < Ln) (hD : Inv D) : ∃ D', Inv D' ∧ b_law_19 xs Ln (z i) D = some (.inl (0, z i + (4 : Int32), D')) := by
  unfold b_law_19
  exact tail_d (c_tunnelCost hD)
theorem law_20 {xs : Nat → Int32} {Ln i : Nat} (hL : Ln ≤ 2048) (hi : i + 3 < Ln) (hD : Inv D) : ∃ D', Inv D' ∧ b_law_20 xs Ln (z i) D = some (.inl (0, z i + (4 : Int32), D')) := by
  unfold b_law_20
  exact tail_d (c_tunnelByRounds hD)
theorem law_21 {xs : Nat → Int32} {Ln i : Nat} (hL : Ln ≤ 2048) (hi : i + 3 < Ln) (hD : Inv D) : ∃ D', Inv D' ∧ b_law_21 xs Ln (z i) D = some (.inl (0, z i + (4 : Int32), D')) := by
  unfold b_law_21
  exact tail_d (c_mostSlabs hD)
theorem law_22 {xs : Nat → Int32} {Ln i : Nat} (hL : Ln ≤ 2048) (hi : i + 3 < Ln) (hD : Inv D) : ∃ D', Inv D' ∧ b_law_22 xs Ln (z i) D = some (.inl (0, z i + (4 : Int32), D')) := by
  unfold b_law_22
  exact tail_d (c_slabsByCells hD)
theorem law_23 {xs : Nat → Int32} {Ln i : Nat} (hL : Ln ≤ 2048) (hi : i + 3 < Ln) (hD : Inv D) : ∃ D', Inv D' ∧ b_law_23 xs Ln (z i) D = some (.inl (0, z i + (4 : Int32), D')) := by
  unfold b_law_23
  exact tail_d (c_largestBlock hD)
theorem law_24 {xs : Nat → Int32} {Ln i : Nat} (hL : Ln ≤ 2048) (hi : i + 3 < Ln) (hD : Inv D) : ∃ D', Inv D' ∧ b_law_24 xs Ln (z i) D = some (.inl (0, z i + (4 : Int32), D')) := by
  unfold b_law_24
  exact tail_d (c_blockByHeights hD)
theorem law_25 {xs : Nat → Int32} {Ln i : Nat} (hL : Ln ≤ 2048) (hi : i + 3 < Ln) (hD : Inv D) : ∃ D', Inv D' ∧ b_law_25 xs Ln (z i) D = some (.inl (0, z i + (4 : Int32), D')) := by
  have i1 : (inB (z i + (1 : Int32)) Ln = true) = True := eq_true (by rw [show (1 : Int32) = z 1 from rfl, z_add, inB_z (by omega) (by omega)]; omega)
  have i2 : (inB (z i + (2 : Int32)) Ln = true) = True := eq_true (by rw [show (2 : Int32) = z 2 from rfl, z_add, inB_z (by omega) (by omega)]; omega)
  have i3 : (inB (z i + (3 : Int32)) Ln = true) = True := eq_true (by rw [show (3 : Int32) = z 3 from rfl, z_add, inB_z (by omega) (by omega)]; omega)
  unfold b_law_25
  simp only [i1, i2, i3, ite_T]
  obtain ⟨a, ha, ha1, ha2⟩ := z_of (xs (z i + (1 : Int32)).toNatClampNeg)
  obtain ⟨b, hb, hb1, hb2⟩ := z_of (xs (z i + (2 : Int32)).toNatClampNeg)
  rw [ha, hb]
  exact tail_e (c_setPrice ha1 ha2 hb1 hb2 hD)
theorem law_26 {xs : Nat → Int32} {Ln i : Nat} (hL : Ln ≤ 2048) (hi : i + 3 < Ln) (hD : Inv D) : ∃ D', Inv D' ∧ b_law_26 xs Ln (z i) D = some (.inl (0, z i + (4 : Int32), D')) := by
  have i1 : (inB (z i + (1 : Int32)) Ln = true) = True := eq_true (by rw [show (1 : Int32) = z 1 from rfl, z_add, inB_z (by omega) (by omega)]; omega)
  have i2 : (inB (z i + (2 : Int32)) Ln = true) = True := eq_true (by rw [show (2 : Int32) = z 2 from rfl, z_add, inB_z (by omega) (by omega)]; omega)
  have i3 : (inB (z i + (3 : Int32)) Ln = true) = True := eq_true (by rw [show (3 : Int32) = z 3 from rfl, z_add, inB_z (by omega) (by omega)]; omega)
  unfold b_law_26
  simp only [i1, i2, i3, ite_T]
  obtain ⟨a, ha, ha1, ha2⟩ := z_of (xs (z i + (1 : Int32)).toNatClampNeg)
  rw [ha]
  exact tail_e (c_priceOf ha1 ha2 hD)
theorem law_27 {xs : Nat → Int32} {Ln i : Nat} (hL : Ln ≤ 2048) (hi : i + 3 < Ln) (hD : Inv D) : ∃ D', Inv D' ∧ b_law_27 xs Ln (z i) D = some (.inl (0, z i + (4 : Int32), D')) := by
  have i1 : (inB (z i + (1 : Int32)) Ln = true) = True := eq_true (by rw [show (1 : Int32) = z 1 from rfl, z_add, inB_z (by omega) (by omega)]; omega)
  have i2 : (inB (z i + (2 : Int32)) Ln = true) = True := eq_true (by rw [show (2 : Int32) = z 2 from rfl, z_add, inB_z (by omega) (by omega)]; omega)
  have i3 : (inB (z i + (3 : Int32)) Ln = true) = True := eq_true (by rw [show (3 : Int32) = z 3 from rfl, z_add, inB_z (by omega) (by omega)]; omega)
  unfold b_law_27
  simp only [i1, i2, i3, ite_T]
  obtain ⟨a, ha, ha1, ha2⟩ := z_of (xs (z i + (1 : Int32)).toNatClampNeg)
  rw [ha]
  exact tail_e (c_bestCut ha1 ha2 hD)
theorem law_28 {xs : Nat → Int32} {Ln i : Nat} (hL : Ln ≤ 2048) (hi : i + 3 < Ln) (hD : Inv D) : ∃ D', Inv D' ∧ b_law_28 xs Ln (z i) D = some (.inl (0, z i + (4 : Int32), D')) := by
  have i1 : (inB (z i + (1 : Int32)) Ln = true) = True := eq_true (by rw [show (1 : Int32) = z 1 from rfl, z_add, inB_z (by omega) (by omega)]; omega)
  have i2 : (inB (z i + (2 : Int32)) Ln = true) = True := eq_true (by rw [show (2 : Int32) = z 2 from rfl, z_add, inB_z (by omega) (by omega)]; omega)
  have i3 : (inB (z i + (3 : Int32)) Ln = true) = True := eq_true (by rw [show (3 : Int32) = z 3 from rfl, z_add, inB_z (by omega) (by omega)]; omega)
  unfold b_law_28
  simp only [i1, i2, i3, ite_T]
  obtain ⟨a, ha, ha1, ha2⟩ := z_of (xs (z i + (1 : Int32)).toNatClampNeg)
  rw [ha]
  exact tail_e (c_bestCutByTrial ha1 ha2 hD)
theorem law_29 {xs : Nat → Int32} {Ln i : Nat} (hL : Ln ≤ 2048) (hi : i + 3 < Ln) (hD : Inv D) : ∃ D', Inv D' ∧ b_law_29 xs Ln (z i) D = some (.inl (0, z i + (4 : Int32), D')) := by
  have i1 : (inB (z i + (1 : Int32)) Ln = true) = True := eq_true (by rw [show (1 : Int32) = z 1 from rfl, z_add, inB_z (by omega) (by omega)]; omega)
  have i2 : (inB (z i + (2 : Int32)) Ln = true) = True := eq_true (by rw [show (2 : Int32) = z 2 from rfl, z_add, inB_z (by omega) (by omega)]; omega)
  have i3 : (inB (z i + (3 : Int32)) Ln = true) = True := eq_true (by rw [show (3 : Int32) = z 3 from rfl, z_add, inB_z (by omega) (by omega)]; omega)
  unfold b_law_29
  simp only [i1, i2, i3, ite_T]
  obtain ⟨a, ha, ha1, ha2⟩ := z_of (xs (z i + (1 : Int32)).toNatClampNeg)
  rw [ha]
  exact tail_e (c_fewestPieces ha1 ha2 hD)
theorem law_30 {xs : Nat → Int32} {Ln i : Nat} (hL : Ln ≤ 2048) (hi : i + 3 < Ln) (hD : Inv D) : ∃ D', Inv D' ∧ b_law_30 xs Ln (z i) D = some (.inl (0, z i + (4 : Int32), D')) := by
  have i1 : (inB (z i + (1 : Int32)) Ln = true) = True := eq_true (by rw [show (1 : Int32) = z 1 from rfl, z_add, inB_z (by omega) (by omega)]; omega)
  have i2 : (inB (z i + (2 : Int32)) Ln = true) = True := eq_true (by rw [show (2 : Int32) = z 2 from rfl, z_add, inB_z (by omega) (by omega)]; omega)
  have i3 : (inB (z i + (3 : Int32)) Ln = true) = True := eq_true (by rw [show (3 : Int32) = z 3 from rfl, z_add, inB_z (by omega) (by omega)]; omega)
  unfold b_law_30
  simp only [i1, i2, i3, ite_T]
  obtain ⟨a, ha, ha1, ha2⟩ := z_of (xs (z i + (1 : Int32)).toNatClampNeg)
  rw [ha]
  exact tail_e (c_sell ha1 ha2 hD)
theorem law_31 {xs : Nat → Int32} {Ln i : Nat} (hL : Ln ≤ 2048) (hi : i + 3 < Ln) (hD : Inv D) : ∃ D', Inv D' ∧ b_law_31 xs Ln (z i) D = some (.inl (0, z i + (4 : Int32), D')) := by
  unfold b_law_31
  exact tail_d (c_stone hD)
theorem law_32 {xs : Nat → Int32} {Ln i : Nat} (hL : Ln ≤ 2048) (hi : i + 3 < Ln) (hD : Inv D) : ∃ D', Inv D' ∧ b_law_32 xs Ln (z i) D = some (.inl (0, z i + (4 : Int32), D')) := by
  unfold b_law_32
  exact tail_d (c_quarried hD)
theorem law_33 {xs : Nat → Int32} {Ln i : Nat} (hL : Ln ≤ 2048) (hi : i + 3 < Ln) (hD : Inv D) : ∃ D', Inv D' ∧ b_law_33 xs Ln (z i) D = some (.inl (0, z i + (4 : Int32), D')) := by
  unfold b_law_33
  exact tail_d (c_sold hD)
theorem law_34 {xs : Nat → Int32} {Ln i : Nat} (hL : Ln ≤ 2048) (hi : i + 3 < Ln) (hD : Inv D) : ∃ D', Inv D' ∧ b_law_34 xs Ln (z i) D = some (.inl (0, z i + (4 : Int32), D')) := by
  unfold b_law_34
  exact tail_dL (c_coins hD)
theorem law_35 {xs : Nat → Int32} {Ln i : Nat} (hL : Ln ≤ 2048) (hi : i + 3 < Ln) (hD : Inv D) : ∃ D', Inv D' ∧ b_law_35 xs Ln (z i) D = some (.inl (0, z i + (4 : Int32), D')) := by
  unfold b_law_35
  obtain ⟨k, y, D1, D2, e1, e2, e3, e4, e5, e6, e7, e8⟩ := c_meanHardness hD
  refine ⟨D2, e8, ?_⟩
  rw [e1, cI_i, e3, cD_d, th_ok e5, cI_i, if_pos rfl]
  by_cases hk : k = 0
  · rw [if_pos (c := z k = 0) (by rw [hk]; rfl), e4, nn_0, e2 hk]
    by_cases hq : Op.cmpValue (FP.dcmp y y) .l = 0
    · rw [if_pos hq]
    · rw [if_neg hq, if_neg hq, if_neg hq]
  · rw [if_neg (c := z k = 0) (by rw [show (0 : Int32) = z 0 from rfl, z_eq (by omega) (by omega) (by omega) (by omega)]; exact hk)]
theorem law_36 {xs : Nat → Int32} {Ln i : Nat} (hL : Ln ≤ 2048) (hi : i + 3 < Ln) (hD : Inv D) : ∃ D', Inv D' ∧ b_law_36 xs Ln (z i) D = some (.inl (0, z i + (4 : Int32), D')) := by
  unfold b_law_36
  obtain ⟨y, D1, D2, e1, e2, e3, e4⟩ := c_openShare hD
  refine ⟨D2, e4, ?_⟩
  rw [e1, cF_f, if_pos e2, e3, cF_f, if_pos e2]
  by_cases hq : Op.cmpValue (FP.dcmp (FP.f2d y) (FP.f2d y)) .l = 0
  · rw [if_pos hq]
  · rw [if_neg hq, if_neg hq, if_neg hq]
theorem law_37 {xs : Nat → Int32} {Ln i : Nat} (hL : Ln ≤ 2048) (hi : i + 3 < Ln) (hD : Inv D) : ∃ D', Inv D' ∧ b_law_37 xs Ln (z i) D = some (.inl (0, z i + (4 : Int32), D')) := by
  have i1 : (inB (z i + (1 : Int32)) Ln = true) = True := eq_true (by rw [show (1 : Int32) = z 1 from rfl, z_add, inB_z (by omega) (by omega)]; omega)
  have i2 : (inB (z i + (2 : Int32)) Ln = true) = True := eq_true (by rw [show (2 : Int32) = z 2 from rfl, z_add, inB_z (by omega) (by omega)]; omega)
  have i3 : (inB (z i + (3 : Int32)) Ln = true) = True := eq_true (by rw [show (3 : Int32) = z 3 from rfl, z_add, inB_z (by omega) (by omega)]; omega)
  unfold b_law_37
  simp only [i1, i2, i3, ite_T]
  obtain ⟨a, ha, ha1, ha2⟩ := z_of (xs (z i + (1 : Int32)).toNatClampNeg)
  rw [ha]
  exact tail_e (c_writeRow ha1 ha2 hD)
theorem law_38 {xs : Nat → Int32} {Ln i : Nat} (hL : Ln ≤ 2048) (hi : i + 3 < Ln) (hD : Inv D) : ∃ D', Inv D' ∧ b_law_38 xs Ln (z i) D = some (.inl (0, z i + (4 : Int32), D')) := by
  have i1 : (inB (z i + (1 : Int32)) Ln = true) = True := eq_true (by rw [show (1 : Int32) = z 1 from rfl, z_add, inB_z (by omega) (by omega)]; omega)
  have i2 : (inB (z i + (2 : Int32)) Ln = true) = True := eq_true (by rw [show (2 : Int32) = z 2 from rfl, z_add, inB_z (by omega) (by omega)]; omega)
  have i3 : (inB (z i + (3 : Int32)) Ln = true) = True := eq_true (by rw [show (3 : Int32) = z 3 from rfl, z_add, inB_z (by omega) (by omega)]; omega)
  unfold b_law_38
  simp only [i1, i2, i3, ite_T]
  obtain ⟨a, ha, ha1, ha2⟩ := z_of (xs (z i + (1 : Int32)).toNatClampNeg)
  rw [ha]
  exact tail_e (c_writeCharge ha1 ha2 hD)
theorem law_39 {xs : Nat → Int32} {Ln i : Nat} (hL : Ln ≤ 2048) (hi : i + 3 < Ln) (hD : Inv D) : ∃ D', Inv D' ∧ b_law_39 xs Ln (z i) D = some (.inl (0, z i + (4 : Int32), D')) := by
  have i1 : (inB (z i + (1 : Int32)) Ln = true) = True := eq_true (by rw [show (1 : Int32) = z 1 from rfl, z_add, inB_z (by omega) (by omega)]; omega)
  have i2 : (inB (z i + (2 : Int32)) Ln = true) = True := eq_true (by rw [show (2 : Int32) = z 2 from rfl, z_add, inB_z (by omega) (by omega)]; omega)
  have i3 : (inB (z i + (3 : Int32)) Ln = true) = True := eq_true (by rw [show (3 : Int32) = z 3 from rfl, z_add, inB_z (by omega) (by omega)]; omega)
  unfold b_law_39
  simp only [i1, i2, i3, ite_T]
  obtain ⟨a, ha, ha1, ha2⟩ := z_of (xs (z i + (1 : Int32)).toNatClampNeg)
  rw [ha]
  exact tail_e (c_lineAt ha1 ha2 hD)
theorem law_40 {xs : Nat → Int32} {Ln i : Nat} (hL : Ln ≤ 2048) (hi : i + 3 < Ln) (hD : Inv D) : ∃ D', Inv D' ∧ b_law_40 xs Ln (z i) D = some (.inl (0, z i + (4 : Int32), D')) := by
  unfold b_law_40
  exact tail_d (c_isConsistent hD)
theorem law_41 {xs : Nat → Int32} {Ln i : Nat} (hL : Ln ≤ 2048) (hi : i + 3 < Ln) (hD : Inv D) : ∃ D', Inv D' ∧ b_law_41 xs Ln (z i) D = some (.inl (0, z i + (4 : Int32), D')) := by
  have i1 : (inB (z i + (1 : Int32)) Ln = true) = True := eq_true (by rw [show (1 : Int32) = z 1 from rfl, z_add, inB_z (by omega) (by omega)]; omega)
  have i2 : (inB (z i + (2 : Int32)) Ln = true) = True := eq_true (by rw [show (2 : Int32) = z 2 from rfl, z_add, inB_z (by omega) (by omega)]; omega)
  have i3 : (inB (z i + (3 : Int32)) Ln = true) = True := eq_true (by rw [show (3 : Int32) = z 3 from rfl, z_add, inB_z (by omega) (by omega)]; omega)
  unfold b_law_41
  simp only [i1, i2, i3, ite_T]
  obtain ⟨c, hc, hx⟩ := uc_z (xs (z i + (1 : Int32)).toNatClampNeg)
  rw [hx]
  exact tail_e (c_type hc hD)
theorem law_42 {xs : Nat → Int32} {Ln i : Nat} (hL : Ln ≤ 2048) (hi : i + 3 < Ln) (hD : Inv D) : ∃ D', Inv D' ∧ b_law_42 xs Ln (z i) D = some (.inl (0, z i + (4 : Int32), D')) := by
  unfold b_law_42
  exact tail_e (c_execute hD)
theorem law_43 {xs : Nat → Int32} {Ln i : Nat} (hL : Ln ≤ 2048) (hi : i + 3 < Ln) (hD : Inv D) : ∃ D', Inv D' ∧ b_law_43 xs Ln (z i) D = some (.inl (0, z i + (4 : Int32), D')) := by
  unfold b_law_43
  exact tail_e (c_errorPosition hD)
theorem law_44 {xs : Nat → Int32} {Ln i : Nat} (hL : Ln ≤ 2048) (hi : i + 3 < Ln) (hD : Inv D) : ∃ D', Inv D' ∧ b_law_44 xs Ln (z i) D = some (.inl (0, z i + (4 : Int32), D')) := by
  unfold b_law_44
  exact tail_e (c_failedCommand hD)
theorem law_45 {xs : Nat → Int32} {Ln i : Nat} (hL : Ln ≤ 2048) (hi : i + 3 < Ln) (hD : Inv D) : ∃ D', Inv D' ∧ b_law_45 xs Ln (z i) D = some (.inl (0, z i + (4 : Int32), D')) := by
  unfold b_law_45
  exact tail_e (c_undo hD)
theorem law_46 {xs : Nat → Int32} {Ln i : Nat} (hL : Ln ≤ 2048) (hi : i + 3 < Ln) (hD : Inv D) : ∃ D', Inv D' ∧ b_law_46 xs Ln (z i) D = some (.inl (0, z i + (4 : Int32), D')) := by
  unfold b_law_46
  exact tail_d (c_save hD)
theorem law_47 {xs : Nat → Int32} {Ln i : Nat} (hL : Ln ≤ 2048) (hi : i + 3 < Ln) (hD : Inv D) : ∃ D', Inv D' ∧ b_law_47 xs Ln (z i) D = some (.inl (0, z i + (4 : Int32), D')) := by
  unfold b_law_47
  exact tail_e (c_restore hD)
/-- where the law goes on -/
def Go0 (i : Nat) (D : DD) (r : Option LT) : Prop := r = some (.inl (0, z i + (4 : Int32), D)) ∨ ∃ c, 1 ≤ c ∧ c ≤ 47 ∧ r = some (.inl (c, z i, D))
theorem Go0.ite {i : Nat} {D : DD} {p : Prop} [Decidable p] {a b : Option LT} (h1 : Go0 i D a) (h2 : Go0 i D b) : Go0 i D (if p then a else b) := by
  by_cases h : p
  · rw [if_pos h]
    exact h1
  · rw [if_neg h]
    exact h2
theorem Go0.at {i : Nat} {D : DD} {c : Nat} (h1 : 1 ≤ c) (h2 : c ≤ 47) : Go0 i D (some (.inl (c, z i, D))) := Or.inr ⟨c, h1, h2, rfl⟩
theorem law_0 {xs : Nat → Int32} {Ln i : Nat} (hL : Ln ≤ 2048) (hi : i + 3 < Ln) : Go0 i D (b_law_0 xs Ln (z i) D) := by
  unfold b_law_0
  rw [z_nI, show (Ln : Int) = (Ln : Int) from rfl, if_neg (by rw [show (4 : Int32) = z 4 from rfl, z_sub, z_lt (by omega) (by omega) (by omega) (by omega)]; omega), if_pos (by rw [inB_z (by omega) (by omega)]; omega)]
  refine Go0.ite (Go0.at (by decide) (by decide)) ?_
  refine Go0.ite (Go0.at (by decide) (by decide)) ?_
  refine Go0.ite (Go0.at (by decide) (by decide)) ?_
  refine Go0.ite (Go0.at (by decide) (by decide)) ?_
  refine Go0.ite (Go0.at (by decide) (by decide)) ?_
  refine Go0.ite (Go0.at (by decide) (by decide)) ?_
  refine Go0.ite (Go0.at (by decide) (by decide)) ?_
  refine Go0.ite (Go0.at (by decide) (by decide)) ?_
  refine Go0.ite (Go0.at (by decide) (by decide)) ?_
  refine Go0.ite (Go0.at (by decide) (by decide)) ?_
  refine Go0.ite (Go0.at (by decide) (by decide)) ?_
  refine Go0.ite (Go0.at (by decide) (by decide)) ?_
  refine Go0.ite (Go0.at (by decide) (by decide)) ?_
  refine Go0.ite (Go0.at (by decide) (by decide)) ?_
  refine Go0.ite (Go0.at (by decide) (by decide)) ?_
  refine Go0.ite (Go0.at (by decide) (by decide)) ?_
  refine Go0.ite (Go0.at (by decide) (by decide)) ?_
  refine Go0.ite (Go0.at (by decide) (by decide)) ?_
  refine Go0.ite (Go0.at (by decide) (by decide)) ?_
  refine Go0.ite (Go0.at (by decide) (by decide)) ?_
  refine Go0.ite (Go0.at (by decide) (by decide)) ?_
  refine Go0.ite (Go0.at (by decide) (by decide)) ?_
  refine Go0.ite (Go0.at (by decide) (by decide)) ?_
  refine Go0.ite (Go0.at (by decide) (by decide)) ?_
  refine Go0.ite (Go0.at (by decide) (by decide)) ?_
  refine Go0.ite (Go0.at (by decide) (by decide)) ?_
  refine Go0.ite (Go0.at (by decide) (by decide)) ?_
  refine Go0.ite (Go0.at (by decide) (by decide)) ?_
  refine Go0.ite (Go0.at (by decide) (by decide)) ?_
  refine Go0.ite (Go0.at (by decide) (by decide)) ?_
  refine Go0.ite (Go0.at (by decide) (by decide)) ?_
  refine Go0.ite (Go0.at (by decide) (by decide)) ?_
  refine Go0.ite (Go0.at (by decide) (by decide)) ?_
  refine Go0.ite (Go0.at (by decide) (by decide)) ?_
  refine Go0.ite (Go0.at (by decide) (by decide)) ?_
  refine Go0.ite (Go0.at (by decide) (by decide)) ?_
  refine Go0.ite (Go0.at (by decide) (by decide)) ?_
  refine Go0.ite (Go0.at (by decide) (by decide)) ?_
  refine Go0.ite (Go0.at (by decide) (by decide)) ?_
  refine Go0.ite (Go0.at (by decide) (by decide)) ?_
  refine Go0.ite (Go0.at (by decide) (by decide)) ?_
  refine Go0.ite (Go0.at (by decide) (by decide)) ?_
  refine Go0.ite (Go0.at (by decide) (by decide)) ?_
  refine Go0.ite (Go0.at (by decide) (by decide)) ?_
  refine Go0.ite (Go0.at (by decide) (by decide)) ?_
  refine Go0.ite (Go0.at (by decide) (by decide)) ?_
  refine Go0.ite (Go0.at (by decide) (by decide)) ?_
  exact Or.inl rfl
theorem law_c {xs : Nat → Int32} {Ln i : Nat} (hL : Ln ≤ 2048) (hi : i + 3 < Ln) (hD : Inv D) : ∀ c, 1 ≤ c → c ≤ 47 → ∃ D', Inv D' ∧ T_law xs Ln c (z i) D = some (.inl (0, z i + (4 : Int32), D'))
  | 1, _, _ => law_1 (xs := xs) hL hi hD
  | 2, _, _ => law_2 (xs := xs) hL hi hD
  | 3, _, _ => law_3 (xs := xs) hL hi hD
  | 4, _, _ => law_4 (xs := xs) hL hi hD
  | 5, _, _ => law_5 (xs := xs) hL hi hD
  | 6, _, _ => law_6 (xs := xs) hL hi hD
  | 7, _, _ => law_7 (xs := xs) hL hi hD
  | 8, _, _ => law_8 (xs := xs) hL hi hD
  | 9, _, _ => law_9 (xs := xs) hL hi hD
  | 10, _, _ => law_10 (xs := xs) hL hi hD
  | 11, _, _ => law_11 (xs := xs) hL hi hD
  | 12, _, _ => law_12 (xs := xs) hL hi hD
  | 13, _, _ => law_13 (xs := xs) hL hi hD
  | 14, _, _ => law_14 (xs := xs) hL hi hD
  | 15, _, _ => law_15 (xs := xs) hL hi hD
  | 16, _, _ => law_16 (xs := xs) hL hi hD
  | 17, _, _ => law_17 (xs := xs) hL hi hD
  | 18, _, _ => law_18 (xs := xs) hL hi hD
  | 19, _, _ => law_19 (xs := xs) hL hi hD
  | 20, _, _ => law_20 (xs := xs) hL hi hD
  | 21, _, _ => law_21 (xs := xs) hL hi hD
  | 22, _, _ => law_22 (xs := xs) hL hi hD
  | 23, _, _ => law_23 (xs := xs) hL hi hD
  | 24, _, _ => law_24 (xs := xs) hL hi hD
  | 25, _, _ => law_25 (xs := xs) hL hi hD
  | 26, _, _ => law_26 (xs := xs) hL hi hD
  | 27, _, _ => law_27 (xs := xs) hL hi hD
  | 28, _, _ => law_28 (xs := xs) hL hi hD
  | 29, _, _ => law_29 (xs := xs) hL hi hD
  | 30, _, _ => law_30 (xs := xs) hL hi hD
  | 31, _, _ => law_31 (xs := xs) hL hi hD
  | 32, _, _ => law_32 (xs := xs) hL hi hD
  | 33, _, _ => law_33 (xs := xs) hL hi hD
  | 34, _, _ => law_34 (xs := xs) hL hi hD
  | 35, _, _ => law_35 (xs := xs) hL hi hD
  | 36, _, _ => law_36 (xs := xs) hL hi hD
  | 37, _, _ => law_37 (xs := xs) hL hi hD
  | 38, _, _ => law_38 (xs := xs) hL hi hD
  | 39, _, _ => law_39 (xs := xs) hL hi hD
  | 40, _, _ => law_40 (xs := xs) hL hi hD
  | 41, _, _ => law_41 (xs := xs) hL hi hD
  | 42, _, _ => law_42 (xs := xs) hL hi hD
  | 43, _, _ => law_43 (xs := xs) hL hi hD
  | 44, _, _ => law_44 (xs := xs) hL hi hD
  | 45, _, _ => law_45 (xs := xs) hL hi hD
  | 46, _, _ => law_46 (xs := xs) hL hi hD
  | 47, _, _ => law_47 (xs := xs) hL hi hD
  | 0, h, _ => absurd h (by decide)
  | c + 48, _, h => absurd h (by omega)
theorem law_loop {xs : Nat → Int32} {Ln : Nat} (hL : Ln ≤ 2048) : ∀ j i (D : DD), i ≤ 2080 → Ln ≤ i + 4 * j → Inv D → ∃ m, m ≤ 2 * j + 1 ∧ lrun (T_law xs Ln) m 0 (z i) D = some 1 := by
  have stop : ∀ (i : Nat) (D : DD), i ≤ 2100 → Ln ≤ i + 3 → T_law xs Ln 0 (z i) D = some (.inr (1 : Int32)) := by
    intro i D h1 h2
    show b_law_0 xs Ln (z i) D = _
    unfold b_law_0
    rw [z_nI, if_pos (by rw [show (4 : Int32) = z 4 from rfl, z_sub, z_lt (by omega) (by omega) (by omega) (by omega)]; omega)]
  have main : ∀ j i (D : DD), i ≤ 2080 → Ln ≤ i + 4 * j → Inv D → ∃ m, m ≤ 2 * j + 1 ∧ lrun (T_law xs Ln) m 0 (z i) D = some 1 := by
    intro j
    induction j with
    | zero =>
      intro i D hi h hD
      refine ⟨1, by omega, ?_⟩
      rw [lrun, stop i D (by omega) (by omega)]
    | succ j ih =>
      intro i D hi h hD
      by_cases h3 : i + 3 < Ln
      · have e4 : z i + (4 : Int32) = z ((i + 4 : Nat)) := by
          rw [show (4 : Int32) = z 4 from rfl, z_add]
          rfl
        rcases law_0 (D := D) (xs := xs) hL h3 with h0 | ⟨c, c1, c2, h0⟩
        · rw [e4] at h0
          obtain ⟨m, m1, m2⟩ := ih (i + 4) D (by omega) (by omega) hD
          refine ⟨m + 1, by omega, ?_⟩
          rw [lrun, show T_law xs Ln 0 (z i) D = _ from h0]
          exact m2
        · obtain ⟨D', d1, d2⟩ := law_c (xs := xs) hL h3 hD c c1 c2
          rw [e4] at d2
          obtain ⟨m, m1, m2⟩ := ih (i + 4) D' (by omega) (by omega) d1
          refine ⟨m + 1 + 1, by omega, ?_⟩
          rw [lrun, show T_law xs Ln 0 (z i) D = _ from h0]
          show lrun (T_law xs Ln) (m + 1) c (z i) D = some 1
          rw [lrun, d2]
          exact m2
      · refine ⟨1, by omega, ?_⟩
        rw [lrun, stop i D (by omega) (by omega)]
  exact main
def vI0 : Nat → Nat := fun k => if 4 ≤ k ∧ k < 40 then 5 else 0
theorem D0_Inv : Inv D0 := by
  have hW : WF vI0 := by
    refine ⟨fun c hc => ?_, by decide, fun n hn => ?_, fun i h1 h2 => ?_, by decide, Nat.zero_le _, by decide⟩
    · unfold vI0
      split <;> omega
    · have : vI0 3 = 0 := by decide
      omega
    · unfold vI0
      rw [if_neg (by omega)]
      omega
  refine ⟨vI0, 0, 0, fun _ => vI0, false, vI0, -1, -1, 0, fun _ => 0, 0, fun _ => 0, ⟨fun i hi => ?_, fun i hi => ?_, fun i hi => ?_, fun i h1 h2 => ?_, rfl, rfl, rfl, rfl, rfl⟩, ⟨⟨rfl, rfl, fun i hi => by omega⟩, ⟨rfl, fun h => by cases h⟩, ⟨rfl, rfl⟩, ⟨rfl, fun i hi => by omega⟩, ⟨rfl, fun i hi => by omega⟩⟩, fun i hi => ?_, ⟨⟨rfl, fun i hi => by omega⟩, ⟨rfl, fun h => by cases h⟩, ⟨rfl, rfl⟩, ⟨rfl, fun i hi => by omega⟩, ⟨rfl, fun i hi => by omega⟩, ⟨rfl, rfl⟩⟩, ⟨hW, by omega, by omega, fun i hi => by omega, fun h => (by cases h), by omega, by omega, by omega, fun i hi => by omega, by omega, fun i hi => by omega⟩⟩
  · show f5 i = _
    unfold f5 vI0
    rw [if_pos hi, if_pos (by omega)]
    rfl
  · have : vI0 3 = 0 := by decide
    omega
  · have : vI0 3 = 0 := by decide
    omega
  · show (0 : Int32) = _
    unfold vI0
    rw [if_neg (by omega)]
    rfl
  · show v5 i = _
    unfold v5 vI0
    split <;> rfl
theorem hpure : ∀ (L : Nat) (xs : Nat → Int32), L ≤ 2048 → ∃ n, n ≤ 100000 ∧ lrun (T_law xs L) n 0 0 D0 = some 1 := by
  intro L xs hL
  obtain ⟨m, h1, h2⟩ := law_loop (xs := xs) hL 512 0 D0 (by omega) (by omega) D0_Inv
  exact ⟨m, by omega, h2⟩
end LL
