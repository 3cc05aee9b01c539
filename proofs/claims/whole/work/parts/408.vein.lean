/-! pure: veins -/
theorem adj_symm {a b : Nat} (h : adj a b) : adj b a := by unfold adj at h ⊢; omega
/-- the cells of a vein: in every set that holds its first cell and is closed -/
def Vn (v : Nat → Nat) (a b : Nat) : Prop := ∀ S : Nat → Prop, S a → (∀ x y, x < 36 → y < 36 → S x → adj x y → v (4 + y) = v (4 + x) → S y) → S b
noncomputable def vnB (v : Nat → Nat) (a : Nat) : Nat → Bool := fun b => @decide (b < 36 ∧ Vn v a b) (Classical.propDecidable _)
theorem vnB_iff {v : Nat → Nat} {a b : Nat} : vnB v a b = true ↔ b < 36 ∧ Vn v a b := by
  unfold vnB
  exact iff_of_eq (@decide_eq_true_eq _ (Classical.propDecidable _))
theorem Vn.self {v : Nat → Nat} {a : Nat} : Vn v a a := fun _ h _ => h
theorem Vn.next {v : Nat → Nat} {a x y : Nat} (hx : x < 36) (hy : y < 36) (h : Vn v a x) (h1 : adj x y) (h2 : v (4 + y) = v (4 + x)) : Vn v a y := fun S s1 s2 => s2 x y hx hy (h S s1 s2) h1 h2
theorem Vn.trans {v : Nat → Nat} {a b c : Nat} (h : Vn v a b) (g : Vn v b c) : Vn v a c := g (Vn v a) h (fun _ _ hx hy s h1 h2 => s.next hx hy h1 h2)
theorem Vn.symm {v : Nat → Nat} {a b : Nat} (h : Vn v a b) : Vn v b a := h (fun b => Vn v b a) Vn.self (fun x y hx hy s h1 h2 => (Vn.next hy hx (Vn.self) (adj_symm h1) h2.symm).trans s)
theorem Vn.hard {v : Nat → Nat} {a b : Nat} (h : Vn v a b) : v (4 + b) = v (4 + a) := h (fun b => v (4 + b) = v (4 + a)) rfl (fun _ _ _ _ s _ h2 => h2.trans s)
def VI (D : DD) (F G : Nat → Bool) (ord : Nat → Nat) : Prop := (∀ j, j < 36 → D.2.2.1 50 j = z (zb (F j || G j))) ∧ D.1 125 = z (cnt G 36) ∧ (∀ j, j < cnt G 36 → D.2.2.1 51 j = z (ord j) ∧ ord j < 36 ∧ G (ord j) = true) ∧ (∀ b, b < 36 → G b = true → ∃ j, j < cnt G 36 ∧ ord j = b) ∧ ∀ b, G b = true → F b = false
section LL
variable {D : DD} {v : Nat → Nat} {F G : Nat → Bool} {ord : Nat → Nat}
theorem s_add (hV : VI D F G ord) {c : Nat} (hc : c < 36) : ∃ D' G' ord', S_X11_add (z c) D = some (0, none, D') ∧ FC D D' ∧ VI D' F G' ord' ∧ (∀ b, G' b = (G b || (decide (b = c) && !F c))) ∧ (∀ j, j < cnt G 36 → ord' j = ord j) ∧ cnt G 36 ≤ cnt G' 36 := by
  obtain ⟨b1, b2, b3, b4, b5⟩ := hV
  have hle := cnt_le G 36
  have old : (F c || G c) = true → ∃ D' G' ord', S_X11_add (z c) D = some (0, none, D') ∧ FC D D' ∧ VI D' F G' ord' ∧ (∀ b, G' b = (G b || (decide (b = c) && !F c))) ∧ (∀ j, j < cnt G 36 → ord' j = ord j) ∧ cnt G 36 ≤ cnt G' 36 := by
    intro h
    refine ⟨D, G, ord, ?_, FC.rfl, ⟨b1, b2, b3, b4, b5⟩, fun b => ?_, fun _ _ => rfl, Nat.le_refl _⟩
    · unfold S_X11_add
      simp (disch := omega) only [z_add, z_sub, z_mul, z_neg, ite_T, ite_F, zl_0, zl_1, zl_2, zl_3, zl_4, zl_5, zl_6, zl_7, zl_8, zl_9, zl_10, zl_11, zl_12, zl_13, zl_14, zl_15, zl_16, zl_17, zl_18, zl_19, zl_20, zl_21, zl_22, zl_23, zl_24, zl_25, zl_26, zl_27, zl_28, zl_29, zl_30, zl_31, zl_32, zl_33, zl_34, zl_35, zl_36, zl_37, zl_38, zl_39, zl_40, zl_41, zl_42, zl_43, zl_44, zl_45, zl_46, zl_47, zl_48, zl_49, zl_50, zl_51, zl_52, zl_53, zl_54, zl_55, zl_56, zl_57, zl_58, zl_59, zl_60, zl_61, zl_62, zl_63, zl_64, zl_97, zl_99, zl_100, zl_126, zl_255, zl_434, zl_496, zl_1000000, zl_100000, z_lt, z_le, z_eq, inB_z, z_div, Int.reduceToNat, Wp_some, Nx_l, Nx_r, cI_i, cV_v, cL_l, ite_t, ite_f, z_nn, toNat_c, bz_e0, s_isCell hc, b1 c hc, h, zb_0]
      rfl
    · by_cases e : b = c
      · subst e
        cases hF : F b
        · simp [hF] at h
          simp [h]
        · simp
      · simp [e]
  by_cases hor : (F c || G c) = true
  · exact old hor
  have hF : F c = false := by
    cases h : F c
    · rfl
    · rw [h] at hor
      exact absurd rfl hor
  have hG : G c = false := by
    cases h : G c
    · rfl
    · rw [h, Bool.or_true] at hor
      exact absurd rfl hor
  have hlt := cnt_lt hc hG
  have hcu := cnt_ub hc hG
  refine ⟨setI (setA (setA D 50 (upd (D.2.2.1 50) c (vp_nar .boolean (z 1)))) 51 (upd (D.2.2.1 51) (cnt G 36) (z c))) 125 (z ((cnt G 36 : Int) + 1)), ub G c, fun j => if j = cnt G 36 then c else ord j, ?_, ((FC.rfl.sA (k := 50) rfl).sA (k := 51) rfl).sI (k := 125) rfl, ?_, fun b => by unfold ub; simp [hF], fun j hj => if_neg (by omega), by omega⟩
  · unfold S_X11_add
    simp (disch := omega) only [z_add, z_sub, z_mul, z_neg, ite_T, ite_F, zl_0, zl_1, zl_2, zl_3, zl_4, zl_5, zl_6, zl_7, zl_8, zl_9, zl_10, zl_11, zl_12, zl_13, zl_14, zl_15, zl_16, zl_17, zl_18, zl_19, zl_20, zl_21, zl_22, zl_23, zl_24, zl_25, zl_26, zl_27, zl_28, zl_29, zl_30, zl_31, zl_32, zl_33, zl_34, zl_35, zl_36, zl_37, zl_38, zl_39, zl_40, zl_41, zl_42, zl_43, zl_44, zl_45, zl_46, zl_47, zl_48, zl_49, zl_50, zl_51, zl_52, zl_53, zl_54, zl_55, zl_56, zl_57, zl_58, zl_59, zl_60, zl_61, zl_62, zl_63, zl_64, zl_97, zl_99, zl_100, zl_126, zl_255, zl_434, zl_496, zl_1000000, zl_100000, z_lt, z_le, z_eq, inB_z, z_div, Int.reduceToNat, Wp_some, Nx_l, Nx_r, cI_i, cV_v, cL_l, ite_t, ite_f, z_nn, toNat_c, bz_e0, s_isCell hc, s_inRange, b1 c hc, hF, hG, Bool.or_false, zb_0, b2]
  · refine ⟨fun j hj => ?_, ?_, fun j hj => ?_, fun b hb h => ?_, fun b h => ?_⟩
    · show upd (D.2.2.1 50) c (vp_nar .boolean (z 1)) j = _
      by_cases e : j = c
      · subst e
        rw [upd_same, ub_self, na_1, Bool.or_true]
        rfl
      · rw [upd_ne _ _ e, ub_ne _ e]
        exact b1 j hj
    · show z ((cnt G 36 : Int) + 1) = z ((cnt (ub G c) 36 : Nat))
      rw [hcu]
      rfl
    · show upd (D.2.2.1 51) (cnt G 36) (z c) j = z ((if j = cnt G 36 then c else ord j : Nat)) ∧ (if j = cnt G 36 then c else ord j) < 36 ∧ ub G c (if j = cnt G 36 then c else ord j) = true
      rw [hcu] at hj
      by_cases e : j = cnt G 36
      · rw [e, upd_same, if_pos rfl]
        exact ⟨rfl, hc, ub_self _ _⟩
      · rw [upd_ne _ _ e, if_neg e]
        obtain ⟨q1, q2, q3⟩ := b3 j (by omega)
        exact ⟨q1, q2, by unfold ub; rw [q3]; rfl⟩
    · rw [hcu]
      by_cases e : b = c
      · exact ⟨cnt G 36, by omega, by show (if cnt G 36 = cnt G 36 then c else ord _) = b; rw [if_pos rfl, e]⟩
      · rw [ub_ne _ e] at h
        obtain ⟨j, q1, q2⟩ := b4 b hb h
        exact ⟨j, by omega, by show (if j = cnt G 36 then c else ord j) = b; rw [if_neg (by omega)]; exact q2⟩
    · by_cases e : b = c
      · rw [e]
        exact hF
      · rw [ub_ne _ e] at h
        exact b5 b h
theorem s_addEqual (hC : CS D v) (hW : WF v) (hV : VI D F G ord) {x : Nat} (hx : x < 36) : ∃ D' G' ord', S_X11_addEqualNeighbours (z x) D = some (0, none, D') ∧ FC D D' ∧ VI D' F G' ord' ∧ (∀ b, b < 36 → (G' b = true ↔ G b = true ∨ (adj x b ∧ v (4 + b) = v (4 + x) ∧ F b = false))) ∧ (∀ j, j < cnt G 36 → ord' j = ord j) ∧ cnt G 36 ≤ cnt G' 36 := by
  have key : ∃ r, run T_X11_addEqualNeighbours FUEL 0 [z x] D = some r ∧ ∃ D' G' ord', r = (0, none, D') ∧ FC D D' ∧ VI D' F G' ord' ∧ (∀ b, b < 36 → (G' b = true ↔ G b = true ∨ (adj x b ∧ v (4 + b) = v (4 + x) ∧ F b = false))) ∧ (∀ j, j < cnt G 36 → ord' j = ord j) ∧ cnt G 36 ≤ cnt G' 36 := by
    refine RunP.fin (c := 100) ?_ (by decide)
    refine RunP.go ?_
    show Wp (b_X11_addEqualNeighbours_0 _ _) _
    unfold b_X11_addEqualNeighbours_0
    simp only [Int.reduceToNat, Wp_some, Nx_l, Nx_r, cI_i, cV_v, cL_l, ite_t, ite_f, z_nn, toNat_c, bz_e0, z_add, z_sub, z_mul, z_neg, ite_T, ite_F, zl_0, zl_1, zl_2, zl_3, zl_4, zl_5, zl_6, zl_7, zl_8, zl_9, zl_10, zl_11, zl_12, zl_13, zl_14, zl_15, zl_16, zl_17, zl_18, zl_19, zl_20, zl_21, zl_22, zl_23, zl_24, zl_25, zl_26, zl_27, zl_28, zl_29, zl_30, zl_31, zl_32, zl_33, zl_34, zl_35, zl_36, zl_37, zl_38, zl_39, zl_40, zl_41, zl_42, zl_43, zl_44, zl_45, zl_46, zl_47, zl_48, zl_49, zl_50, zl_51, zl_52, zl_53, zl_54, zl_55, zl_56, zl_57, zl_58, zl_59, zl_60, zl_61, zl_62, zl_63, zl_64, zl_97, zl_99, zl_100, zl_126, zl_255, zl_434, zl_496, zl_1000000, zl_100000]
    refine RunP.loop (fun i ls D' => ls = [z x, z i] ∧ FC D D' ∧ ∃ G' ord', VI D' F G' ord' ∧ (∀ b, b < 36 → (G' b = true ↔ G b = true ∨ ((∃ d, d < i ∧ nbC x d = b) ∧ v (4 + b) = v (4 + x) ∧ F b = false))) ∧ (∀ j, j < cnt G 36 → ord' j = ord j) ∧ cnt G 36 ≤ cnt G' 36) 4 1 1 ?_ ?_ 0 _ _ (by omega) ⟨rfl, FC.rfl, G, ord, hV, fun b hb => ⟨Or.inl, fun h => h.elim id (fun ⟨⟨d, h, _⟩, _⟩ => by omega)⟩, fun _ _ => rfl, Nat.le_refl _⟩ (by omega)
    · rintro i ls D' c hi ⟨rfl, hf, G', ord', hV', h1, h2, h3⟩ hk
      have hC' := hC.fc hf
      have n1 := nbC_lo x i
      have n2 := nbC_hi x i
      have same : (∀ b : Nat, b < 36 → nbC x i = b → v (4 + b) = v (4 + x) → F b = false → G' b = true) → ∀ b, b < 36 → (G' b = true ↔ G b = true ∨ ((∃ d, d < i + 1 ∧ nbC x d = b) ∧ v (4 + b) = v (4 + x) ∧ F b = false)) := by
        intro h b hb
        rw [h1 b hb]
        constructor
        · rintro (q | ⟨⟨d, q1, q2⟩, q3⟩)
          · exact Or.inl q
          · exact Or.inr ⟨⟨d, by omega, q2⟩, q3⟩
        · rintro (q | ⟨⟨d, q1, q2⟩, q3⟩)
          · exact Or.inl q
          · by_cases e : d = i
            · subst e
              exact (h1 b hb).mp (h b hb q2 q3.1 q3.2)
            · exact Or.inr ⟨⟨d, by omega, q2⟩, q3⟩
      refine RunP.go ?_
      show Wp (b_X11_addEqualNeighbours_1 _ _ _) _
      unfold b_X11_addEqualNeighbours_1
      simp (disch := omega) only [z_add, z_sub, z_mul, z_neg, ite_T, ite_F, zl_0, zl_1, zl_2, zl_3, zl_4, zl_5, zl_6, zl_7, zl_8, zl_9, zl_10, zl_11, zl_12, zl_13, zl_14, zl_15, zl_16, zl_17, zl_18, zl_19, zl_20, zl_21, zl_22, zl_23, zl_24, zl_25, zl_26, zl_27, zl_28, zl_29, zl_30, zl_31, zl_32, zl_33, zl_34, zl_35, zl_36, zl_37, zl_38, zl_39, zl_40, zl_41, zl_42, zl_43, zl_44, zl_45, zl_46, zl_47, zl_48, zl_49, zl_50, zl_51, zl_52, zl_53, zl_54, zl_55, zl_56, zl_57, zl_58, zl_59, zl_60, zl_61, zl_62, zl_63, zl_64, zl_97, zl_99, zl_100, zl_126, zl_255, zl_434, zl_496, zl_1000000, zl_100000, z_lt, z_le, z_eq, inB_z, z_div, Int.reduceToNat, Wp_some, Nx_l, Nx_r, cI_i, cV_v, cL_l, ite_t, ite_f, z_nn, toNat_c, bz_e0, s_neighbourOf hx hi]
      split
      · rename_i hn
        rw [Wp_some, Nx_l]
        exact hk _ _ ⟨rfl, hf, G', ord', hV', same (fun b hb e => by omega), h2, h3⟩
      · rename_i hn
        obtain ⟨y, hy⟩ := Int.eq_ofNat_of_zero_le (show 0 ≤ nbC x i by omega)
        have hy36 : y < 36 := by omega
        have w1 := hW.1 y hy36
        have w2 := hW.1 x hx
        rw [hy]
        simp (disch := omega) only [z_add, z_sub, z_mul, z_neg, ite_T, ite_F, zl_0, zl_1, zl_2, zl_3, zl_4, zl_5, zl_6, zl_7, zl_8, zl_9, zl_10, zl_11, zl_12, zl_13, zl_14, zl_15, zl_16, zl_17, zl_18, zl_19, zl_20, zl_21, zl_22, zl_23, zl_24, zl_25, zl_26, zl_27, zl_28, zl_29, zl_30, zl_31, zl_32, zl_33, zl_34, zl_35, zl_36, zl_37, zl_38, zl_39, zl_40, zl_41, zl_42, zl_43, zl_44, zl_45, zl_46, zl_47, zl_48, zl_49, zl_50, zl_51, zl_52, zl_53, zl_54, zl_55, zl_56, zl_57, zl_58, zl_59, zl_60, zl_61, zl_62, zl_63, zl_64, zl_97, zl_99, zl_100, zl_126, zl_255, zl_434, zl_496, zl_1000000, zl_100000, z_lt, z_le, z_eq, inB_z, z_div, Int.reduceToNat, Wp_some, Nx_l, Nx_r, cI_i, cV_v, cL_l, ite_t, ite_f, z_nn, toNat_c, bz_e0, s_hardnessAt hC' hy36, s_hardnessAt hC' hx]
        split
        · rename_i he
          obtain ⟨D2, G2, ord2, q1, q2, q3, q4, q5, q6⟩ := s_add hV' hy36
          rw [q1, cV_v, Wp_some, Nx_l]
          refine hk _ _ ⟨rfl, hf.trans q2, G2, ord2, q3, fun b hb => ?_, fun j hj => (q5 j (by omega)).trans (h2 j hj), by omega⟩
          rw [q4 b, Bool.or_eq_true, h1 b hb, Bool.and_eq_true, decide_eq_true_eq]
          constructor
          · rintro ((q | ⟨⟨d, u1, u2⟩, u3⟩) | ⟨u1, u2⟩)
            · exact Or.inl q
            · exact Or.inr ⟨⟨d, by omega, u2⟩, u3⟩
            · subst u1
              exact Or.inr ⟨⟨i, by omega, hy⟩, by omega, by simpa using u2⟩
          · rintro (q | ⟨⟨d, u1, u2⟩, u3, u4⟩)
            · exact Or.inl (Or.inl q)
            · by_cases e : d = i
              · subst e
                have e2 : b = y := by omega
                subst e2
                exact Or.inr ⟨rfl, by rw [u4]; rfl⟩
              · exact Or.inl (Or.inr ⟨⟨d, by omega, u2⟩, u3, u4⟩)
        · rename_i he
          rw [Wp_some, Nx_l]
          exact hk _ _ ⟨rfl, hf, G', ord', hV', same (fun b hb e q => by
            have e2 : b = y := by omega
            subst e2
            omega), h2, h3⟩
    · rintro ls D' ⟨rfl, hf, G', ord', hV', h1, h2, h3⟩
      refine RunP.go ?_
      show Wp (b_X11_addEqualNeighbours_1 _ _ _) _
      unfold b_X11_addEqualNeighbours_1
      simp (disch := omega) only [z_add, z_sub, z_mul, z_neg, ite_T, ite_F, zl_0, zl_1, zl_2, zl_3, zl_4, zl_5, zl_6, zl_7, zl_8, zl_9, zl_10, zl_11, zl_12, zl_13, zl_14, zl_15, zl_16, zl_17, zl_18, zl_19, zl_20, zl_21, zl_22, zl_23, zl_24, zl_25, zl_26, zl_27, zl_28, zl_29, zl_30, zl_31, zl_32, zl_33, zl_34, zl_35, zl_36, zl_37, zl_38, zl_39, zl_40, zl_41, zl_42, zl_43, zl_44, zl_45, zl_46, zl_47, zl_48, zl_49, zl_50, zl_51, zl_52, zl_53, zl_54, zl_55, zl_56, zl_57, zl_58, zl_59, zl_60, zl_61, zl_62, zl_63, zl_64, zl_97, zl_99, zl_100, zl_126, zl_255, zl_434, zl_496, zl_1000000, zl_100000, z_lt, z_le, z_eq, inB_z, z_div, Int.reduceToNat, Wp_some, Nx_l, Nx_r, cI_i, cV_v, cL_l, ite_t, ite_f, z_nn, toNat_c, bz_e0]
      exact ⟨D', G', ord', rfl, hf, hV', fun b hb => by rw [h1 b hb, nbC_adj hx hb], h2, h3⟩
  obtain ⟨r, h1, D', G', ord', rfl, h2⟩ := key
  exact ⟨D', G', ord', h1, h2⟩
theorem s_follow (hC : CS D v) (hW : WF v) {a : Nat} (ha : a < 36) (hF : ∀ j, j < 36 → D.2.2.1 50 j = z (zb (F j))) (hFa : F a = false) (hcl : ∀ x y, x < 36 → y < 36 → F x = true → adj x y → v (4 + y) = v (4 + x) → F y = true) : ∃ D', S_X11_follow (z a) D = some (0, some (.int (z (cnt (vnB v a) 36))), D') ∧ FC D D' ∧ ∀ j, j < 36 → D'.2.2.1 50 j = z (zb (F j || vnB v a j)) := by
  have key : ∃ r, run T_X11_follow FUEL 0 [z a] D = some r ∧ ∃ D', r = (0, some (.int (z (cnt (vnB v a) 36))), D') ∧ FC D D' ∧ ∀ j, j < 36 → D'.2.2.1 50 j = z (zb (F j || vnB v a j)) := by
    have fin : ∀ (D' : DD) (G : Nat → Bool) (ord : Nat → Nat), FC D D' → VI D' F G ord → G a = true → (∀ b, b < 36 → G b = true → Vn v a b) → (∀ j, j < cnt G 36 → ∀ y, y < 36 → adj (ord j) y → v (4 + y) = v (4 + ord j) → G y = true) → ∃ D2, ((0, some (.int (D'.1 125)), D') : RT) = (0, some (.int (z (cnt (vnB v a) 36))), D2) ∧ FC D D2 ∧ ∀ j, j < 36 → D2.2.2.1 50 j = z (zb (F j || vnB v a j)) := by
      intro D' G ord hf hV h1 h2 h3
      have e : ∀ b, b < 36 → G b = vnB v a b := fun b hb => bool_iff ⟨fun h => vnB_iff.mpr ⟨hb, h2 b hb h⟩, fun h => by
        obtain ⟨g1, g2⟩ := vnB_iff.mp h
        refine (g2 (fun o => o < 36 → G o = true) (fun _ => h1) (fun x y hx hy hS hadj heq _ => ?_)) hb
        obtain ⟨j, q1, q2⟩ := hV.2.2.2.1 x hx (hS hx)
        exact h3 j q1 y hy (by rw [q2]; exact hadj) (by rw [q2]; exact heq)⟩
      refine ⟨D', ?_, hf, fun j hj => ?_⟩
      · rw [hV.2.1, cnt_congr 36 e]
      · rw [hV.1 j hj, e j hj]
    refine RunP.fin (c := 100) ?_ (by decide)
    refine RunP.go ?_
    show Wp (b_X11_follow_0 _ _) _
    unfold b_X11_follow_0
    have hV0 : VI (setI D 125 (z 0)) F (fun _ => false) (fun _ => 0) := by
      have e0 : cnt (fun _ => false) 36 = 0 := by decide
      refine ⟨fun j hj => by rw [Bool.or_false]; exact hF j hj, by rw [e0]; exact setI_same _ _ _, fun j hj => by omega, fun b _ h => (by cases h), fun b h => (by cases h)⟩
    obtain ⟨D2, G2, ord2, q1, q2, q3, q4, q5, q6⟩ := s_add hV0 ha
    simp only [q1, Int.reduceToNat, Wp_some, Nx_l, Nx_r, cI_i, cV_v, cL_l, ite_t, ite_f, z_nn, toNat_c, bz_e0, z_add, z_sub, z_mul, z_neg, ite_T, ite_F, zl_0, zl_1, zl_2, zl_3, zl_4, zl_5, zl_6, zl_7, zl_8, zl_9, zl_10, zl_11, zl_12, zl_13, zl_14, zl_15, zl_16, zl_17, zl_18, zl_19, zl_20, zl_21, zl_22, zl_23, zl_24, zl_25, zl_26, zl_27, zl_28, zl_29, zl_30, zl_31, zl_32, zl_33, zl_34, zl_35, zl_36, zl_37, zl_38, zl_39, zl_40, zl_41, zl_42, zl_43, zl_44, zl_45, zl_46, zl_47, zl_48, zl_49, zl_50, zl_51, zl_52, zl_53, zl_54, zl_55, zl_56, zl_57, zl_58, zl_59, zl_60, zl_61, zl_62, zl_63, zl_64, zl_97, zl_99, zl_100, zl_126, zl_255, zl_434, zl_496, zl_1000000, zl_100000]
    have hG2 : ∀ b, G2 b = decide (b = a) := fun b => by rw [q4 b, hFa]; simp
    have c1 : 0 < cnt G2 36 := by
      have h1 := cnt_ub (p := fun _ => false) ha rfl
      have h2 : cnt G2 36 = cnt (ub (fun _ => false) a) 36 := cnt_congr 36 (fun b _ => by rw [hG2 b]; unfold ub; simp)
      omega
    refine RunP.loop (fun i ls D' => ls = [z i] ∧ FC D D' ∧ ∃ G ord, VI D' F G ord ∧ i ≤ cnt G 36 ∧ G a = true ∧ (∀ b, b < 36 → G b = true → Vn v a b) ∧ (∀ j, j < i → ∀ y, y < 36 → adj (ord j) y → v (4 + y) = v (4 + ord j) → G y = true)) 36 1 1 ?_ ?_ 0 _ _ (by omega) ⟨rfl, (FC.rfl.sI rfl).trans q2, G2, ord2, q3, by omega, by rw [hG2]; simp, fun b hb h => ?_, fun j hj => by omega⟩ (by omega)
    · rintro i ls D' c hi ⟨rfl, hf, G, ord, hV, h1, h2, h3, h4⟩ hk
      have hC' := hC.fc hf
      have hle := cnt_le G 36
      refine RunP.go ?_
      show Wp (b_X11_follow_1 _ _) _
      unfold b_X11_follow_1
      simp (disch := omega) only [z_add, z_sub, z_mul, z_neg, ite_T, ite_F, zl_0, zl_1, zl_2, zl_3, zl_4, zl_5, zl_6, zl_7, zl_8, zl_9, zl_10, zl_11, zl_12, zl_13, zl_14, zl_15, zl_16, zl_17, zl_18, zl_19, zl_20, zl_21, zl_22, zl_23, zl_24, zl_25, zl_26, zl_27, zl_28, zl_29, zl_30, zl_31, zl_32, zl_33, zl_34, zl_35, zl_36, zl_37, zl_38, zl_39, zl_40, zl_41, zl_42, zl_43, zl_44, zl_45, zl_46, zl_47, zl_48, zl_49, zl_50, zl_51, zl_52, zl_53, zl_54, zl_55, zl_56, zl_57, zl_58, zl_59, zl_60, zl_61, zl_62, zl_63, zl_64, zl_97, zl_99, zl_100, zl_126, zl_255, zl_434, zl_496, zl_1000000, zl_100000, z_lt, z_le, z_eq, inB_z, z_div, Int.reduceToNat, Wp_some, Nx_l, Nx_r, cI_i, cV_v, cL_l, ite_t, ite_f, z_nn, toNat_c, bz_e0, hV.2.1]
      split
      · rename_i hik
        obtain ⟨p1, p2, p3⟩ := hV.2.2.1 i (by omega)
        have hF0 := hV.2.2.2.2 _ p3
        obtain ⟨D3, G3, ord3, u1, u2, u3, u4, u5, u6⟩ := s_addEqual hC' hW hV p2
        rw [p1, u1, cV_v, Wp_some, Nx_l]
        refine hk _ _ ⟨rfl, hf.trans u2, G3, ord3, u3, by omega, (u4 a ha).mpr (Or.inl h2), fun b hb h => ?_, fun j hj y hy g1 g2 => ?_⟩
        · rcases (u4 b hb).mp h with h | ⟨g1, g2, -⟩
          · exact h3 b hb h
          · exact (h3 _ p2 p3).next p2 hb g1 g2
        · rw [u5 j (by omega)] at g1 g2
          by_cases e : j = i
          · subst e
            refine (u4 y hy).mpr (Or.inr ⟨g1, g2, ?_⟩)
            cases hFy : F y
            · rfl
            · rw [hcl y (ord j) hy p2 hFy (adj_symm g1) g2.symm] at hF0
              cases hF0
          · exact (u4 y hy).mpr (Or.inl (h4 j (by omega) y hy g1 g2))
      · rename_i hik
        rw [Wp_some, Nx_r]
        have e : i = cnt G 36 := by omega
        subst e
        rw [← hV.2.1]
        exact fin D' G ord hf hV h2 h3 h4
    · rintro ls D' ⟨rfl, hf, G, ord, hV, h1, h2, h3, h4⟩
      have hle := cnt_le G 36
      refine RunP.go ?_
      show Wp (b_X11_follow_1 _ _) _
      unfold b_X11_follow_1
      simp (disch := omega) only [z_add, z_sub, z_mul, z_neg, ite_T, ite_F, zl_0, zl_1, zl_2, zl_3, zl_4, zl_5, zl_6, zl_7, zl_8, zl_9, zl_10, zl_11, zl_12, zl_13, zl_14, zl_15, zl_16, zl_17, zl_18, zl_19, zl_20, zl_21, zl_22, zl_23, zl_24, zl_25, zl_26, zl_27, zl_28, zl_29, zl_30, zl_31, zl_32, zl_33, zl_34, zl_35, zl_36, zl_37, zl_38, zl_39, zl_40, zl_41, zl_42, zl_43, zl_44, zl_45, zl_46, zl_47, zl_48, zl_49, zl_50, zl_51, zl_52, zl_53, zl_54, zl_55, zl_56, zl_57, zl_58, zl_59, zl_60, zl_61, zl_62, zl_63, zl_64, zl_97, zl_99, zl_100, zl_126, zl_255, zl_434, zl_496, zl_1000000, zl_100000, z_lt, z_le, z_eq, inB_z, z_div, Int.reduceToNat, Wp_some, Nx_l, Nx_r, cI_i, cV_v, cL_l, ite_t, ite_f, z_nn, toNat_c, bz_e0]
      have e : 36 = cnt G 36 := by omega
      exact fin D' G ord hf hV h2 h3 (by rw [← e]; exact h4)
    · rw [hG2, decide_eq_true_eq] at h
      subst h
      exact Vn.self
  obtain ⟨r, h1, D', rfl, h2⟩ := key
  exact ⟨D', h1, h2⟩
theorem s_sizeFrom (hC : CS D v) (hW : WF v) {a : Nat} (ha : a < 36) : ∃ D', S_X11_sizeFrom (z a) D = some (0, some (.int (z (cnt (vnB v a) 36))), D') ∧ FC D D' := by
  obtain ⟨g, h1, h2⟩ := X12_clear_veins_found_ok D
  have hf : FC D (setA D 50 g) := FC.rfl.sA rfl
  obtain ⟨D', h3, h4, -⟩ := s_follow (F := fun _ => false) (hC.fc hf) hW ha (fun j hj => by rw [setA_same]; exact h2 j hj) rfl (fun x y _ _ h => by cases h)
  refine ⟨D', ?_, hf.trans h4⟩
  unfold S_X11_sizeFrom
  rw [h1, cV_v, h3, cI_i]
/-- the first cell of its vein -/
noncomputable def lowB (v : Nat → Nat) (c : Nat) : Bool := @decide (∀ b, b < c → ¬ Vn v c b) (Classical.propDecidable _)
theorem lowB_iff {v : Nat → Nat} {c : Nat} : lowB v c = true ↔ ∀ b, b < c → ¬ Vn v c b := by
  unfold lowB
  exact iff_of_eq (@decide_eq_true_eq _ (Classical.propDecidable _))
noncomputable def vcB (v : Nat → Nat) (H : Nat) : Nat → Bool := fun c => decide (v (4 + c) = H) && lowB v c
theorem s_countOf (hC : CS D v) (hW : WF v) {H : Nat} (hH : H ≤ 9) : ∃ D', S_X11_countOf (z H) D = some (0, some (.int (z (cnt (vcB v H) 36))), D') ∧ FC D D' := by
  have key : ∃ r, run T_X11_countOf FUEL 0 [z H] D = some r ∧ ∃ D', r = (0, some (.int (z (cnt (vcB v H) 36))), D') ∧ FC D D' := by
    obtain ⟨g, q1, q2⟩ := X12_clear_veins_found_ok D
    refine RunP.fin (c := 100) ?_ (by decide)
    refine RunP.go ?_
    show Wp (b_X11_countOf_0 _ _) _
    unfold b_X11_countOf_0
    simp only [q1, Int.reduceToNat, Wp_some, Nx_l, Nx_r, cI_i, cV_v, cL_l, ite_t, ite_f, z_nn, toNat_c, bz_e0, z_add, z_sub, z_mul, z_neg, ite_T, ite_F, zl_0, zl_1, zl_2, zl_3, zl_4, zl_5, zl_6, zl_7, zl_8, zl_9, zl_10, zl_11, zl_12, zl_13, zl_14, zl_15, zl_16, zl_17, zl_18, zl_19, zl_20, zl_21, zl_22, zl_23, zl_24, zl_25, zl_26, zl_27, zl_28, zl_29, zl_30, zl_31, zl_32, zl_33, zl_34, zl_35, zl_36, zl_37, zl_38, zl_39, zl_40, zl_41, zl_42, zl_43, zl_44, zl_45, zl_46, zl_47, zl_48, zl_49, zl_50, zl_51, zl_52, zl_53, zl_54, zl_55, zl_56, zl_57, zl_58, zl_59, zl_60, zl_61, zl_62, zl_63, zl_64, zl_97, zl_99, zl_100, zl_126, zl_255, zl_434, zl_496, zl_1000000, zl_100000]
    refine RunP.loop (fun i ls D' => ls = [z H, z (cnt (vcB v H) i), z i] ∧ FC D D' ∧ ∃ F : Nat → Bool, (∀ j, j < 36 → D'.2.2.1 50 j = z (zb (F j))) ∧ ∀ b, b < 36 → (F b = true ↔ ∃ c, c < i ∧ v (4 + c) = H ∧ Vn v c b)) 36 1 1 ?_ ?_ 0 _ _ (by omega) ⟨rfl, FC.rfl.sA rfl, fun _ => false, fun j hj => by rw [setA_same]; exact q2 j hj, fun b hb => ⟨fun h => (by cases h), fun ⟨c, h, _⟩ => (by omega)⟩⟩ (by omega)
    · rintro i ls D' c hi ⟨rfl, hf, F, h1, h2⟩ hk
      have hC' := hC.fc hf
      have w1 := hW.1 i hi
      refine RunP.go ?_
      show Wp (b_X11_countOf_1 _ _ _ _) _
      unfold b_X11_countOf_1
      simp (disch := omega) only [z_add, z_sub, z_mul, z_neg, ite_T, ite_F, zl_0, zl_1, zl_2, zl_3, zl_4, zl_5, zl_6, zl_7, zl_8, zl_9, zl_10, zl_11, zl_12, zl_13, zl_14, zl_15, zl_16, zl_17, zl_18, zl_19, zl_20, zl_21, zl_22, zl_23, zl_24, zl_25, zl_26, zl_27, zl_28, zl_29, zl_30, zl_31, zl_32, zl_33, zl_34, zl_35, zl_36, zl_37, zl_38, zl_39, zl_40, zl_41, zl_42, zl_43, zl_44, zl_45, zl_46, zl_47, zl_48, zl_49, zl_50, zl_51, zl_52, zl_53, zl_54, zl_55, zl_56, zl_57, zl_58, zl_59, zl_60, zl_61, zl_62, zl_63, zl_64, zl_97, zl_99, zl_100, zl_126, zl_255, zl_434, zl_496, zl_1000000, zl_100000, z_lt, z_le, z_eq, inB_z, z_div, Int.reduceToNat, Wp_some, Nx_l, Nx_r, cI_i, cV_v, cL_l, ite_t, ite_f, z_nn, toNat_c, bz_e0, h1 i hi, zb_0, s_hardnessAt hC' hi]
      cases hFi : F i with
      | true =>
        rw [if_neg (by simp), Wp_some, Nx_l]
        obtain ⟨c, u1, u2, u3⟩ := (h2 i hi).mp hFi
        have e : vcB v H i = false := by
          unfold vcB
          rw [Bool.and_eq_false_iff]
          right
          cases hl : lowB v i
          · rfl
          · exact absurd u3.symm (lowB_iff.mp hl c u1)
        refine hk _ _ ⟨by rw [cnt, e]; simp, hf, F, h1, fun b hb => ?_⟩
        rw [h2 b hb]
        constructor
        · rintro ⟨c, q1, q2⟩
          exact ⟨c, by omega, q2⟩
        · rintro ⟨c', q1, q2, q3⟩
          by_cases e : c' = i
          · subst e
            exact ⟨c, u1, u2, u3.trans q3⟩
          · exact ⟨c', by omega, q2, q3⟩
      | false =>
        rw [if_pos rfl]
        by_cases hHi : v (4 + i) = H
        · rw [if_pos (by omega)]
          obtain ⟨D2, u1, u2, u3⟩ := s_follow hC' hW hi h1 hFi (fun x y hx hy g1 g2 g3 => by
            obtain ⟨c, w1, w2, w3⟩ := (h2 x hx).mp g1
            exact (h2 y hy).mpr ⟨c, w1, w2, w3.next hx hy g2 g3⟩)
          have e : vcB v H i = true := by
            unfold vcB
            rw [Bool.and_eq_true, decide_eq_true_eq]
            refine ⟨hHi, lowB_iff.mpr (fun b hb g => ?_)⟩
            have : F i = true := (h2 i hi).mpr ⟨b, hb, by rw [g.hard, hHi], g.symm⟩
            rw [hFi] at this
            cases this
          rw [u1, cI_i, Wp_some, Nx_l]
          refine hk _ _ ⟨by rw [cnt, e]; rfl, hf.trans u2, _, u3, fun b hb => ?_⟩
          rw [Bool.or_eq_true, h2 b hb, vnB_iff]
          constructor
          · rintro (⟨c, q1, q2⟩ | ⟨-, q⟩)
            · exact ⟨c, by omega, q2⟩
            · exact ⟨i, by omega, hHi, q⟩
          · rintro ⟨c', q1, q2, q3⟩
            by_cases e : c' = i
            · subst e
              exact Or.inr ⟨hb, q3⟩
            · exact Or.inl ⟨c', by omega, q2, q3⟩
        · rw [if_neg (by omega), Wp_some, Nx_l]
          have e : vcB v H i = false := by
            unfold vcB
            simp [hHi]
          refine hk _ _ ⟨by rw [cnt, e]; simp, hf, F, h1, fun b hb => ?_⟩
          rw [h2 b hb]
          constructor
          · rintro ⟨c, q1, q2⟩
            exact ⟨c, by omega, q2⟩
          · rintro ⟨c', q1, q2, q3⟩
            by_cases e : c' = i
            · subst e
              exact absurd q2 hHi
            · exact ⟨c', by omega, q2, q3⟩
    · rintro ls D' ⟨rfl, hf, F, h1, h2⟩
      refine RunP.go ?_
      show Wp (b_X11_countOf_1 _ _ _ _) _
      unfold b_X11_countOf_1
      simp (disch := omega) only [z_add, z_sub, z_mul, z_neg, ite_T, ite_F, zl_0, zl_1, zl_2, zl_3, zl_4, zl_5, zl_6, zl_7, zl_8, zl_9, zl_10, zl_11, zl_12, zl_13, zl_14, zl_15, zl_16, zl_17, zl_18, zl_19, zl_20, zl_21, zl_22, zl_23, zl_24, zl_25, zl_26, zl_27, zl_28, zl_29, zl_30, zl_31, zl_32, zl_33, zl_34, zl_35, zl_36, zl_37, zl_38, zl_39, zl_40, zl_41, zl_42, zl_43, zl_44, zl_45, zl_46, zl_47, zl_48, zl_49, zl_50, zl_51, zl_52, zl_53, zl_54, zl_55, zl_56, zl_57, zl_58, zl_59, zl_60, zl_61, zl_62, zl_63, zl_64, zl_97, zl_99, zl_100, zl_126, zl_255, zl_434, zl_496, zl_1000000, zl_100000, z_lt, z_le, z_eq, inB_z, z_div, Int.reduceToNat, Wp_some, Nx_l, Nx_r, cI_i, cV_v, cL_l, ite_t, ite_f, z_nn, toNat_c, bz_e0]
      exact ⟨D', rfl, hf⟩
  obtain ⟨r, h1, D', rfl, h2⟩ := key
  exact ⟨D', h1, h2⟩
end LL
