/-! pure: cuts -/
/-- what bars up to n bring, and by how few pieces -/
def CT (v : Nat → Nat) (w p : Nat → Nat) (n : Nat) : Prop := w 0 = 0 ∧ p 0 = 0 ∧ ∀ b, 1 ≤ b → b ≤ n → (∃ l, 1 ≤ l ∧ l ≤ 10 ∧ l ≤ b ∧ w b = w (b - l) + v (51 + l) ∧ p b = p (b - l) + 1) ∧ ∀ l, 1 ≤ l → l ≤ 10 → l ≤ b → w (b - l) + v (51 + l) < w b ∨ (w (b - l) + v (51 + l) = w b ∧ p b ≤ p (b - l) + 1)
theorem CT.uniq {v : Nat → Nat} {w p w' p' : Nat → Nat} {n : Nat} (h : CT v w p n) (g : CT v w' p' n) : ∀ b, b ≤ n → w b = w' b ∧ p b = p' b := by
  intro b
  induction b using Nat.strongRecOn with
  | _ b ih =>
    intro hb
    by_cases h0 : b = 0
    · subst h0
      exact ⟨h.1.trans g.1.symm, h.2.1.trans g.2.1.symm⟩
    · obtain ⟨⟨l, a1, a2, a3, a4, a5⟩, a6⟩ := h.2.2 b (by omega) hb
      obtain ⟨⟨k, c1, c2, c3, c4, c5⟩, c6⟩ := g.2.2 b (by omega) hb
      obtain ⟨e1, e2⟩ := ih (b - l) (by omega) (by omega)
      obtain ⟨e3, e4⟩ := ih (b - k) (by omega) (by omega)
      have u1 := a6 k c1 c2 c3
      have u2 := c6 l a1 a2 a3
      omega
theorem CT.bound {v : Nat → Nat} (hW : WF v) {w p : Nat → Nat} {n : Nat} (h : CT v w p n) : ∀ b, b ≤ n → w b ≤ 99 * b ∧ p b ≤ b := by
  intro b
  induction b using Nat.strongRecOn with
  | _ b ih =>
    intro hb
    by_cases h0 : b = 0
    · subst h0
      exact ⟨by rw [h.1]; omega, by rw [h.2.1]; omega⟩
    · obtain ⟨⟨l, a1, a2, a3, a4, a5⟩, -⟩ := h.2.2 b (by omega) hb
      obtain ⟨e1, e2⟩ := ih (b - l) (by omega) (by omega)
      have := hW.2.2.2.1 l a1 a2
      omega
/-- the best of the pieces below l for bar b -/
def Pre (v : Nat → Nat) (w p : Nat → Nat) (b l wv pv : Nat) : Prop := (∃ k, 1 ≤ k ∧ k < l ∧ k ≤ 10 ∧ k ≤ b ∧ wv = w (b - k) + v (51 + k) ∧ pv = p (b - k) + 1) ∧ ∀ k, 1 ≤ k → k < l → k ≤ 10 → k ≤ b → w (b - k) + v (51 + k) < wv ∨ (w (b - k) + v (51 + k) = wv ∧ pv ≤ p (b - k) + 1)
theorem Pre.first {v : Nat → Nat} {w p : Nat → Nat} {b : Nat} (hb : 1 ≤ b) : Pre v w p b 2 (w (b - 1) + v (51 + 1)) (p (b - 1) + 1) := by
  refine ⟨⟨1, by omega, by omega, by omega, hb, rfl, rfl⟩, fun k h1 h2 _ _ => ?_⟩
  have : k = 1 := by omega
  subst this
  exact Or.inr ⟨rfl, Nat.le_refl _⟩
theorem Pre.keep {v : Nat → Nat} {w p : Nat → Nat} {b l wv pv : Nat} (h : Pre v w p b l wv pv) (hle : w (b - l) + v (51 + l) < wv ∨ (w (b - l) + v (51 + l) = wv ∧ pv ≤ p (b - l) + 1)) : Pre v w p b (l + 1) wv pv := by
  obtain ⟨⟨k, a1, a2, a3⟩, a4⟩ := h
  refine ⟨⟨k, a1, by omega, a3⟩, fun k h1 h2 h3 h4 => ?_⟩
  by_cases e : k = l
  · rw [e]
    exact hle
  · exact a4 k h1 (by omega) h3 h4
theorem Pre.take {v : Nat → Nat} {w p : Nat → Nat} {b l wv pv : Nat} (hl : 1 ≤ l) (h10 : l ≤ 10) (hlb : l ≤ b) (h : Pre v w p b l wv pv) (hgt : wv < w (b - l) + v (51 + l) ∨ (w (b - l) + v (51 + l) = wv ∧ p (b - l) + 1 < pv)) : Pre v w p b (l + 1) (w (b - l) + v (51 + l)) (p (b - l) + 1) := by
  refine ⟨⟨l, hl, by omega, h10, hlb, rfl, rfl⟩, fun k h1 h2 h3 h4 => ?_⟩
  by_cases e : k = l
  · rw [e]
    exact Or.inr ⟨rfl, Nat.le_refl _⟩
  · have := h.2 k h1 (by omega) h3 h4
    omega
theorem CT.ext {v : Nat → Nat} {w p : Nat → Nat} {b l wv pv : Nat} (h : CT v w p b) (g : Pre v w p (b + 1) l wv pv) (hl : ∀ k, 1 ≤ k → k ≤ 10 → k ≤ b + 1 → k < l) : CT v (fun j => if j = b + 1 then wv else w j) (fun j => if j = b + 1 then pv else p j) (b + 1) := by
  refine ⟨by show (if 0 = b + 1 then wv else w 0) = 0; rw [if_neg (by omega)]; exact h.1, by show (if 0 = b + 1 then pv else p 0) = 0; rw [if_neg (by omega)]; exact h.2.1, fun c h1 h2 => ?_⟩
  by_cases e : c = b + 1
  · subst e
    obtain ⟨⟨k, a1, a2, a3, a4, a5, a6⟩, a7⟩ := g
    refine ⟨⟨k, a1, a3, a4, ?_, ?_⟩, fun k c1 c2 c3 => ?_⟩
    · show (if b + 1 = b + 1 then wv else w (b + 1)) = (if b + 1 - k = b + 1 then wv else w (b + 1 - k)) + v (51 + k)
      rw [if_pos rfl, if_neg (by omega)]
      exact a5
    · show (if b + 1 = b + 1 then pv else p (b + 1)) = (if b + 1 - k = b + 1 then pv else p (b + 1 - k)) + 1
      rw [if_pos rfl, if_neg (by omega)]
      exact a6
    · show (if b + 1 - k = b + 1 then wv else w (b + 1 - k)) + v (51 + k) < (if b + 1 = b + 1 then wv else w (b + 1)) ∨ ((if b + 1 - k = b + 1 then wv else w (b + 1 - k)) + v (51 + k) = (if b + 1 = b + 1 then wv else w (b + 1)) ∧ (if b + 1 = b + 1 then pv else p (b + 1)) ≤ (if b + 1 - k = b + 1 then pv else p (b + 1 - k)) + 1)
      rw [if_pos rfl, if_neg (by omega), if_pos rfl, if_neg (by omega)]
      exact a7 k c1 (hl k c1 c2 c3) c2 c3
  · obtain ⟨⟨k, a1, a2, a3, a4, a5⟩, a6⟩ := h.2.2 c h1 (by omega)
    refine ⟨⟨k, a1, a2, a3, ?_, ?_⟩, fun k c1 c2 c3 => ?_⟩
    · show (if c = b + 1 then wv else w c) = (if c - k = b + 1 then wv else w (c - k)) + v (51 + k)
      rw [if_neg e, if_neg (by omega)]
      exact a4
    · show (if c = b + 1 then pv else p c) = (if c - k = b + 1 then pv else p (c - k)) + 1
      rw [if_neg e, if_neg (by omega)]
      exact a5
    · show (if c - k = b + 1 then wv else w (c - k)) + v (51 + k) < (if c = b + 1 then wv else w c) ∨ ((if c - k = b + 1 then wv else w (c - k)) + v (51 + k) = (if c = b + 1 then wv else w c) ∧ (if c = b + 1 then pv else p c) ≤ (if c - k = b + 1 then pv else p (c - k)) + 1)
      rw [if_neg e, if_neg (by omega), if_neg e, if_neg (by omega)]
      exact a6 k c1 c2 c3
section LL
variable {D : DD} {v : Nat → Nat}
theorem s_fillTable (hC : CS D v) (hW : WF v) : ∃ (D' : DD) (w p : Nat → Nat), S_X5_fillTable D = some (0, none, D') ∧ FC D D' ∧ CT v w p 30 ∧ ∀ j, j < 31 → D'.2.2.1 62 j = z (w j) ∧ D'.2.2.1 63 j = z (p j) := by
  have key : ∃ r, run T_X5_fillTable FUEL 0 [] D = some r ∧ ∃ (D' : DD) (w p : Nat → Nat), r = (0, none, D') ∧ FC D D' ∧ CT v w p 30 ∧ ∀ j, j < 31 → D'.2.2.1 62 j = z (w j) ∧ D'.2.2.1 63 j = z (p j) := by
    refine RunP.fin (c := 2000) ?_ (by decide)
    refine RunP.go ?_
    show Wp (b_X5_fillTable_0 _) _
    unfold b_X5_fillTable_0
    simp only [Int.reduceToNat, Wp_some, Nx_l, Nx_r, cI_i, cV_v, cL_l, ite_t, ite_f, z_nn, toNat_c, bz_e0, z_add, z_sub, z_mul, z_neg, ite_T, ite_F, zl_0, zl_1, zl_2, zl_3, zl_4, zl_5, zl_6, zl_7, zl_8, zl_9, zl_10, zl_11, zl_12, zl_13, zl_14, zl_15, zl_16, zl_17, zl_18, zl_19, zl_20, zl_21, zl_22, zl_23, zl_24, zl_25, zl_26, zl_27, zl_28, zl_29, zl_30, zl_31, zl_32, zl_33, zl_34, zl_35, zl_36, zl_37, zl_38, zl_39, zl_40, zl_41, zl_42, zl_43, zl_44, zl_45, zl_46, zl_47, zl_48, zl_49, zl_50, zl_51, zl_52, zl_53, zl_54, zl_55, zl_56, zl_57, zl_58, zl_59, zl_60, zl_61, zl_62, zl_63, zl_64, zl_97, zl_99, zl_100, zl_126, zl_255, zl_434, zl_496, zl_1000000, zl_100000]
    refine RunP.loop (fun i ls D' => ls = [z ((i + 1 : Nat))] ∧ FC D D' ∧ ∃ w p : Nat → Nat, CT v w p i ∧ ∀ j, j < i + 1 → D'.2.2.1 62 j = z (w j) ∧ D'.2.2.1 63 j = z (p j)) 30 40 1 ?_ ?_ 0 _ _ (by omega) ⟨rfl, (FC.rfl.sA rfl).sA rfl, fun _ => 0, fun _ => 0, ⟨rfl, rfl, fun b h1 h2 => by omega⟩, fun j hj => ?_⟩ (by omega)
    · rintro i ls D' c hi ⟨rfl, hf, w, p, hT, hr⟩ hk
      have hbd := hT.bound hW
      refine RunP.mono (c := (c + 39) + 1) ?_ (by omega)
      refine RunP.go ?_
      show Wp (b_X5_fillTable_1 _ _) _
      unfold b_X5_fillTable_1
      simp (disch := omega) only [z_add, z_sub, z_mul, z_neg, ite_T, ite_F, zl_0, zl_1, zl_2, zl_3, zl_4, zl_5, zl_6, zl_7, zl_8, zl_9, zl_10, zl_11, zl_12, zl_13, zl_14, zl_15, zl_16, zl_17, zl_18, zl_19, zl_20, zl_21, zl_22, zl_23, zl_24, zl_25, zl_26, zl_27, zl_28, zl_29, zl_30, zl_31, zl_32, zl_33, zl_34, zl_35, zl_36, zl_37, zl_38, zl_39, zl_40, zl_41, zl_42, zl_43, zl_44, zl_45, zl_46, zl_47, zl_48, zl_49, zl_50, zl_51, zl_52, zl_53, zl_54, zl_55, zl_56, zl_57, zl_58, zl_59, zl_60, zl_61, zl_62, zl_63, zl_64, zl_97, zl_99, zl_100, zl_126, zl_255, zl_434, zl_496, zl_1000000, zl_100000, z_lt, z_le, z_eq, inB_z, z_div, Int.reduceToNat, Wp_some, Nx_l, Nx_r, cI_i, cV_v, cL_l, ite_t, ite_f, z_nn, toNat_c, bz_e0]
      have fin : ∀ (l : Nat) (D2 : DD) (wv pv : Nat), FC D D2 → (∀ j, j < i + 1 → D2.2.2.1 62 j = z (w j) ∧ D2.2.2.1 63 j = z (p j)) → D2.2.2.1 62 (i + 1) = z wv → D2.2.2.1 63 (i + 1) = z pv → Pre v w p (i + 1) l wv pv → (10 < l ∨ i + 1 < l) → ∀ c', c ≤ c' → RunP T_X5_fillTable c' 1 [z ((i + 1 + 1 : Nat))] D2 (fun r => ∃ (D' : DD) (w p : Nat → Nat), r = (0, none, D') ∧ FC D D' ∧ CT v w p 30 ∧ ∀ j, j < 31 → D'.2.2.1 62 j = z (w j) ∧ D'.2.2.1 63 j = z (p j)) := by
        intro l D2 wv pv hf2 hr2 e62 e63 hP hl c' hc'
        refine RunP.mono (hk _ _ ⟨rfl, hf2, _, _, hT.ext hP (fun k h1 h2 h3 => by omega), fun j hj => ?_⟩) hc'
        by_cases e : j = i + 1
        · rw [e, if_pos rfl, if_pos rfl]
          exact ⟨e62, e63⟩
        · rw [if_neg e, if_neg e]
          exact hr2 j (by omega)
      refine RunP.loopE (fun k ls D2 => ls = [z ((i + 1 : Nat)), z ((k + 1 : Nat))] ∧ k ≤ i + 1 ∧ FC D D2 ∧ (∀ j, j < i + 1 → D2.2.2.1 62 j = z (w j) ∧ D2.2.2.1 63 j = z (p j)) ∧ ∃ (W : Int) (pv : Nat), D2.2.2.1 62 (i + 1) = z W ∧ D2.2.2.1 63 (i + 1) = z pv ∧ ((k = 0 ∧ W = -1 ∧ pv = 0) ∨ (0 < k ∧ ∃ wv : Nat, W = wv ∧ wv ≤ 99 * (i + 1) ∧ pv ≤ i + 1 ∧ Pre v w p (i + 1) (k + 1) wv pv))) 10 2 (c + 1) ?_ ?_ 0 _ (setA (setA D' 62 (upd (D'.2.2.1 62) (i + 1) (z (-1)))) 63 (upd (D'.2.2.1 63) (i + 1) (z 0))) (by omega) ⟨rfl, by omega, (hf.sA rfl).sA rfl, fun j hj => ?_, -1, 0, ?_, ?_, Or.inl ⟨rfl, rfl, rfl⟩⟩ (by omega)
      · rintro k ls D2 c2 hc2 hk10 ⟨rfl, hki, hf2, hr2, W, pv, e62, e63, hW2⟩ hk2
        by_cases hout : i + 1 < k + 1
        · refine RunP.mono (c := c + 1) ?_ (by omega)
          refine RunP.go ?_
          show Wp (b_X5_fillTable_2 _ _ _) _
          unfold b_X5_fillTable_2
          simp (disch := omega) only [z_add, z_sub, z_mul, z_neg, ite_T, ite_F, zl_0, zl_1, zl_2, zl_3, zl_4, zl_5, zl_6, zl_7, zl_8, zl_9, zl_10, zl_11, zl_12, zl_13, zl_14, zl_15, zl_16, zl_17, zl_18, zl_19, zl_20, zl_21, zl_22, zl_23, zl_24, zl_25, zl_26, zl_27, zl_28, zl_29, zl_30, zl_31, zl_32, zl_33, zl_34, zl_35, zl_36, zl_37, zl_38, zl_39, zl_40, zl_41, zl_42, zl_43, zl_44, zl_45, zl_46, zl_47, zl_48, zl_49, zl_50, zl_51, zl_52, zl_53, zl_54, zl_55, zl_56, zl_57, zl_58, zl_59, zl_60, zl_61, zl_62, zl_63, zl_64, zl_97, zl_99, zl_100, zl_126, zl_255, zl_434, zl_496, zl_1000000, zl_100000, z_lt, z_le, z_eq, inB_z, z_div, Int.reduceToNat, Wp_some, Nx_l, Nx_r, cI_i, cV_v, cL_l, ite_t, ite_f, z_nn, toNat_c, bz_e0]
          rcases hW2 with ⟨e, -⟩ | ⟨h0, wv, rfl, hwv, hpv, hP⟩
          · omega
          · exact fin (k + 1) D2 wv pv hf2 hr2 e62 e63 hP (Or.inr hout) c (by omega)
        · obtain ⟨r1, r2⟩ := hr2 (i - k) (by omega)
          obtain ⟨bd1, bd2⟩ := hbd (i - k) (by omega)
          have hpr := hW.2.2.2.1 (k + 1) (by omega) (by omega)
          have eI : ((i + 1 : Nat) : Int) - ((k + 1 : Nat) : Int) = ((i - k : Nat) : Int) := by omega
          have ek : i + 1 - (k + 1) = i - k := by omega
          have hC2 := hC.fc hf2
          have spr := s_priceAt hC2 (a := k + 1) (by omega) (by omega)
          have keep : ∀ wv : Nat, W = wv → wv ≤ 99 * (i + 1) → pv ≤ i + 1 → Pre v w p (i + 1) (k + 1 + 1) wv pv → RunP T_X5_fillTable (c2 + 1) 2 [z ((i + 1 : Nat)), z ((k + 1 + 1 : Nat))] D2 (fun r => ∃ (D' : DD) (w p : Nat → Nat), r = (0, none, D') ∧ FC D D' ∧ CT v w p 30 ∧ ∀ j, j < 31 → D'.2.2.1 62 j = z (w j) ∧ D'.2.2.1 63 j = z (p j)) := by
            intro wv e hwv hpv hP
            exact RunP.mono (hk2 _ _ ⟨rfl, by omega, hf2, hr2, W, pv, e62, e63, Or.inr ⟨by omega, wv, e, hwv, hpv, hP⟩⟩) (by omega)
          have take : Pre v w p (i + 1) (k + 1 + 1) (w (i + 1 - (k + 1)) + v (51 + (k + 1))) (p (i + 1 - (k + 1)) + 1) → RunP T_X5_fillTable (c2 + 1) 3 [z ((i + 1 : Nat)), z ((k + 1 : Nat)), z ((w (i - k) : Int) + v (51 + (k + 1))), z ((p (i - k) : Int) + 1)] D2 (fun r => ∃ (D' : DD) (w p : Nat → Nat), r = (0, none, D') ∧ FC D D' ∧ CT v w p 30 ∧ ∀ j, j < 31 → D'.2.2.1 62 j = z (w j) ∧ D'.2.2.1 63 j = z (p j)) := by
            intro hP
            rw [ek] at hP
            refine RunP.go ?_
            show Wp (b_X5_fillTable_3 _ _ _ _ _) _
            unfold b_X5_fillTable_3
            simp (disch := omega) only [z_add, z_sub, z_mul, z_neg, ite_T, ite_F, zl_0, zl_1, zl_2, zl_3, zl_4, zl_5, zl_6, zl_7, zl_8, zl_9, zl_10, zl_11, zl_12, zl_13, zl_14, zl_15, zl_16, zl_17, zl_18, zl_19, zl_20, zl_21, zl_22, zl_23, zl_24, zl_25, zl_26, zl_27, zl_28, zl_29, zl_30, zl_31, zl_32, zl_33, zl_34, zl_35, zl_36, zl_37, zl_38, zl_39, zl_40, zl_41, zl_42, zl_43, zl_44, zl_45, zl_46, zl_47, zl_48, zl_49, zl_50, zl_51, zl_52, zl_53, zl_54, zl_55, zl_56, zl_57, zl_58, zl_59, zl_60, zl_61, zl_62, zl_63, zl_64, zl_97, zl_99, zl_100, zl_126, zl_255, zl_434, zl_496, zl_1000000, zl_100000, z_lt, z_le, z_eq, inB_z, z_div, Int.reduceToNat, Wp_some, Nx_l, Nx_r, cI_i, cV_v, cL_l, ite_t, ite_f, z_nn, toNat_c, bz_e0]
            refine hk2 _ _ ⟨rfl, by omega, (hf2.sA rfl).sA rfl, fun j hj => ?_, _, _, ?_, ?_, Or.inr ⟨by omega, w (i - k) + v (51 + (k + 1)), rfl, by omega, by omega, hP⟩⟩
            · rw [setA_ne _ _ (by decide), setA_same, setA_same, upd_ne _ _ (by omega), upd_ne _ _ (by omega)]
              exact hr2 j hj
            · rw [setA_ne _ _ (by decide), setA_same, upd_same]
              rfl
            · rw [setA_same, upd_same]
              rfl
          refine RunP.go ?_
          show Wp (b_X5_fillTable_2 _ _ _) _
          unfold b_X5_fillTable_2
          have hWr : -1 ≤ W ∧ W ≤ 3000 := by
            rcases hW2 with q | ⟨-, wv, q1, q2, -⟩ <;> omega
          simp (disch := omega) only [z_add, z_sub, z_mul, z_neg, ite_T, ite_F, zl_0, zl_1, zl_2, zl_3, zl_4, zl_5, zl_6, zl_7, zl_8, zl_9, zl_10, zl_11, zl_12, zl_13, zl_14, zl_15, zl_16, zl_17, zl_18, zl_19, zl_20, zl_21, zl_22, zl_23, zl_24, zl_25, zl_26, zl_27, zl_28, zl_29, zl_30, zl_31, zl_32, zl_33, zl_34, zl_35, zl_36, zl_37, zl_38, zl_39, zl_40, zl_41, zl_42, zl_43, zl_44, zl_45, zl_46, zl_47, zl_48, zl_49, zl_50, zl_51, zl_52, zl_53, zl_54, zl_55, zl_56, zl_57, zl_58, zl_59, zl_60, zl_61, zl_62, zl_63, zl_64, zl_97, zl_99, zl_100, zl_126, zl_255, zl_434, zl_496, zl_1000000, zl_100000, z_lt, z_le, z_eq, inB_z, z_div, Int.reduceToNat, Wp_some, Nx_l, Nx_r, cI_i, cV_v, cL_l, ite_t, ite_f, z_nn, toNat_c, bz_e0, eI, r1, r2, e62, e63, spr]
          split
          · rename_i h1
            rw [Wp_some, Nx_l]
            refine take (Or.elim hW2 (fun q => ?_) (fun q => ?_))
            · have : k = 0 := q.1
              subst this
              exact Pre.first (by omega)
            · obtain ⟨h0, wv, e, hwv, hpv, hP⟩ := q
              exact hP.take (by omega) (by omega) (by omega) (Or.inl (by rw [ek]; omega))
          · rename_i h1
            rcases hW2 with ⟨q1, q2⟩ | ⟨h0, wv, rfl, hwv, hpv, hP⟩
            · omega
            · split
              · rename_i h2
                split
                · rename_i h3
                  rw [Wp_some, Nx_l]
                  exact keep wv rfl hwv hpv (hP.keep (Or.inr (by rw [ek]; omega)))
                · rename_i h3
                  rw [Wp_some, Nx_l]
                  exact take (hP.take (by omega) (by omega) (by omega) (Or.inr (by rw [ek]; omega)))
              · rename_i h2
                rw [Wp_some, Nx_l]
                exact keep wv rfl hwv hpv (hP.keep (Or.inl (by rw [ek]; omega)))
      · rintro ls D2 ⟨rfl, hki, hf2, hr2, W, pv, e62, e63, hW2⟩
        refine RunP.go ?_
        show Wp (b_X5_fillTable_2 _ _ _) _
        unfold b_X5_fillTable_2
        simp (disch := omega) only [z_add, z_sub, z_mul, z_neg, ite_T, ite_F, zl_0, zl_1, zl_2, zl_3, zl_4, zl_5, zl_6, zl_7, zl_8, zl_9, zl_10, zl_11, zl_12, zl_13, zl_14, zl_15, zl_16, zl_17, zl_18, zl_19, zl_20, zl_21, zl_22, zl_23, zl_24, zl_25, zl_26, zl_27, zl_28, zl_29, zl_30, zl_31, zl_32, zl_33, zl_34, zl_35, zl_36, zl_37, zl_38, zl_39, zl_40, zl_41, zl_42, zl_43, zl_44, zl_45, zl_46, zl_47, zl_48, zl_49, zl_50, zl_51, zl_52, zl_53, zl_54, zl_55, zl_56, zl_57, zl_58, zl_59, zl_60, zl_61, zl_62, zl_63, zl_64, zl_97, zl_99, zl_100, zl_126, zl_255, zl_434, zl_496, zl_1000000, zl_100000, z_lt, z_le, z_eq, inB_z, z_div, Int.reduceToNat, Wp_some, Nx_l, Nx_r, cI_i, cV_v, cL_l, ite_t, ite_f, z_nn, toNat_c, bz_e0]
        rcases hW2 with ⟨e, -⟩ | ⟨h0, wv, rfl, hwv, hpv, hP⟩
        · omega
        · exact fin 11 D2 wv pv hf2 hr2 e62 e63 hP (Or.inl (by omega)) c (Nat.le_refl _)
      · rw [setA_ne _ _ (by decide), setA_same, setA_same, upd_ne _ _ (by omega), upd_ne _ _ (by omega)]
        exact hr j hj
      · rw [setA_ne _ _ (by decide), setA_same, upd_same]
      · rw [setA_same, upd_same]
        rfl
    · rintro ls D' ⟨rfl, hf, w, p, hT, hr⟩
      refine RunP.go ?_
      show Wp (b_X5_fillTable_1 _ _) _
      unfold b_X5_fillTable_1
      simp (disch := omega) only [z_add, z_sub, z_mul, z_neg, ite_T, ite_F, zl_0, zl_1, zl_2, zl_3, zl_4, zl_5, zl_6, zl_7, zl_8, zl_9, zl_10, zl_11, zl_12, zl_13, zl_14, zl_15, zl_16, zl_17, zl_18, zl_19, zl_20, zl_21, zl_22, zl_23, zl_24, zl_25, zl_26, zl_27, zl_28, zl_29, zl_30, zl_31, zl_32, zl_33, zl_34, zl_35, zl_36, zl_37, zl_38, zl_39, zl_40, zl_41, zl_42, zl_43, zl_44, zl_45, zl_46, zl_47, zl_48, zl_49, zl_50, zl_51, zl_52, zl_53, zl_54, zl_55, zl_56, zl_57, zl_58, zl_59, zl_60, zl_61, zl_62, zl_63, zl_64, zl_97, zl_99, zl_100, zl_126, zl_255, zl_434, zl_496, zl_1000000, zl_100000, z_lt, z_le, z_eq, inB_z, z_div, Int.reduceToNat, Wp_some, Nx_l, Nx_r, cI_i, cV_v, cL_l, ite_t, ite_f, z_nn, toNat_c, bz_e0]
      exact ⟨D', w, p, rfl, hf, hT, fun j hj => hr j (by omega)⟩
    · have : j = 0 := by omega
      subst this
      have e0 : (z 0).toNatClampNeg = 0 := by decide
      rw [setA_ne _ _ (by decide), setA_same, setA_same, e0, upd_same, upd_same]
      exact ⟨rfl, rfl⟩
  obtain ⟨r, h1, D', w, p, rfl, h2⟩ := key
  exact ⟨D', w, p, h1, h2⟩
theorem m_cuts (hM : MR D v) (hW : WF v) : ∃ (D' : DD) (w p : Nat → Nat), S_X13_cuts D = some (0, none, D') ∧ FM D D' ∧ D'.1 140 = D.1 140 ∧ CT v w p 30 ∧ ∀ j, j < 31 → D'.2.2.1 77 j = z (w j) ∧ D'.2.2.1 78 j = z (p j) := by
  have key : ∃ r, run T_X13_cuts FUEL 0 [] D = some r ∧ ∃ (D' : DD) (w p : Nat → Nat), r = (0, none, D') ∧ FM D D' ∧ D'.1 140 = D.1 140 ∧ CT v w p 30 ∧ ∀ j, j < 31 → D'.2.2.1 77 j = z (w j) ∧ D'.2.2.1 78 j = z (p j) := by
    refine RunP.fin (c := 2000) ?_ (by decide)
    refine RunP.go ?_
    show Wp (b_X13_cuts_0 _) _
    unfold b_X13_cuts_0
    simp only [Int.reduceToNat, Wp_some, Nx_l, Nx_r, cI_i, cV_v, cL_l, ite_t, ite_f, z_nn, toNat_c, bz_e0, z_add, z_sub, z_mul, z_neg, ite_T, ite_F, zl_0, zl_1, zl_2, zl_3, zl_4, zl_5, zl_6, zl_7, zl_8, zl_9, zl_10, zl_11, zl_12, zl_13, zl_14, zl_15, zl_16, zl_17, zl_18, zl_19, zl_20, zl_21, zl_22, zl_23, zl_24, zl_25, zl_26, zl_27, zl_28, zl_29, zl_30, zl_31, zl_32, zl_33, zl_34, zl_35, zl_36, zl_37, zl_38, zl_39, zl_40, zl_41, zl_42, zl_43, zl_44, zl_45, zl_46, zl_47, zl_48, zl_49, zl_50, zl_51, zl_52, zl_53, zl_54, zl_55, zl_56, zl_57, zl_58, zl_59, zl_60, zl_61, zl_62, zl_63, zl_64, zl_97, zl_99, zl_100, zl_126, zl_255, zl_434, zl_496, zl_1000000, zl_100000]
    refine RunP.loop (fun i ls D' => ls = [z ((i + 1 : Nat))] ∧ FM D D' ∧ D'.1 140 = D.1 140 ∧ ∃ w p : Nat → Nat, CT v w p i ∧ ∀ j, j < i + 1 → D'.2.2.1 77 j = z (w j) ∧ D'.2.2.1 78 j = z (p j)) 30 40 1 ?_ ?_ 0 _ _ (by omega) ⟨rfl, (FM.rfl.sA rfl).sA rfl, rfl, fun _ => 0, fun _ => 0, ⟨rfl, rfl, fun b h1 h2 => by omega⟩, fun j hj => ?_⟩ (by omega)
    · rintro i ls D' c hi ⟨rfl, hf, h140, w, p, hT, hr⟩ hk
      have hbd := hT.bound hW
      refine RunP.mono (c := (c + 39) + 1) ?_ (by omega)
      refine RunP.go ?_
      show Wp (b_X13_cuts_1 _ _) _
      unfold b_X13_cuts_1
      simp (disch := omega) only [z_add, z_sub, z_mul, z_neg, ite_T, ite_F, zl_0, zl_1, zl_2, zl_3, zl_4, zl_5, zl_6, zl_7, zl_8, zl_9, zl_10, zl_11, zl_12, zl_13, zl_14, zl_15, zl_16, zl_17, zl_18, zl_19, zl_20, zl_21, zl_22, zl_23, zl_24, zl_25, zl_26, zl_27, zl_28, zl_29, zl_30, zl_31, zl_32, zl_33, zl_34, zl_35, zl_36, zl_37, zl_38, zl_39, zl_40, zl_41, zl_42, zl_43, zl_44, zl_45, zl_46, zl_47, zl_48, zl_49, zl_50, zl_51, zl_52, zl_53, zl_54, zl_55, zl_56, zl_57, zl_58, zl_59, zl_60, zl_61, zl_62, zl_63, zl_64, zl_97, zl_99, zl_100, zl_126, zl_255, zl_434, zl_496, zl_1000000, zl_100000, z_lt, z_le, z_eq, inB_z, z_div, Int.reduceToNat, Wp_some, Nx_l, Nx_r, cI_i, cV_v, cL_l, ite_t, ite_f, z_nn, toNat_c, bz_e0]
      have fin : ∀ (l : Nat) (D2 : DD) (wv pv : Nat), FM D D2 → D2.1 140 = D.1 140 → (∀ j, j < i + 1 → D2.2.2.1 77 j = z (w j) ∧ D2.2.2.1 78 j = z (p j)) → D2.2.2.1 77 (i + 1) = z wv → D2.2.2.1 78 (i + 1) = z pv → Pre v w p (i + 1) l wv pv → (10 < l ∨ i + 1 < l) → ∀ c', c ≤ c' → RunP T_X13_cuts c' 1 [z ((i + 1 + 1 : Nat))] D2 (fun r => ∃ (D' : DD) (w p : Nat → Nat), r = (0, none, D') ∧ FM D D' ∧ D'.1 140 = D.1 140 ∧ CT v w p 30 ∧ ∀ j, j < 31 → D'.2.2.1 77 j = z (w j) ∧ D'.2.2.1 78 j = z (p j)) := by
        intro l D2 wv pv hf2 h140b hr2 e62 e63 hP hl c' hc'
        refine RunP.mono (hk _ _ ⟨rfl, hf2, h140b, _, _, hT.ext hP (fun k h1 h2 h3 => by omega), fun j hj => ?_⟩) hc'
        by_cases e : j = i + 1
        · rw [e, if_pos rfl, if_pos rfl]
          exact ⟨e62, e63⟩
        · rw [if_neg e, if_neg e]
          exact hr2 j (by omega)
      refine RunP.loopE (fun k ls D2 => ls = [z ((i + 1 : Nat)), z ((k + 1 : Nat))] ∧ k ≤ i + 1 ∧ FM D D2 ∧ D2.1 140 = D.1 140 ∧ (∀ j, j < i + 1 → D2.2.2.1 77 j = z (w j) ∧ D2.2.2.1 78 j = z (p j)) ∧ ∃ W : Int, D2.2.2.1 77 (i + 1) = z W ∧ ((k = 0 ∧ W = -1) ∨ (0 < k ∧ ∃ wv : Nat, W = wv ∧ wv ≤ 99 * (i + 1) ∧ ∃ pv : Nat, D2.2.2.1 78 (i + 1) = z pv ∧ pv ≤ i + 1 ∧ Pre v w p (i + 1) (k + 1) wv pv))) 10 2 (c + 1) ?_ ?_ 0 _ (setA D' 77 (upd (D'.2.2.1 77) (i + 1) (z (-1)))) (by omega) ⟨rfl, by omega, hf.sA rfl, h140, fun j hj => ?_, -1, ?_, Or.inl ⟨rfl, rfl⟩⟩ (by omega)
      · rintro k ls D2 c2 hc2 hk10 ⟨rfl, hki, hf2, h140b, hr2, W, e62, hW2⟩ hk2
        by_cases hout : i + 1 < k + 1
        · refine RunP.mono (c := c + 1) ?_ (by omega)
          refine RunP.go ?_
          show Wp (b_X13_cuts_2 _ _ _) _
          unfold b_X13_cuts_2
          simp (disch := omega) only [z_add, z_sub, z_mul, z_neg, ite_T, ite_F, zl_0, zl_1, zl_2, zl_3, zl_4, zl_5, zl_6, zl_7, zl_8, zl_9, zl_10, zl_11, zl_12, zl_13, zl_14, zl_15, zl_16, zl_17, zl_18, zl_19, zl_20, zl_21, zl_22, zl_23, zl_24, zl_25, zl_26, zl_27, zl_28, zl_29, zl_30, zl_31, zl_32, zl_33, zl_34, zl_35, zl_36, zl_37, zl_38, zl_39, zl_40, zl_41, zl_42, zl_43, zl_44, zl_45, zl_46, zl_47, zl_48, zl_49, zl_50, zl_51, zl_52, zl_53, zl_54, zl_55, zl_56, zl_57, zl_58, zl_59, zl_60, zl_61, zl_62, zl_63, zl_64, zl_97, zl_99, zl_100, zl_126, zl_255, zl_434, zl_496, zl_1000000, zl_100000, z_lt, z_le, z_eq, inB_z, z_div, Int.reduceToNat, Wp_some, Nx_l, Nx_r, cI_i, cV_v, cL_l, ite_t, ite_f, z_nn, toNat_c, bz_e0]
          rcases hW2 with ⟨e, -⟩ | ⟨h0, wv, rfl, hwv, pv, e63, hpv, hP⟩
          · omega
          · exact fin (k + 1) D2 wv pv hf2 h140b hr2 e62 e63 hP (Or.inr hout) c (by omega)
        · obtain ⟨r1, r2⟩ := hr2 (i - k) (by omega)
          obtain ⟨bd1, bd2⟩ := hbd (i - k) (by omega)
          have hpr := hW.2.2.2.1 (k + 1) (by omega) (by omega)
          have eI : ((i + 1 : Nat) : Int) - ((k + 1 : Nat) : Int) = ((i - k : Nat) : Int) := by omega
          have ek : i + 1 - (k + 1) = i - k := by omega
          have hM2 := hM.fm hf2
          have spr := hM2 (51 + (k + 1)) (by omega)
          have e52 : ((52 : Int) + ((k + 1 : Nat) : Int) - 1).toNat = 51 + (k + 1) := by omega
          have keep : ∀ wv : Nat, W = wv → wv ≤ 99 * (i + 1) → (∃ pv : Nat, D2.2.2.1 78 (i + 1) = z pv ∧ pv ≤ i + 1 ∧ Pre v w p (i + 1) (k + 1 + 1) wv pv) → RunP T_X13_cuts (c2 + 1) 2 [z ((i + 1 : Nat)), z ((k + 1 + 1 : Nat))] D2 (fun r => ∃ (D' : DD) (w p : Nat → Nat), r = (0, none, D') ∧ FM D D' ∧ D'.1 140 = D.1 140 ∧ CT v w p 30 ∧ ∀ j, j < 31 → D'.2.2.1 77 j = z (w j) ∧ D'.2.2.1 78 j = z (p j)) := by
            intro wv e hwv hP
            exact RunP.mono (hk2 _ _ ⟨rfl, by omega, hf2, h140b, hr2, W, e62, Or.inr ⟨by omega, wv, e, hwv, hP⟩⟩) (by omega)
          have take : Pre v w p (i + 1) (k + 1 + 1) (w (i + 1 - (k + 1)) + v (51 + (k + 1))) (p (i + 1 - (k + 1)) + 1) → RunP T_X13_cuts (c2 + 1) 3 [z ((i + 1 : Nat)), z ((k + 1 : Nat)), z ((v (51 + (k + 1)) : Int) + w (i - k)), z ((1 : Int) + p (i - k))] D2 (fun r => ∃ (D' : DD) (w p : Nat → Nat), r = (0, none, D') ∧ FM D D' ∧ D'.1 140 = D.1 140 ∧ CT v w p 30 ∧ ∀ j, j < 31 → D'.2.2.1 77 j = z (w j) ∧ D'.2.2.1 78 j = z (p j)) := by
            intro hP
            rw [ek] at hP
            refine RunP.go ?_
            show Wp (b_X13_cuts_3 _ _ _ _ _) _
            unfold b_X13_cuts_3
            simp (disch := omega) only [z_add, z_sub, z_mul, z_neg, ite_T, ite_F, zl_0, zl_1, zl_2, zl_3, zl_4, zl_5, zl_6, zl_7, zl_8, zl_9, zl_10, zl_11, zl_12, zl_13, zl_14, zl_15, zl_16, zl_17, zl_18, zl_19, zl_20, zl_21, zl_22, zl_23, zl_24, zl_25, zl_26, zl_27, zl_28, zl_29, zl_30, zl_31, zl_32, zl_33, zl_34, zl_35, zl_36, zl_37, zl_38, zl_39, zl_40, zl_41, zl_42, zl_43, zl_44, zl_45, zl_46, zl_47, zl_48, zl_49, zl_50, zl_51, zl_52, zl_53, zl_54, zl_55, zl_56, zl_57, zl_58, zl_59, zl_60, zl_61, zl_62, zl_63, zl_64, zl_97, zl_99, zl_100, zl_126, zl_255, zl_434, zl_496, zl_1000000, zl_100000, z_lt, z_le, z_eq, inB_z, z_div, Int.reduceToNat, Wp_some, Nx_l, Nx_r, cI_i, cV_v, cL_l, ite_t, ite_f, z_nn, toNat_c, bz_e0]
            refine hk2 _ _ ⟨rfl, by omega, (hf2.sA rfl).sA rfl, h140b, fun j hj => ?_, _, ?_, Or.inr ⟨by omega, w (i - k) + v (51 + (k + 1)), rfl, by omega, p (i - k) + 1, ?_, by omega, hP⟩⟩
            · rw [setA_ne _ _ (by decide), setA_same, setA_same, upd_ne _ _ (by omega), upd_ne _ _ (by omega)]
              exact hr2 j hj
            · rw [setA_ne _ _ (by decide), setA_same, upd_same]
              congr 1
              omega
            · rw [setA_same, upd_same]
              congr 1
              omega
          refine RunP.go ?_
          show Wp (b_X13_cuts_2 _ _ _) _
          unfold b_X13_cuts_2
          have hWr : -1 ≤ W ∧ W ≤ 3000 := by
            rcases hW2 with q | ⟨-, wv, q1, q2, -⟩ <;> omega
          simp (disch := omega) only [z_add, z_sub, z_mul, z_neg, ite_T, ite_F, zl_0, zl_1, zl_2, zl_3, zl_4, zl_5, zl_6, zl_7, zl_8, zl_9, zl_10, zl_11, zl_12, zl_13, zl_14, zl_15, zl_16, zl_17, zl_18, zl_19, zl_20, zl_21, zl_22, zl_23, zl_24, zl_25, zl_26, zl_27, zl_28, zl_29, zl_30, zl_31, zl_32, zl_33, zl_34, zl_35, zl_36, zl_37, zl_38, zl_39, zl_40, zl_41, zl_42, zl_43, zl_44, zl_45, zl_46, zl_47, zl_48, zl_49, zl_50, zl_51, zl_52, zl_53, zl_54, zl_55, zl_56, zl_57, zl_58, zl_59, zl_60, zl_61, zl_62, zl_63, zl_64, zl_97, zl_99, zl_100, zl_126, zl_255, zl_434, zl_496, zl_1000000, zl_100000, z_lt, z_le, z_eq, inB_z, z_div, Int.reduceToNat, Wp_some, Nx_l, Nx_r, cI_i, cV_v, cL_l, ite_t, ite_f, z_nn, toNat_c, bz_e0, eI, r1, r2, e62, spr, e52]
          split
          · rename_i h1
            rcases hW2 with ⟨q1, q2⟩ | ⟨h0, wv, rfl, hwv, pv, e63, hpv, hP⟩
            · omega
            · rw [Wp_some, Nx_l]
              exact keep wv rfl hwv ⟨pv, e63, hpv, hP.keep (Or.inl (by rw [ek]; omega))⟩
          · rename_i h1
            split
            · rename_i h2
              rcases hW2 with ⟨q1, q2⟩ | ⟨h0, wv, rfl, hwv, pv, e63, hpv, hP⟩
              · omega
              · simp (disch := omega) only [e63, z_add, z_sub, z_mul, z_neg, ite_T, ite_F, zl_0, zl_1, zl_2, zl_3, zl_4, zl_5, zl_6, zl_7, zl_8, zl_9, zl_10, zl_11, zl_12, zl_13, zl_14, zl_15, zl_16, zl_17, zl_18, zl_19, zl_20, zl_21, zl_22, zl_23, zl_24, zl_25, zl_26, zl_27, zl_28, zl_29, zl_30, zl_31, zl_32, zl_33, zl_34, zl_35, zl_36, zl_37, zl_38, zl_39, zl_40, zl_41, zl_42, zl_43, zl_44, zl_45, zl_46, zl_47, zl_48, zl_49, zl_50, zl_51, zl_52, zl_53, zl_54, zl_55, zl_56, zl_57, zl_58, zl_59, zl_60, zl_61, zl_62, zl_63, zl_64, zl_97, zl_99, zl_100, zl_126, zl_255, zl_434, zl_496, zl_1000000, zl_100000, z_lt, z_le, z_eq, inB_z, z_div]
                split
                · rename_i h3
                  rw [Wp_some, Nx_l]
                  exact take (hP.take (by omega) (by omega) (by omega) (Or.inr (by rw [ek]; omega)))
                · rename_i h3
                  rw [Wp_some, Nx_l]
                  exact keep wv rfl hwv ⟨pv, e63, hpv, hP.keep (Or.inr (by rw [ek]; omega))⟩
            · rename_i h2
              rw [Wp_some, Nx_l]
              refine take (Or.elim hW2 (fun q => ?_) (fun q => ?_))
              · have : k = 0 := q.1
                subst this
                exact Pre.first (by omega)
              · obtain ⟨h0, wv, e, hwv, pv, e63, hpv, hP⟩ := q
                exact hP.take (by omega) (by omega) (by omega) (Or.inl (by rw [ek]; omega))
      · rintro ls D2 ⟨rfl, hki, hf2, h140b, hr2, W, e62, hW2⟩
        refine RunP.go ?_
        show Wp (b_X13_cuts_2 _ _ _) _
        unfold b_X13_cuts_2
        simp (disch := omega) only [z_add, z_sub, z_mul, z_neg, ite_T, ite_F, zl_0, zl_1, zl_2, zl_3, zl_4, zl_5, zl_6, zl_7, zl_8, zl_9, zl_10, zl_11, zl_12, zl_13, zl_14, zl_15, zl_16, zl_17, zl_18, zl_19, zl_20, zl_21, zl_22, zl_23, zl_24, zl_25, zl_26, zl_27, zl_28, zl_29, zl_30, zl_31, zl_32, zl_33, zl_34, zl_35, zl_36, zl_37, zl_38, zl_39, zl_40, zl_41, zl_42, zl_43, zl_44, zl_45, zl_46, zl_47, zl_48, zl_49, zl_50, zl_51, zl_52, zl_53, zl_54, zl_55, zl_56, zl_57, zl_58, zl_59, zl_60, zl_61, zl_62, zl_63, zl_64, zl_97, zl_99, zl_100, zl_126, zl_255, zl_434, zl_496, zl_1000000, zl_100000, z_lt, z_le, z_eq, inB_z, z_div, Int.reduceToNat, Wp_some, Nx_l, Nx_r, cI_i, cV_v, cL_l, ite_t, ite_f, z_nn, toNat_c, bz_e0]
        rcases hW2 with ⟨e, -⟩ | ⟨h0, wv, rfl, hwv, pv, e63, hpv, hP⟩
        · omega
        · exact fin 11 D2 wv pv hf2 h140b hr2 e62 e63 hP (Or.inl (by omega)) c (Nat.le_refl _)
      · rw [setA_same, setA_ne _ _ (by decide), upd_ne _ _ (by omega)]
        exact hr j hj
      · rw [setA_same, upd_same]
    · rintro ls D' ⟨rfl, hf, h140, w, p, hT, hr⟩
      refine RunP.go ?_
      show Wp (b_X13_cuts_1 _ _) _
      unfold b_X13_cuts_1
      simp (disch := omega) only [z_add, z_sub, z_mul, z_neg, ite_T, ite_F, zl_0, zl_1, zl_2, zl_3, zl_4, zl_5, zl_6, zl_7, zl_8, zl_9, zl_10, zl_11, zl_12, zl_13, zl_14, zl_15, zl_16, zl_17, zl_18, zl_19, zl_20, zl_21, zl_22, zl_23, zl_24, zl_25, zl_26, zl_27, zl_28, zl_29, zl_30, zl_31, zl_32, zl_33, zl_34, zl_35, zl_36, zl_37, zl_38, zl_39, zl_40, zl_41, zl_42, zl_43, zl_44, zl_45, zl_46, zl_47, zl_48, zl_49, zl_50, zl_51, zl_52, zl_53, zl_54, zl_55, zl_56, zl_57, zl_58, zl_59, zl_60, zl_61, zl_62, zl_63, zl_64, zl_97, zl_99, zl_100, zl_126, zl_255, zl_434, zl_496, zl_1000000, zl_100000, z_lt, z_le, z_eq, inB_z, z_div, Int.reduceToNat, Wp_some, Nx_l, Nx_r, cI_i, cV_v, cL_l, ite_t, ite_f, z_nn, toNat_c, bz_e0]
      exact ⟨D', w, p, rfl, hf, h140, hT, fun j hj => hr j (by omega)⟩
    · have : j = 0 := by omega
      subst this
      have e0 : (z 0).toNatClampNeg = 0 := by decide
      rw [setA_ne _ _ (by decide), setA_same, setA_same, e0, upd_same, upd_same]
      exact ⟨rfl, rfl⟩
  obtain ⟨r, h1, D', w, p, rfl, h2⟩ := key
  exact ⟨D', w, p, h1, h2⟩
end LL
