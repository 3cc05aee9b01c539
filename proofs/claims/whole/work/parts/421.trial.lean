/-! pure: cuts by trial -/
def mxo (g : Nat → Nat) : Nat → Nat
  | 0 => 0
  | k + 1 => if mxo g k < g (k + 1) then g (k + 1) else mxo g k
theorem mxo_le {g : Nat → Nat} {B : Nat} : ∀ k, (∀ l, 1 ≤ l → l ≤ k → g l ≤ B) → mxo g k ≤ B
  | 0, _ => Nat.zero_le _
  | k + 1, h => by
    have h1 := mxo_le k (fun l a b => h l a (by omega))
    have h2 := h (k + 1) (by omega) (Nat.le_refl _)
    rw [mxo]
    split <;> omega
theorem mxo_ge {g : Nat → Nat} : ∀ k l, 1 ≤ l → l ≤ k → g l ≤ mxo g k
  | 0, l, h1, h2 => by omega
  | k + 1, l, h1, h2 => by
    rw [mxo]
    by_cases e : l = k + 1
    · subst e
      split <;> omega
    · have := mxo_ge (g := g) k l h1 (by omega)
      split <;> omega
theorem mxo_at {g : Nat → Nat} : ∀ k, mxo g k = 0 ∨ ∃ l, 1 ≤ l ∧ l ≤ k ∧ mxo g k = g l
  | 0 => Or.inl rfl
  | k + 1 => by
    rw [mxo]
    split
    · exact Or.inr ⟨k + 1, by omega, Nat.le_refl _, rfl⟩
    · rcases mxo_at (g := g) k with e | ⟨l, h1, h2, h3⟩
      · exact Or.inl e
      · exact Or.inr ⟨l, h1, by omega, h3⟩
theorem mxo_congr {g h : Nat → Nat} : ∀ k, (∀ l, 1 ≤ l → l ≤ k → g l = h l) → mxo g k = mxo h k
  | 0, _ => rfl
  | k + 1, e => by rw [mxo, mxo, mxo_congr k (fun l a b => e l a (by omega)), e (k + 1) (by omega) (Nat.le_refl _)]
theorem mxo_stop {g : Nat → Nat} : ∀ m k, k ≤ m → (∀ l, k < l → l ≤ m → g l = 0) → mxo g m = mxo g k
  | 0, k, h, _ => by
    have : k = 0 := by omega
    rw [this]
  | m + 1, k, h, e => by
    by_cases hk : k = m + 1
    · rw [hk]
    · rw [mxo, e (m + 1) (by omega) (Nat.le_refl _), if_neg (by omega)]
      exact mxo_stop m k (by omega) (fun l a b => e l a (by omega))
/-- the best of pieces that do not become longer -/
def tr (v : Nat → Nat) : Nat → Nat → Nat → Nat
  | 0, _, _ => 0
  | f + 1, n, m => mxo (fun l => if l ≤ n then v (51 + l) + tr v f (n - l) l else 0) m
theorem tr_fuel (v : Nat → Nat) : ∀ f f' n m, n ≤ f → n ≤ f' → tr v f n m = tr v f' n m
  | 0, 0, _, _, _, _ => rfl
  | 0, f' + 1, n, m, h, _ => by
    rw [tr, tr]
    have : mxo (fun l => if l ≤ n then v (51 + l) + tr v f' (n - l) l else 0) m ≤ 0 := mxo_le m (fun l a b => by
      show (if l ≤ n then _ else 0) ≤ 0
      rw [if_neg (by omega)]
      exact Nat.le_refl _)
    omega
  | f + 1, 0, n, m, _, h => by
    rw [tr, tr]
    have : mxo (fun l => if l ≤ n then v (51 + l) + tr v f (n - l) l else 0) m ≤ 0 := mxo_le m (fun l a b => by
      show (if l ≤ n then _ else 0) ≤ 0
      rw [if_neg (by omega)]
      exact Nat.le_refl _)
    omega
  | f + 1, f' + 1, n, m, h, h' => by
    rw [tr, tr]
    refine mxo_congr m (fun l a b => ?_)
    show (if l ≤ n then v (51 + l) + tr v f (n - l) l else 0) = (if l ≤ n then v (51 + l) + tr v f' (n - l) l else 0)
    by_cases hl : l ≤ n
    · rw [if_pos hl, if_pos hl, tr_fuel v f f' (n - l) l (by omega) (by omega)]
    · rw [if_neg hl, if_neg hl]
theorem tr_rec (v : Nat → Nat) {n : Nat} (hn : n ≤ 30) (m : Nat) : tr v 31 n m = mxo (fun l => if l ≤ n then v (51 + l) + tr v 31 (n - l) l else 0) m := by
  rw [tr]
  refine mxo_congr m (fun l a b => ?_)
  show (if l ≤ n then v (51 + l) + tr v 30 (n - l) l else 0) = (if l ≤ n then v (51 + l) + tr v 31 (n - l) l else 0)
  by_cases hl : l ≤ n
  · rw [if_pos hl, if_pos hl, tr_fuel v 30 31 (n - l) l (by omega) (by omega)]
  · rw [if_neg hl, if_neg hl]
theorem tr_ge (v : Nat → Nat) {n m l : Nat} (hn : n ≤ 30) (h1 : 1 ≤ l) (h2 : l ≤ m) (h3 : l ≤ n) : v (51 + l) + tr v 31 (n - l) l ≤ tr v 31 n m := by
  rw [tr_rec v hn m]
  have h : (if l ≤ n then v (51 + l) + tr v 31 (n - l) l else 0) ≤ _ := mxo_ge (g := fun l => if l ≤ n then v (51 + l) + tr v 31 (n - l) l else 0) m l h1 h2
  rw [if_pos h3] at h
  exact h
theorem tr_le_w {v w p : Nat → Nat} (h : CT v w p 30) : ∀ n, n ≤ 30 → ∀ m, m ≤ 10 → tr v 31 n m ≤ w n := by
  intro n
  induction n using Nat.strongRecOn with
  | _ n ih =>
    intro hn m hm
    rw [tr_rec v hn m]
    refine mxo_le m (fun l a b => ?_)
    show (if l ≤ n then v (51 + l) + tr v 31 (n - l) l else 0) ≤ w n
    by_cases hl : l ≤ n
    · rw [if_pos hl]
      have h1 := ih (n - l) (by omega) (by omega) l (by omega)
      have h2 := (h.2.2 n (by omega) hn).2 l a (by omega) hl
      omega
    · rw [if_neg hl]
      exact Nat.zero_le _
theorem tr_ex (v : Nat → Nat) : ∀ n, n ≤ 30 → ∀ l m, 1 ≤ l → l ≤ m → l ≤ n → v (51 + l) + tr v 31 (n - l) m ≤ tr v 31 n m := by
  intro n
  induction n using Nat.strongRecOn with
  | _ n ih =>
    intro hn l m h1 h2 h3
    have g1 := tr_ge v hn h1 h2 h3
    have e := tr_rec v (n := n - l) (by omega) m
    rcases mxo_at (g := fun k => if k ≤ n - l then v (51 + k) + tr v 31 (n - l - k) k else 0) m with q | ⟨k, k1, k2, k3⟩
    · omega
    · have k4 : _ = (if k ≤ n - l then v (51 + k) + tr v 31 (n - l - k) k else 0) := k3
      by_cases hk : k ≤ n - l
      · rw [if_pos hk] at k4
        by_cases hkl : k ≤ l
        · have g2 := tr_ge v (n := n - l) (m := l) (by omega) k1 hkl hk
          omega
        · have g3 := ih (n - k) (by omega) (by omega) l k h1 (by omega) (by omega)
          have g4 := tr_ge v hn k1 k2 (show k ≤ n by omega)
          rw [show n - k - l = n - l - k by omega] at g3
          omega
      · rw [if_neg hk] at k4
        omega
theorem w_le_tr {v w p : Nat → Nat} (h : CT v w p 30) : ∀ n, n ≤ 30 → w n ≤ tr v 31 n 10 := by
  intro n
  induction n using Nat.strongRecOn with
  | _ n ih =>
    intro hn
    by_cases h0 : n = 0
    · rw [h0, h.1]
      exact Nat.zero_le _
    · obtain ⟨⟨l, a1, a2, a3, a4, -⟩, -⟩ := h.2.2 n (by omega) hn
      have g1 := ih (n - l) (by omega) (by omega)
      have g2 := tr_ex v n hn l 10 a1 a2 a3
      omega
theorem max_z2 {a b : Nat} (ha : a ≤ 1000000) (hb : b ≤ 1000000) : (if (z a : Int32) < z b then (z b : Int32) else z a) = z ((if a < b then b else a : Nat)) := by
  by_cases h : a < b
  · rw [if_pos (by rw [z_lt (by omega) (by omega) (by omega) (by omega)]; omega), if_pos h]
  · rw [if_neg (by rw [z_lt (by omega) (by omega) (by omega) (by omega)]; omega), if_neg h]
section LL
variable {D : DD} {v : Nat → Nat}
theorem s_tryPieces (hC : CS D v) (hW : WF v) {w p : Nat → Nat} (hT : CT v w p 30) : ∀ d dep n m, d + dep = 40 → dep + n ≤ 30 → m ≤ 10 → S_X5_tryPieces d (z (n : Nat)) (z (m : Nat)) (z (dep : Nat)) D = some (0, some (.int (z (tr v 31 n m))), D) := by
  intro d
  induction d with
  | zero =>
    intro dep n m h1 h2
    omega
  | succ d ih =>
    intro dep n m h1 h2 hm
    have hbd : ∀ a k, a ≤ 30 → k ≤ 10 → tr v 31 a k ≤ 2970 := fun a k ha hk => by
      have := tr_le_w hT a ha k hk
      have := (hT.bound hW a ha).1
      omega
    show run (T_X5_tryPieces (S_X5_tryPieces d)) FUEL 0 [z (n : Nat), z (m : Nat), z (dep : Nat)] D = _
    refine RunP.eqn (c := 100) ?_ (by decide)
    refine RunP.go ?_
    show Wp (b_X5_tryPieces_0 (S_X5_tryPieces d) _ _ _ _) _
    unfold b_X5_tryPieces_0
    simp (disch := omega) only [z_add, z_sub, z_mul, z_neg, ite_T, ite_F, zl_0, zl_1, zl_2, zl_3, zl_4, zl_5, zl_6, zl_7, zl_8, zl_9, zl_10, zl_11, zl_12, zl_13, zl_14, zl_15, zl_16, zl_17, zl_18, zl_19, zl_20, zl_21, zl_22, zl_23, zl_24, zl_25, zl_26, zl_27, zl_28, zl_29, zl_30, zl_31, zl_32, zl_33, zl_34, zl_35, zl_36, zl_37, zl_38, zl_39, zl_40, zl_41, zl_42, zl_43, zl_44, zl_45, zl_46, zl_47, zl_48, zl_49, zl_50, zl_51, zl_52, zl_53, zl_54, zl_55, zl_56, zl_57, zl_58, zl_59, zl_60, zl_61, zl_62, zl_63, zl_64, zl_97, zl_99, zl_100, zl_126, zl_255, zl_434, zl_496, zl_1000000, zl_100000, z_lt, z_le, z_eq, inB_z, z_div, Int.reduceToNat, Wp_some, Nx_l, Nx_r, cI_i, cV_v, cL_l, ite_t, ite_f, z_nn, toNat_c, bz_e0]
    have hrec := tr_rec v (n := n) (by omega) m
    refine RunP.loop (fun k ls D' => D' = D ∧ ls = [z (n : Nat), z (m : Nat), z (dep : Nat), z ((mxo (fun l => if l ≤ n then v (51 + l) + tr v 31 (n - l) l else 0) k : Nat)), z ((k + 1 : Nat))]) m 1 1 ?_ ?_ 0 _ _ (by omega) ⟨rfl, rfl⟩ (by omega)
    · rintro k ls D' c hk ⟨rfl, rfl⟩ hkk
      have hmx : mxo (fun l => if l ≤ n then v (51 + l) + tr v 31 (n - l) l else 0) k ≤ 3100 := mxo_le k (fun l a b => by
        show (if l ≤ n then v (51 + l) + tr v 31 (n - l) l else 0) ≤ 3100
        split
        · have := hbd (n - l) l (by omega) (by omega)
          have := hW.2.2.2.1 l a (by omega)
          omega
        · omega)
      by_cases hkn : n < k + 1
      · refine RunP.go ?_
        show Wp (b_X5_tryPieces_1 (S_X5_tryPieces d) _ _ _ _ _ _) _
        unfold b_X5_tryPieces_1
        simp (disch := omega) only [z_add, z_sub, z_mul, z_neg, ite_T, ite_F, zl_0, zl_1, zl_2, zl_3, zl_4, zl_5, zl_6, zl_7, zl_8, zl_9, zl_10, zl_11, zl_12, zl_13, zl_14, zl_15, zl_16, zl_17, zl_18, zl_19, zl_20, zl_21, zl_22, zl_23, zl_24, zl_25, zl_26, zl_27, zl_28, zl_29, zl_30, zl_31, zl_32, zl_33, zl_34, zl_35, zl_36, zl_37, zl_38, zl_39, zl_40, zl_41, zl_42, zl_43, zl_44, zl_45, zl_46, zl_47, zl_48, zl_49, zl_50, zl_51, zl_52, zl_53, zl_54, zl_55, zl_56, zl_57, zl_58, zl_59, zl_60, zl_61, zl_62, zl_63, zl_64, zl_97, zl_99, zl_100, zl_126, zl_255, zl_434, zl_496, zl_1000000, zl_100000, z_lt, z_le, z_eq, inB_z, z_div, Int.reduceToNat, Wp_some, Nx_l, Nx_r, cI_i, cV_v, cL_l, ite_t, ite_f, z_nn, toNat_c, bz_e0]
        rw [hrec, mxo_stop m k (by omega) (fun l a b => if_neg (by omega))]
      · have hpr := hW.2.2.2.1 (k + 1) (by omega) (by omega)
        have hrc := hbd (n - (k + 1)) (k + 1) (by omega) (by omega)
        have hih := ih (dep + 1) (n - (k + 1)) (k + 1) (by omega) (by omega) (by omega)
        have spr := s_priceAt hC (a := k + 1) (by omega) (by omega)
        refine RunP.go ?_
        show Wp (b_X5_tryPieces_1 (S_X5_tryPieces d) _ _ _ _ _ _) _
        unfold b_X5_tryPieces_1
        rw [if_neg (by rw [z_lt (by omega) (by omega) (by omega) (by omega)]; omega), if_neg (by rw [z_lt (by omega) (by omega) (by omega) (by omega)]; omega), spr, cI_i, z_sub, zl_1, z_add, show (n : Int) - ((k + 1 : Nat) : Int) = ((n - (k + 1) : Nat) : Int) by omega, show (dep : Int) + 1 = ((dep + 1 : Nat) : Int) by omega, hih, cI_i, z_add, z_add, show (v (51 + (k + 1)) : Int) + (tr v 31 (n - (k + 1)) (k + 1) : Nat) = ((v (51 + (k + 1)) + tr v 31 (n - (k + 1)) (k + 1) : Nat) : Int) by omega, max_z2 (by omega) (by omega), Wp_some, Nx_l]
        refine hkk _ _ ⟨rfl, ?_⟩
        rw [mxo, if_pos (show k + 1 ≤ n by omega)]
        rfl
    · rintro ls D' ⟨rfl, rfl⟩
      refine RunP.go ?_
      show Wp (b_X5_tryPieces_1 (S_X5_tryPieces d) _ _ _ _ _ _) _
      unfold b_X5_tryPieces_1
      rw [if_pos (by rw [z_lt (by omega) (by omega) (by omega) (by omega)]; omega), Wp_some, Nx_r, hrec]
theorem s_coinsByTrial (hC : CS D v) (hW : WF v) {w p : Nat → Nat} (hT : CT v w p 30) {n : Nat} (hn : n ≤ 30) : S_X5_coinsByTrial (z n) D = some (0, some (.int (z (w n))), D) := by
  have h := s_tryPieces hC hW hT 40 0 n 10 rfl (by omega) (by omega)
  have e : tr v 31 n 10 = w n := Nat.le_antisymm (tr_le_w hT n hn 10 (by omega)) (w_le_tr hT n hn)
  rw [e] at h
  unfold S_X5_coinsByTrial
  rw [zl_10, zl_0, show (z (10 : Int)) = z ((10 : Nat) : Int) from rfl, show (z (0 : Int)) = z ((0 : Nat) : Int) from rfl, h, cI_i]
theorem s_coinsByTable (hC : CS D v) (hW : WF v) {n : Nat} (hn : n ≤ 30) : ∃ (D' : DD) (w p : Nat → Nat), S_X5_coinsByTable (z n) D = some (0, some (.int (z (w n))), D') ∧ FC D D' ∧ CT v w p 30 := by
  obtain ⟨D', w, p, h1, h2, h3, h4⟩ := s_fillTable hC hW
  obtain ⟨e1, e2⟩ := h4 n (by omega)
  refine ⟨D', w, p, ?_, h2, h3⟩
  unfold S_X5_coinsByTable
  rw [h1, cV_v]
  simp (disch := omega) only [z_add, z_sub, z_mul, z_neg, ite_T, ite_F, zl_0, zl_1, zl_2, zl_3, zl_4, zl_5, zl_6, zl_7, zl_8, zl_9, zl_10, zl_11, zl_12, zl_13, zl_14, zl_15, zl_16, zl_17, zl_18, zl_19, zl_20, zl_21, zl_22, zl_23, zl_24, zl_25, zl_26, zl_27, zl_28, zl_29, zl_30, zl_31, zl_32, zl_33, zl_34, zl_35, zl_36, zl_37, zl_38, zl_39, zl_40, zl_41, zl_42, zl_43, zl_44, zl_45, zl_46, zl_47, zl_48, zl_49, zl_50, zl_51, zl_52, zl_53, zl_54, zl_55, zl_56, zl_57, zl_58, zl_59, zl_60, zl_61, zl_62, zl_63, zl_64, zl_97, zl_99, zl_100, zl_126, zl_255, zl_434, zl_496, zl_1000000, zl_100000, z_lt, z_le, z_eq, inB_z, z_div, s_inRange, cI_i, bz_e0]
  rw [if_neg (by omega)]
  simp (disch := omega) only [z_add, z_sub, z_mul, z_neg, ite_T, ite_F, zl_0, zl_1, zl_2, zl_3, zl_4, zl_5, zl_6, zl_7, zl_8, zl_9, zl_10, zl_11, zl_12, zl_13, zl_14, zl_15, zl_16, zl_17, zl_18, zl_19, zl_20, zl_21, zl_22, zl_23, zl_24, zl_25, zl_26, zl_27, zl_28, zl_29, zl_30, zl_31, zl_32, zl_33, zl_34, zl_35, zl_36, zl_37, zl_38, zl_39, zl_40, zl_41, zl_42, zl_43, zl_44, zl_45, zl_46, zl_47, zl_48, zl_49, zl_50, zl_51, zl_52, zl_53, zl_54, zl_55, zl_56, zl_57, zl_58, zl_59, zl_60, zl_61, zl_62, zl_63, zl_64, zl_97, zl_99, zl_100, zl_126, zl_255, zl_434, zl_496, zl_1000000, zl_100000, z_lt, z_le, z_eq, inB_z, z_div, Int.reduceToNat, Wp_some, Nx_l, Nx_r, cI_i, cV_v, cL_l, ite_t, ite_f, z_nn, toNat_c, bz_e0, e1]
theorem s_piecesByTable (hC : CS D v) (hW : WF v) {n : Nat} (hn : n ≤ 30) : ∃ (D' : DD) (w p : Nat → Nat), S_X5_piecesByTable (z n) D = some (0, some (.int (z (p n))), D') ∧ FC D D' ∧ CT v w p 30 := by
  obtain ⟨D', w, p, h1, h2, h3, h4⟩ := s_fillTable hC hW
  obtain ⟨e1, e2⟩ := h4 n (by omega)
  refine ⟨D', w, p, ?_, h2, h3⟩
  unfold S_X5_piecesByTable
  rw [h1, cV_v]
  simp (disch := omega) only [z_add, z_sub, z_mul, z_neg, ite_T, ite_F, zl_0, zl_1, zl_2, zl_3, zl_4, zl_5, zl_6, zl_7, zl_8, zl_9, zl_10, zl_11, zl_12, zl_13, zl_14, zl_15, zl_16, zl_17, zl_18, zl_19, zl_20, zl_21, zl_22, zl_23, zl_24, zl_25, zl_26, zl_27, zl_28, zl_29, zl_30, zl_31, zl_32, zl_33, zl_34, zl_35, zl_36, zl_37, zl_38, zl_39, zl_40, zl_41, zl_42, zl_43, zl_44, zl_45, zl_46, zl_47, zl_48, zl_49, zl_50, zl_51, zl_52, zl_53, zl_54, zl_55, zl_56, zl_57, zl_58, zl_59, zl_60, zl_61, zl_62, zl_63, zl_64, zl_97, zl_99, zl_100, zl_126, zl_255, zl_434, zl_496, zl_1000000, zl_100000, z_lt, z_le, z_eq, inB_z, z_div, s_inRange, cI_i, bz_e0]
  rw [if_neg (by omega)]
  simp (disch := omega) only [z_add, z_sub, z_mul, z_neg, ite_T, ite_F, zl_0, zl_1, zl_2, zl_3, zl_4, zl_5, zl_6, zl_7, zl_8, zl_9, zl_10, zl_11, zl_12, zl_13, zl_14, zl_15, zl_16, zl_17, zl_18, zl_19, zl_20, zl_21, zl_22, zl_23, zl_24, zl_25, zl_26, zl_27, zl_28, zl_29, zl_30, zl_31, zl_32, zl_33, zl_34, zl_35, zl_36, zl_37, zl_38, zl_39, zl_40, zl_41, zl_42, zl_43, zl_44, zl_45, zl_46, zl_47, zl_48, zl_49, zl_50, zl_51, zl_52, zl_53, zl_54, zl_55, zl_56, zl_57, zl_58, zl_59, zl_60, zl_61, zl_62, zl_63, zl_64, zl_97, zl_99, zl_100, zl_126, zl_255, zl_434, zl_496, zl_1000000, zl_100000, z_lt, z_le, z_eq, inB_z, z_div, Int.reduceToNat, Wp_some, Nx_l, Nx_r, cI_i, cV_v, cL_l, ite_t, ite_f, z_nn, toNat_c, bz_e0, e2]
theorem s_cutsAgree (hC : CS D v) (hW : WF v) : ∃ D', S_X12_cutsAgree D = some (0, some (.int (z 1)), D') ∧ FC D D' := by
  have key : ∃ r, run T_X12_cutsAgree FUEL 0 [] D = some r ∧ ∃ D', r = (0, some (.int (z 1)), D') ∧ FC D D' := by
    refine RunP.fin (c := 100) ?_ (by decide)
    refine RunP.go ?_
    show Wp (b_X12_cutsAgree_0 _) _
    unfold b_X12_cutsAgree_0
    simp only [Int.reduceToNat, Wp_some, Nx_l, Nx_r, cI_i, cV_v, cL_l, ite_t, ite_f, z_nn, toNat_c, bz_e0, z_add, z_sub, z_mul, z_neg, ite_T, ite_F, zl_0, zl_1, zl_2, zl_3, zl_4, zl_5, zl_6, zl_7, zl_8, zl_9, zl_10, zl_11, zl_12, zl_13, zl_14, zl_15, zl_16, zl_17, zl_18, zl_19, zl_20, zl_21, zl_22, zl_23, zl_24, zl_25, zl_26, zl_27, zl_28, zl_29, zl_30, zl_31, zl_32, zl_33, zl_34, zl_35, zl_36, zl_37, zl_38, zl_39, zl_40, zl_41, zl_42, zl_43, zl_44, zl_45, zl_46, zl_47, zl_48, zl_49, zl_50, zl_51, zl_52, zl_53, zl_54, zl_55, zl_56, zl_57, zl_58, zl_59, zl_60, zl_61, zl_62, zl_63, zl_64, zl_97, zl_99, zl_100, zl_126, zl_255, zl_434, zl_496, zl_1000000, zl_100000]
    refine RunP.loop (fun i ls D' => ls = [z ((i + 1 : Nat))] ∧ FC D D') 12 1 1 ?_ ?_ 0 _ _ (by omega) ⟨rfl, FC.rfl⟩ (by omega)
    · rintro i ls D' c hi ⟨rfl, hf⟩ hk
      have hC' := hC.fc hf
      obtain ⟨D2, w, p, h1, h2, h3⟩ := s_coinsByTable hC' hW (n := i + 1) (by omega)
      refine RunP.go ?_
      show Wp (b_X12_cutsAgree_1 _ _) _
      unfold b_X12_cutsAgree_1
      rw [zl_12, if_neg (by rw [z_lt (by omega) (by omega) (by omega) (by omega)]; omega), s_coinsByTrial hC' hW h3 (by omega), cI_i, h1, cI_i, if_pos rfl, zl_1, z_add, Wp_some, Nx_l]
      exact hk _ _ ⟨rfl, hf.trans h2⟩
    · rintro ls D' ⟨rfl, hf⟩
      refine RunP.go ?_
      show Wp (b_X12_cutsAgree_1 _ _) _
      unfold b_X12_cutsAgree_1
      simp (disch := omega) only [z_add, z_sub, z_mul, z_neg, ite_T, ite_F, zl_0, zl_1, zl_2, zl_3, zl_4, zl_5, zl_6, zl_7, zl_8, zl_9, zl_10, zl_11, zl_12, zl_13, zl_14, zl_15, zl_16, zl_17, zl_18, zl_19, zl_20, zl_21, zl_22, zl_23, zl_24, zl_25, zl_26, zl_27, zl_28, zl_29, zl_30, zl_31, zl_32, zl_33, zl_34, zl_35, zl_36, zl_37, zl_38, zl_39, zl_40, zl_41, zl_42, zl_43, zl_44, zl_45, zl_46, zl_47, zl_48, zl_49, zl_50, zl_51, zl_52, zl_53, zl_54, zl_55, zl_56, zl_57, zl_58, zl_59, zl_60, zl_61, zl_62, zl_63, zl_64, zl_97, zl_99, zl_100, zl_126, zl_255, zl_434, zl_496, zl_1000000, zl_100000, z_lt, z_le, z_eq, inB_z, z_div, Int.reduceToNat, Wp_some, Nx_l, Nx_r, cI_i, cV_v, cL_l, ite_t, ite_f, z_nn, toNat_c, bz_e0]
      exact ⟨D', rfl, hf⟩
  obtain ⟨r, h1, D', rfl, h2⟩ := key
  exact ⟨D', h1, h2⟩
end LL
