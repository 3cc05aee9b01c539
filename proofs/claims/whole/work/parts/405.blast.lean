/-! pure: chains and blasts, the quarry's side -/
def zb (b : Bool) : Int := if b = true then 1 else 0
theorem zb_t : zb true = 1 := rfl
theorem zb_f : zb false = 0 := rfl
theorem zb_0 (b : Bool) : (z (zb b) = z 0) = (b = false) := by cases b <;> decide
theorem zb_lo (b : Bool) : 0 ≤ zb b := by cases b <;> decide
theorem zb_hi (b : Bool) : zb b ≤ 1 := by cases b <;> decide
def ub (p : Nat → Bool) (a : Nat) : Nat → Bool := fun j => p j || decide (j = a)
theorem ub_self (p : Nat → Bool) (a : Nat) : ub p a a = true := by unfold ub; simp
theorem ub_ne (p : Nat → Bool) {a j : Nat} (h : j ≠ a) : ub p a j = p j := by unfold ub; simp [h]
theorem ub_same {p : Nat → Bool} {a : Nat} (h : p a = true) : ub p a = p := by
  funext j
  unfold ub
  by_cases e : j = a
  · subst e
    simp [h]
  · simp [e]
theorem cnt_congr {p q : Nat → Bool} : ∀ n, (∀ j, j < n → p j = q j) → cnt p n = cnt q n
  | 0, _ => rfl
  | n + 1, h => by rw [cnt, cnt, cnt_congr n (fun j hj => h j (by omega)), h n (by omega)]
theorem cnt_ub {p : Nat → Bool} {a : Nat} : ∀ {n}, a < n → p a = false → cnt (ub p a) n = cnt p n + 1
  | 0, h, _ => by omega
  | n + 1, h, hp => by
    rw [cnt, cnt]
    by_cases e : n = a
    · subst e
      rw [ub_self, hp, cnt_congr n (q := p) (fun j hj => ub_ne p (by omega))]
      simp
    · rw [ub_ne p e, cnt_ub (by omega) hp]
      omega
theorem cnt_lt {p : Nat → Bool} {a n : Nat} (h : a < n) (hp : p a = false) : cnt p n < n := by
  have h1 := cnt_ub h hp
  have h2 := cnt_le (ub p a) n
  omega
theorem cnt_mono {p q : Nat → Bool} : ∀ n, (∀ j, j < n → p j = true → q j = true) → cnt p n ≤ cnt q n
  | 0, _ => Nat.le_refl _
  | n + 1, h => by
    rw [cnt, cnt]
    have h1 := cnt_mono n (fun j hj => h j (by omega))
    have h2 := h n (by omega)
    by_cases e : p n = true
    · rw [if_pos e, if_pos (h2 e)]
      omega
    · rw [if_neg e]
      omega
theorem cnt_eq_of {p q : Nat → Bool} : ∀ n, (∀ j, j < n → p j = true → q j = true) → cnt p n = cnt q n → ∀ j, j < n → p j = q j
  | 0, _, _ => fun j h => by omega
  | n + 1, h, e => by
    rw [cnt, cnt] at e
    have h1 := cnt_mono n (fun j hj => h j (by omega))
    have h2 := h n (by omega)
    have h3 : cnt p n = cnt q n ∧ p n = q n := by
      cases hp : p n <;> cases hq : q n <;> simp [hp, hq] at e h2 ⊢ <;> omega
    intro j hj
    by_cases e' : j = n
    · rw [e']
      exact h3.2
    · exact cnt_eq_of n (fun j hj => h j (by omega)) h3.1 j (by omega)
theorem dist_comm (a b : Nat) : dist a b = dist b a := by unfold dist; omega
theorem dist_le {a b : Nat} (ha : a < 36) (hb : b < 36) : dist a b ≤ 10 := by unfold dist; omega
/-- whether the blast of a charge by itself breaks a cell -/
def opB (v : Nat → Nat) (n c : Nat) : Bool := decide (0 < v (4 + c) ∧ v (4 + c) + dist c (v (40 + 2 * n)) ≤ v (41 + 2 * n))
/-- the charges that one sets off: in every set that holds it and is closed -/
def Ch (v : Nat → Nat) (n o : Nat) : Prop := ∀ S : Nat → Prop, S n → (∀ a b, a < v 3 → b < v 3 → S a → opB v a (v (40 + 2 * b)) = true → S b) → S o
theorem Ch.self {v : Nat → Nat} {n : Nat} : Ch v n n := fun _ h _ => h
theorem Ch.next {v : Nat → Nat} {n a b : Nat} (ha : a < v 3) (hb : b < v 3) (h : Ch v n a) (ho : opB v a (v (40 + 2 * b)) = true) : Ch v n b := fun S h1 h2 => h2 a b ha hb (h S h1 h2) ho
/-- rows and numbers of a blast: which exploded, which cells opened, in which order -/
def BI (D : DD) (E O : Nat → Bool) (ord : Nat → Nat) : Prop := (∀ j, j < 6 → D.2.2.1 52 j = z (zb (E j))) ∧ (∀ c, c < 36 → D.2.2.1 53 c = z (zb (O c))) ∧ D.1 126 = z (cnt E 6) ∧ D.1 127 = z (cnt O 36) ∧ (∀ j, j < cnt E 6 → D.2.2.1 54 j = z (ord j) ∧ ord j < 6 ∧ E (ord j) = true) ∧ ∀ b, b < 6 → E b = true → ∃ j, j < cnt E 6 ∧ ord j = b
section LL
variable {D : DD} {v : Nat → Nat} {E O : Nat → Bool} {ord : Nat → Nat}
theorem s_reset (D : DD) : ∃ D', S_X1_reset D = some (0, none, D') ∧ FC D D' ∧ BI D' (fun _ => false) (fun _ => false) (fun _ => 0) := by
  obtain ⟨g, h1, h2⟩ := X12_clear_blast_exploded_ok D
  obtain ⟨g2, h3, h4⟩ := X12_clear_blast_opened_ok (setA D 52 g)
  refine ⟨_, by unfold S_X1_reset; rw [h1, cV_v, h3, cV_v], (((FC.rfl.sA rfl).sA rfl).sI rfl).sI rfl, fun j hj => ?_, fun c hc => ?_, ?_, ?_, fun j hj => ?_, fun b _ h => by cases h⟩
  · show g j = z 0
    exact h2 j hj
  · show g2 c = z 0
    exact h4 c hc
  · show (0 : Int32) = z 0
    decide
  · show (0 : Int32) = z 0
    decide
  · have e : cnt (fun _ => false) 6 = 0 := by decide
    omega
theorem s_setOff (hB : BI D E O ord) {a : Nat} (ha : a < 6) : ∃ D' ord', S_X1_setOff (z a) D = some (0, none, D') ∧ FC D D' ∧ BI D' (ub E a) O ord' ∧ (∀ j, j < cnt E 6 → ord' j = ord j) := by
  obtain ⟨b1, b2, b3, b4, b5, b6⟩ := hB
  have hle := cnt_le E 6
  cases hE : E a with
  | true =>
    refine ⟨D, ord, ?_, FC.rfl, by rw [ub_same hE]; exact ⟨b1, b2, b3, b4, b5, b6⟩, fun _ _ => rfl⟩
    unfold S_X1_setOff
    simp (disch := omega) only [z_add, z_sub, z_mul, z_neg, ite_T, ite_F, zl_0, zl_1, zl_2, zl_3, zl_4, zl_5, zl_6, zl_7, zl_8, zl_9, zl_10, zl_11, zl_12, zl_13, zl_14, zl_15, zl_16, zl_17, zl_18, zl_19, zl_20, zl_21, zl_22, zl_23, zl_24, zl_25, zl_26, zl_27, zl_28, zl_29, zl_30, zl_31, zl_32, zl_33, zl_34, zl_35, zl_36, zl_37, zl_38, zl_39, zl_40, zl_41, zl_42, zl_43, zl_44, zl_45, zl_46, zl_47, zl_48, zl_49, zl_50, zl_51, zl_52, zl_53, zl_54, zl_55, zl_56, zl_57, zl_58, zl_59, zl_60, zl_61, zl_62, zl_63, zl_64, zl_97, zl_99, zl_100, zl_126, zl_255, zl_434, zl_496, zl_1000000, zl_100000, z_lt, z_le, z_eq, inB_z, z_div, Int.reduceToNat, Wp_some, Nx_l, Nx_r, cI_i, cV_v, cL_l, ite_t, ite_f, z_nn, toNat_c, bz_e0, s_inRange, b1 a ha, hE, zb_0]
    rfl
  | false =>
    have hlt := cnt_lt ha hE
    refine ⟨setI (setA (setA D 52 (upd (D.2.2.1 52) a (vp_nar .boolean (z 1)))) 54 (upd (D.2.2.1 54) (cnt E 6) (z a))) 126 (z ((cnt E 6 : Int) + 1)), fun j => if j = cnt E 6 then a else ord j, ?_, ((FC.rfl.sA (k := 52) rfl).sA (k := 54) rfl).sI (k := 126) rfl, ?_, fun j hj => if_neg (by omega)⟩
    · unfold S_X1_setOff
      simp (disch := omega) only [z_add, z_sub, z_mul, z_neg, ite_T, ite_F, zl_0, zl_1, zl_2, zl_3, zl_4, zl_5, zl_6, zl_7, zl_8, zl_9, zl_10, zl_11, zl_12, zl_13, zl_14, zl_15, zl_16, zl_17, zl_18, zl_19, zl_20, zl_21, zl_22, zl_23, zl_24, zl_25, zl_26, zl_27, zl_28, zl_29, zl_30, zl_31, zl_32, zl_33, zl_34, zl_35, zl_36, zl_37, zl_38, zl_39, zl_40, zl_41, zl_42, zl_43, zl_44, zl_45, zl_46, zl_47, zl_48, zl_49, zl_50, zl_51, zl_52, zl_53, zl_54, zl_55, zl_56, zl_57, zl_58, zl_59, zl_60, zl_61, zl_62, zl_63, zl_64, zl_97, zl_99, zl_100, zl_126, zl_255, zl_434, zl_496, zl_1000000, zl_100000, z_lt, z_le, z_eq, inB_z, z_div, Int.reduceToNat, Wp_some, Nx_l, Nx_r, cI_i, cV_v, cL_l, ite_t, ite_f, z_nn, toNat_c, bz_e0, s_inRange, b1 a ha, hE, zb_0, b3]
    · have hc := cnt_ub ha hE
      refine ⟨fun j hj => ?_, fun c hc => b2 c hc, ?_, b4, fun j hj => ?_, fun b hb h => ?_⟩
      · show upd (D.2.2.1 52) a (vp_nar .boolean (z 1)) j = _
        by_cases e : j = a
        · subst e
          rw [upd_same, ub_self, na_1]
          rfl
        · rw [upd_ne _ _ e, ub_ne _ e]
          exact b1 j hj
      · show z ((cnt E 6 : Int) + 1) = z ((cnt (ub E a) 6 : Nat))
        rw [hc]
        rfl
      · show upd (D.2.2.1 54) (cnt E 6) (z a) j = z ((if j = cnt E 6 then a else ord j : Nat)) ∧ (if j = cnt E 6 then a else ord j) < 6 ∧ ub E a (if j = cnt E 6 then a else ord j) = true
        rw [hc] at hj
        by_cases e : j = cnt E 6
        · rw [e, upd_same, if_pos rfl]
          exact ⟨rfl, ha, ub_self _ _⟩
        · rw [upd_ne _ _ e, if_neg e]
          obtain ⟨q1, q2, q3⟩ := b5 j (by omega)
          exact ⟨q1, q2, by unfold ub; rw [q3]; rfl⟩
      · rw [hc]
        by_cases e : b = a
        · exact ⟨cnt E 6, by omega, by show (if cnt E 6 = cnt E 6 then a else ord _) = b; rw [if_pos rfl, e]⟩
        · rw [ub_ne _ e] at h
          obtain ⟨j, q1, q2⟩ := b6 b hb h
          exact ⟨j, by omega, by show (if j = cnt E 6 then a else ord j) = b; rw [if_neg (by omega)]; exact q2⟩
theorem s_openAround (hC : CS D v) (hW : WF v) (hB : BI D E O ord) {a : Nat} (ha : a < v 3) : ∃ D', S_X1_openAround (z a) D = some (0, none, D') ∧ FC D D' ∧ BI D' E (fun c => O c || opB v a c) ord := by
  have h6 := hW.2.1
  obtain ⟨p1, p2, p3⟩ := hW.2.2.1 a ha
  have key : ∃ r, run T_X1_openAround FUEL 0 [z a] D = some r ∧ ∃ D', r = (0, none, D') ∧ FC D D' ∧ BI D' E (fun c => O c || opB v a c) ord := by
    refine RunP.fin (c := 100) ?_ (by decide)
    refine RunP.go ?_
    show Wp (b_X1_openAround_0 _ _) _
    unfold b_X1_openAround_0
    simp only [Int.reduceToNat, Wp_some, Nx_l, Nx_r, cI_i, cV_v, cL_l, ite_t, ite_f, z_nn, toNat_c, bz_e0, z_add, z_sub, z_mul, z_neg, ite_T, ite_F, zl_0, zl_1, zl_2, zl_3, zl_4, zl_5, zl_6, zl_7, zl_8, zl_9, zl_10, zl_11, zl_12, zl_13, zl_14, zl_15, zl_16, zl_17, zl_18, zl_19, zl_20, zl_21, zl_22, zl_23, zl_24, zl_25, zl_26, zl_27, zl_28, zl_29, zl_30, zl_31, zl_32, zl_33, zl_34, zl_35, zl_36, zl_37, zl_38, zl_39, zl_40, zl_41, zl_42, zl_43, zl_44, zl_45, zl_46, zl_47, zl_48, zl_49, zl_50, zl_51, zl_52, zl_53, zl_54, zl_55, zl_56, zl_57, zl_58, zl_59, zl_60, zl_61, zl_62, zl_63, zl_64, zl_97, zl_99, zl_100, zl_126, zl_255, zl_434, zl_496, zl_1000000, zl_100000, s_cellOf hC hW ha, s_strengthOf hC hW ha]
    refine RunP.loop (fun i ls D' => ls = [z (v (40 + 2 * a)), z (v (41 + 2 * a)), z i] ∧ FC D D' ∧ BI D' E (fun c => O c || (decide (c < i) && opB v a c)) ord) 36 1 1 ?_ ?_ 0 _ _ (by omega) ⟨rfl, FC.rfl, by simpa using hB⟩ (by omega)
    · rintro i ls D' c hi ⟨rfl, hf, b1, b2, b3, b4, b5, b6⟩ hk
      have hC' := hC.fc hf
      have hd := dist_le hi p1
      have e : (fun c => O c || (decide (c < i + 1) && opB v a c)) = if O i = false ∧ opB v a i = true then ub (fun c => O c || (decide (c < i) && opB v a c)) i else (fun c => O c || (decide (c < i) && opB v a c)) := by
        split
        · rename_i h
          funext c
          unfold ub
          by_cases e : c = i
          · subst e
            simp [h.2]
          · simp [e, show (c < i + 1) = (c < i) from propext (by omega)]
        · rename_i h
          funext c
          by_cases e : c = i
          · subst e
            cases h1 : O c
            · have : opB v a c = false := by
                cases h2 : opB v a c
                · rfl
                · exact absurd ⟨h1, h2⟩ h
              simp [this]
            · simp
          · simp [show (c < i + 1) = (c < i) from propext (by omega)]
      refine RunP.go ?_
      show Wp (b_X1_openAround_1 _ _ _ _) _
      unfold b_X1_openAround_1
      have r53 := b2 i hi
      simp only [Nat.lt_irrefl, decide_false, Bool.false_and, Bool.or_false] at r53
      simp (disch := omega) only [z_add, z_sub, z_mul, z_neg, ite_T, ite_F, zl_0, zl_1, zl_2, zl_3, zl_4, zl_5, zl_6, zl_7, zl_8, zl_9, zl_10, zl_11, zl_12, zl_13, zl_14, zl_15, zl_16, zl_17, zl_18, zl_19, zl_20, zl_21, zl_22, zl_23, zl_24, zl_25, zl_26, zl_27, zl_28, zl_29, zl_30, zl_31, zl_32, zl_33, zl_34, zl_35, zl_36, zl_37, zl_38, zl_39, zl_40, zl_41, zl_42, zl_43, zl_44, zl_45, zl_46, zl_47, zl_48, zl_49, zl_50, zl_51, zl_52, zl_53, zl_54, zl_55, zl_56, zl_57, zl_58, zl_59, zl_60, zl_61, zl_62, zl_63, zl_64, zl_97, zl_99, zl_100, zl_126, zl_255, zl_434, zl_496, zl_1000000, zl_100000, z_lt, z_le, z_eq, inB_z, z_div, Int.reduceToNat, Wp_some, Nx_l, Nx_r, cI_i, cV_v, cL_l, ite_t, ite_f, z_nn, toNat_c, bz_e0, r53, zb_0, s_distance hi p1, s_breaksAt hC' hW hi]
      have hop : (0 < v (4 + i) ∧ (v (4 + i) : Int) ≤ (v (41 + 2 * a) : Int) - dist i (v (40 + 2 * a))) ↔ opB v a i = true := by
        unfold opB
        rw [decide_eq_true_eq]
        omega
      cases hO : O i with
      | true =>
        rw [if_neg (by simp), Wp_some, Nx_l]
        refine hk _ _ ⟨rfl, hf, ?_⟩
        rw [e, if_neg (by simp [hO])]
        exact ⟨b1, b2, b3, b4, b5, b6⟩
      | false =>
        rw [if_pos rfl]
        by_cases h : opB v a i = true
        · rw [if_neg (by rw [hop]; simp [h]), Wp_some, Nx_l]
          refine hk _ _ ⟨rfl, (hf.sA rfl).sI rfl, ?_⟩
          rw [e, if_pos ⟨hO, h⟩]
          refine ⟨b1, fun c hc => ?_, b3, ?_, b5, b6⟩
          · show upd (D'.2.2.1 53) i (vp_nar .boolean (z 1)) c = _
            by_cases e : c = i
            · subst e
              rw [upd_same, ub_self, na_1]
              rfl
            · rw [upd_ne _ _ e, ub_ne _ e]
              exact b2 c hc
          · show D'.1 127 + z 1 = _
            rw [b4, cnt_ub hi (by simp [hO]), z_add]
            rfl
        · rw [if_pos (by rw [hop]; exact h), Wp_some, Nx_l]
          refine hk _ _ ⟨rfl, hf, ?_⟩
          rw [e, if_neg (by simp [h])]
          exact ⟨b1, b2, b3, b4, b5, b6⟩
    · rintro ls D' ⟨rfl, hf, b1, b2, b3, b4, b5, b6⟩
      refine RunP.go ?_
      show Wp (b_X1_openAround_1 _ _ _ _) _
      unfold b_X1_openAround_1
      simp (disch := omega) only [z_add, z_sub, z_mul, z_neg, ite_T, ite_F, zl_0, zl_1, zl_2, zl_3, zl_4, zl_5, zl_6, zl_7, zl_8, zl_9, zl_10, zl_11, zl_12, zl_13, zl_14, zl_15, zl_16, zl_17, zl_18, zl_19, zl_20, zl_21, zl_22, zl_23, zl_24, zl_25, zl_26, zl_27, zl_28, zl_29, zl_30, zl_31, zl_32, zl_33, zl_34, zl_35, zl_36, zl_37, zl_38, zl_39, zl_40, zl_41, zl_42, zl_43, zl_44, zl_45, zl_46, zl_47, zl_48, zl_49, zl_50, zl_51, zl_52, zl_53, zl_54, zl_55, zl_56, zl_57, zl_58, zl_59, zl_60, zl_61, zl_62, zl_63, zl_64, zl_97, zl_99, zl_100, zl_126, zl_255, zl_434, zl_496, zl_1000000, zl_100000, z_lt, z_le, z_eq, inB_z, z_div, Int.reduceToNat, Wp_some, Nx_l, Nx_r, cI_i, cV_v, cL_l, ite_t, ite_f, z_nn, toNat_c, bz_e0]
      have hc : ∀ c, c < 36 → (O c || (decide (c < 36) && opB v a c)) = (O c || opB v a c) := fun c hc => by simp [hc]
      refine ⟨D', rfl, hf, b1, fun c h => ?_, b3, ?_, b5, b6⟩
      · rw [b2 c h]
        show z (zb (O c || (decide (c < 36) && opB v a c))) = _
        rw [hc c h]
      · rw [b4, cnt_congr 36 (fun c h => hc c h)]
  obtain ⟨r, h1, D', rfl, h2⟩ := key
  exact ⟨D', h1, h2⟩
theorem s_opens (hB : BI D E O ord) {c : Nat} (hc : c < 36) : S_X1_opens (z c) D = some (0, some (.int (z (zb (O c)))), D) := by
  have h2 := hB.2.1 c hc
  unfold S_X1_opens
  simp (disch := omega) only [z_add, z_sub, z_mul, z_neg, ite_T, ite_F, zl_0, zl_1, zl_2, zl_3, zl_4, zl_5, zl_6, zl_7, zl_8, zl_9, zl_10, zl_11, zl_12, zl_13, zl_14, zl_15, zl_16, zl_17, zl_18, zl_19, zl_20, zl_21, zl_22, zl_23, zl_24, zl_25, zl_26, zl_27, zl_28, zl_29, zl_30, zl_31, zl_32, zl_33, zl_34, zl_35, zl_36, zl_37, zl_38, zl_39, zl_40, zl_41, zl_42, zl_43, zl_44, zl_45, zl_46, zl_47, zl_48, zl_49, zl_50, zl_51, zl_52, zl_53, zl_54, zl_55, zl_56, zl_57, zl_58, zl_59, zl_60, zl_61, zl_62, zl_63, zl_64, zl_97, zl_99, zl_100, zl_126, zl_255, zl_434, zl_496, zl_1000000, zl_100000, z_lt, z_le, z_eq, inB_z, z_div, Int.reduceToNat, Wp_some, Nx_l, Nx_r, cI_i, cV_v, cL_l, ite_t, ite_f, z_nn, toNat_c, bz_e0, s_isCell hc, h2, zb_0]
  cases O c
  · rfl
  · rfl
theorem s_explodes (hB : BI D E O ord) {a : Nat} (ha : a < 6) : S_X1_explodes (z a) D = some (0, some (.int (z (zb (E a)))), D) := by
  have h2 := hB.1 a ha
  unfold S_X1_explodes
  simp (disch := omega) only [z_add, z_sub, z_mul, z_neg, ite_T, ite_F, zl_0, zl_1, zl_2, zl_3, zl_4, zl_5, zl_6, zl_7, zl_8, zl_9, zl_10, zl_11, zl_12, zl_13, zl_14, zl_15, zl_16, zl_17, zl_18, zl_19, zl_20, zl_21, zl_22, zl_23, zl_24, zl_25, zl_26, zl_27, zl_28, zl_29, zl_30, zl_31, zl_32, zl_33, zl_34, zl_35, zl_36, zl_37, zl_38, zl_39, zl_40, zl_41, zl_42, zl_43, zl_44, zl_45, zl_46, zl_47, zl_48, zl_49, zl_50, zl_51, zl_52, zl_53, zl_54, zl_55, zl_56, zl_57, zl_58, zl_59, zl_60, zl_61, zl_62, zl_63, zl_64, zl_97, zl_99, zl_100, zl_126, zl_255, zl_434, zl_496, zl_1000000, zl_100000, z_lt, z_le, z_eq, inB_z, z_div, Int.reduceToNat, Wp_some, Nx_l, Nx_r, cI_i, cV_v, cL_l, ite_t, ite_f, z_nn, toNat_c, bz_e0, s_inRange, h2, zb_0]
  cases E a
  · rfl
  · rfl
theorem s_setOffOpened (hC : CS D v) (hW : WF v) (hB : BI D E O ord) : ∃ D' E' ord', S_X1_setOffOpened D = some (0, none, D') ∧ FC D D' ∧ BI D' E' O ord' ∧ (∀ b, E' b = (E b || (decide (b < v 3) && O (v (40 + 2 * b))))) ∧ (∀ j, j < cnt E 6 → ord' j = ord j) ∧ cnt E 6 ≤ cnt E' 6 := by
  have h6 := hW.2.1
  have key : ∃ r, run T_X1_setOffOpened FUEL 0 [] D = some r ∧ ∃ D' E' ord', r = (0, none, D') ∧ FC D D' ∧ BI D' E' O ord' ∧ (∀ b, E' b = (E b || (decide (b < v 3) && O (v (40 + 2 * b))))) ∧ (∀ j, j < cnt E 6 → ord' j = ord j) ∧ cnt E 6 ≤ cnt E' 6 := by
    refine RunP.fin (c := 100) ?_ (by decide)
    refine RunP.go ?_
    show Wp (b_X1_setOffOpened_0 _) _
    unfold b_X1_setOffOpened_0
    simp only [Int.reduceToNat, Wp_some, Nx_l, Nx_r, cI_i, cV_v, cL_l, ite_t, ite_f, z_nn, toNat_c, bz_e0, z_add, z_sub, z_mul, z_neg, ite_T, ite_F, zl_0, zl_1, zl_2, zl_3, zl_4, zl_5, zl_6, zl_7, zl_8, zl_9, zl_10, zl_11, zl_12, zl_13, zl_14, zl_15, zl_16, zl_17, zl_18, zl_19, zl_20, zl_21, zl_22, zl_23, zl_24, zl_25, zl_26, zl_27, zl_28, zl_29, zl_30, zl_31, zl_32, zl_33, zl_34, zl_35, zl_36, zl_37, zl_38, zl_39, zl_40, zl_41, zl_42, zl_43, zl_44, zl_45, zl_46, zl_47, zl_48, zl_49, zl_50, zl_51, zl_52, zl_53, zl_54, zl_55, zl_56, zl_57, zl_58, zl_59, zl_60, zl_61, zl_62, zl_63, zl_64, zl_97, zl_99, zl_100, zl_126, zl_255, zl_434, zl_496, zl_1000000, zl_100000]
    refine RunP.loop (fun i ls D' => ls = [z i] ∧ FC D D' ∧ ∃ E' ord', BI D' E' O ord' ∧ (∀ b, E' b = (E b || (decide (b < i) && O (v (40 + 2 * b))))) ∧ (∀ j, j < cnt E 6 → ord' j = ord j) ∧ cnt E 6 ≤ cnt E' 6) (v 3) 1 1 ?_ ?_ 0 _ _ (by omega) ⟨rfl, FC.rfl, E, ord, hB, fun b => by simp, fun _ _ => rfl, Nat.le_refl _⟩ (by omega)
    · rintro i ls D' c hi ⟨rfl, hf, E', ord', hB', hE, ho, hc⟩ hk
      have hC' := hC.fc hf
      obtain ⟨p1, p2, p3⟩ := hW.2.2.1 i hi
      refine RunP.go ?_
      show Wp (b_X1_setOffOpened_1 _ _) _
      unfold b_X1_setOffOpened_1
      simp (disch := omega) only [z_add, z_sub, z_mul, z_neg, ite_T, ite_F, zl_0, zl_1, zl_2, zl_3, zl_4, zl_5, zl_6, zl_7, zl_8, zl_9, zl_10, zl_11, zl_12, zl_13, zl_14, zl_15, zl_16, zl_17, zl_18, zl_19, zl_20, zl_21, zl_22, zl_23, zl_24, zl_25, zl_26, zl_27, zl_28, zl_29, zl_30, zl_31, zl_32, zl_33, zl_34, zl_35, zl_36, zl_37, zl_38, zl_39, zl_40, zl_41, zl_42, zl_43, zl_44, zl_45, zl_46, zl_47, zl_48, zl_49, zl_50, zl_51, zl_52, zl_53, zl_54, zl_55, zl_56, zl_57, zl_58, zl_59, zl_60, zl_61, zl_62, zl_63, zl_64, zl_97, zl_99, zl_100, zl_126, zl_255, zl_434, zl_496, zl_1000000, zl_100000, z_lt, z_le, z_eq, inB_z, z_div, Int.reduceToNat, Wp_some, Nx_l, Nx_r, cI_i, cV_v, cL_l, ite_t, ite_f, z_nn, toNat_c, bz_e0, hC'.2.2.2.2.1, s_cellOf hC' hW hi, s_opens hB' p1, zb_0]
      cases hO : O (v (40 + 2 * i)) with
      | false =>
        rw [if_pos rfl, Wp_some, Nx_l]
        refine hk _ _ ⟨rfl, hf, E', ord', hB', fun b => ?_, ho, hc⟩
        rw [hE b]
        by_cases e : b = i
        · subst e
          simp [hO]
        · simp [show (b < i + 1) = (b < i) from propext (by omega)]
      | true =>
        rw [if_neg (by simp)]
        obtain ⟨D2, ord2, q1, q2, q3, q4⟩ := s_setOff hB' (show i < 6 by omega)
        rw [q1, cV_v, Wp_some, Nx_l]
        refine hk _ _ ⟨rfl, hf.trans q2, ub E' i, ord2, q3, fun b => ?_, fun j hj => (q4 j (by omega)).trans (ho j hj), Nat.le_trans hc (cnt_mono 6 (fun j _ h => by unfold ub; rw [h]; rfl))⟩
        unfold ub
        rw [hE b]
        by_cases e : b = i
        · subst e
          simp [hO]
        · simp [e, show (b < i + 1) = (b < i) from propext (by omega)]
    · rintro ls D' ⟨rfl, hf, E', ord', hB', hE, ho, hc⟩
      have hC' := hC.fc hf
      refine RunP.go ?_
      show Wp (b_X1_setOffOpened_1 _ _) _
      unfold b_X1_setOffOpened_1
      simp (disch := omega) only [z_add, z_sub, z_mul, z_neg, ite_T, ite_F, zl_0, zl_1, zl_2, zl_3, zl_4, zl_5, zl_6, zl_7, zl_8, zl_9, zl_10, zl_11, zl_12, zl_13, zl_14, zl_15, zl_16, zl_17, zl_18, zl_19, zl_20, zl_21, zl_22, zl_23, zl_24, zl_25, zl_26, zl_27, zl_28, zl_29, zl_30, zl_31, zl_32, zl_33, zl_34, zl_35, zl_36, zl_37, zl_38, zl_39, zl_40, zl_41, zl_42, zl_43, zl_44, zl_45, zl_46, zl_47, zl_48, zl_49, zl_50, zl_51, zl_52, zl_53, zl_54, zl_55, zl_56, zl_57, zl_58, zl_59, zl_60, zl_61, zl_62, zl_63, zl_64, zl_97, zl_99, zl_100, zl_126, zl_255, zl_434, zl_496, zl_1000000, zl_100000, z_lt, z_le, z_eq, inB_z, z_div, Int.reduceToNat, Wp_some, Nx_l, Nx_r, cI_i, cV_v, cL_l, ite_t, ite_f, z_nn, toNat_c, bz_e0, hC'.2.2.2.2.1]
      exact ⟨D', E', ord', rfl, hf, hB', hE, ho, hc⟩
  obtain ⟨r, h1, D', E', ord', rfl, h2⟩ := key
  exact ⟨D', E', ord', h1, h2⟩
end LL
