/-! pure: slabs by moving -/
def par (c : Nat) : Nat := (c / 6 + c % 6) % 2
theorem adj_par {a b : Nat} (h : adj a b) : par a + par b = 1 := by unfold adj at h; unfold par; omega
def VP (v : Nat → Nat) (P : Nat → Int) : Prop := ∀ r, r < 36 → P r = -1 ∨ ∃ l : Nat, P r = l ∧ l < 36 ∧ par l = 0 ∧ adj l r ∧ v (4 + l) = 0 ∧ v (4 + r) = 0
def IJ (P : Nat → Int) : Prop := ∀ r r', r < 36 → r' < 36 → P r = P r' → P r ≠ -1 → r = r'
def Cl (v : Nat → Nat) (P : Nat → Int) (L R : Nat → Prop) : Prop := (∀ r, r < 36 → R r → ∃ l : Nat, P r = l ∧ L l) ∧ ∀ l r, r < 36 → L l → adj l r → v (4 + r) = 0 → R r
def mcn (P : Nat → Int) : Nat := cnt (fun r => decide (P r ≠ -1)) 36
def KI (D : DD) (P : Nat → Int) (A : Nat → Bool) : Prop := (∀ j, j < 36 → D.2.2.1 57 j = z (P j)) ∧ ∀ j, j < 36 → D.2.2.1 58 j = z (zb (A j))
/-- a slab was laid on l, others moved -/
def Suc (v : Nat → Nat) (P : Nat → Int) (A : Nat → Bool) (l : Nat) (P' : Nat → Int) : Prop :=
  VP v P' ∧ (∀ r, r < 36 → A r = true → P' r = P r) ∧ (∃ r, r < 36 ∧ A r = false ∧ P' r = l) ∧ (∀ r, r < 36 → A r = false → P' r = -1 ∨ P' r = l ∨ ∃ r', r' < 36 ∧ A r' = false ∧ P' r = P r') ∧ (∀ r r', r < 36 → r' < 36 → A r = false → A r' = false → P' r = P' r' → P' r ≠ -1 → r = r') ∧ mcn P' = mcn P + 1 ∧ (∀ r, r < 36 → P r ≠ -1 → ∃ r', r' < 36 ∧ P' r' = P r) ∧ ∀ L R, Cl v P L R → ¬ L l ∧ ∀ r, r < 36 → R r → P' r = P r
/-- no room for l: what was asked is closed -/
def Fai (v : Nat → Nat) (P : Nat → Int) (A : Nat → Bool) (l : Nat) (A' : Nat → Bool) : Prop :=
  (∀ r, A r = true → A' r = true) ∧ (∀ r, r < 36 → adj l r → v (4 + r) = 0 → A' r = true) ∧ (∀ r, r < 36 → A' r = true → A r = false → ∃ l' : Nat, P r = l' ∧ ∀ r2, r2 < 36 → adj l' r2 → v (4 + r2) = 0 → A' r2 = true) ∧ ∀ r, r < 36 → A' r = true → A r = true ∨ par r = 1
section LL
variable {D : DD} {v : Nat → Nat} {P : Nat → Int} {A : Nat → Bool}
theorem VP.rng (h : VP v P) {r : Nat} (hr : r < 36) : -1 ≤ P r ∧ P r < 36 := by
  rcases h r hr with e | ⟨l, e, h1, -⟩ <;> omega
theorem Suc.base (hV : VP v P) (hI : IJ P) {l r : Nat} (hl : l < 36) (hp : par l = 0) (ho : v (4 + l) = 0) (hun : ∀ x, x < 36 → A x = false → P x ≠ l) (hr : r < 36) (hAr : A r = false) (hadj : adj l r) (hor : v (4 + r) = 0) (hPr : P r = -1) : Suc v P A l (fun j => if j = r then (l : Int) else P j) := by
  have e1 : (fun j => if j = r then (l : Int) else P j) r = l := if_pos rfl
  have e2 : ∀ x, x ≠ r → (fun j => if j = r then (l : Int) else P j) x = P x := fun x h => if_neg h
  refine ⟨fun x hx => ?_, fun x hx hA => e2 x (fun e => by rw [e, hAr] at hA; cases hA), ⟨r, hr, hAr, e1⟩, fun x hx hA => ?_, fun x y hx hy hAx hAy => ?_, ?_, fun x hx hP => ?_, fun L R hC => ⟨fun hL => ?_, fun x hx hR => e2 x (fun e => ?_)⟩⟩
  · by_cases e : x = r
    · rw [e, e1]
      exact Or.inr ⟨l, rfl, hl, hp, hadj, ho, hor⟩
    · rw [e2 x e]
      exact hV x hx
  · by_cases e : x = r
    · rw [e, e1]
      exact Or.inr (Or.inl rfl)
    · rw [e2 x e]
      exact Or.inr (Or.inr ⟨x, hx, hA, rfl⟩)
  · by_cases ex : x = r
    · by_cases ey : y = r
      · intro _ _
        rw [ex, ey]
      · rw [ex, e1, e2 y ey]
        intro h _
        exact absurd h.symm (hun y hy hAy)
    · by_cases ey : y = r
      · rw [ey, e1, e2 x ex]
        intro h _
        exact absurd h (hun x hx hAx)
      · rw [e2 x ex, e2 y ey]
        exact hI x y hx hy
  · have h1 := cnt_ub (p := fun x => decide (P x ≠ -1)) hr (by simp [hPr])
    unfold mcn
    rw [← h1]
    refine cnt_congr 36 (fun x hx => ?_)
    by_cases e : x = r
    · rw [e, ub_self]
      show decide ((fun j => if j = r then (l : Int) else P j) r ≠ -1) = true
      rw [e1]
      exact decide_eq_true (by omega)
    · rw [ub_ne _ e]
      show decide ((fun j => if j = r then (l : Int) else P j) x ≠ -1) = _
      rw [e2 x e]
  · exact ⟨x, hx, e2 x (fun e => hP (by rw [e]; exact hPr))⟩
  · obtain ⟨l', q1, -⟩ := hC.1 r hr (hC.2 l r hr hL hadj hor)
    omega
  · rw [e] at hR
    obtain ⟨l', q1, -⟩ := hC.1 r hr hR
    omega
theorem Suc.step (hV : VP v P) (hI : IJ P) {l r o : Nat} {A2 : Nat → Bool} {Q : Nat → Int} (hl : l < 36) (hp : par l = 0) (ho : v (4 + l) = 0) (hun : ∀ x, x < 36 → A x = false → P x ≠ l) (hr : r < 36) (hAr : A r = false) (hadj : adj l r) (hor : v (4 + r) = 0) (hPr : P r = o) (hA2 : ∀ x, A x = true → A2 x = true) (hA2r : A2 r = true) (h : Suc v P A2 o Q) : Suc v P A l (fun j => if j = r then (l : Int) else Q j) := by
  obtain ⟨s1, s2, ⟨w, s3, s4, s5⟩, s6, s7, s8, s9, s10⟩ := h
  have hQr : Q r = o := by rw [s2 r hr hA2r, hPr]
  have e1 : (fun j => if j = r then (l : Int) else Q j) r = l := if_pos rfl
  have e2 : ∀ x, x ≠ r → (fun j => if j = r then (l : Int) else Q j) x = Q x := fun x h => if_neg h
  have hwr : w ≠ r := fun e => by rw [e, hA2r] at s4; cases s4
  have un : ∀ x, A2 x = false → A x = false := fun x h => by
    cases hA : A x
    · rfl
    · rw [hA2 x hA] at h
      cases h
  have hol : (o : Int) ≠ l := by rw [← hPr]; exact hun r hr hAr
  -- what Q holds outside r, seen from the first marks
  have form : ∀ x, x < 36 → x ≠ r → A x = false → Q x = -1 ∨ (A2 x = false ∧ Q x = o) ∨ ∃ y, y < 36 ∧ A y = false ∧ y ≠ r ∧ Q x = P y ∧ (A2 x = true → y = x) ∧ (A2 x = false → A2 y = false) := by
    intro x hx hxr hAx
    cases h2 : A2 x with
    | true => exact Or.inr (Or.inr ⟨x, hx, hAx, hxr, s2 x hx h2, fun _ => rfl, fun h => (by cases h)⟩)
    | false =>
      rcases s6 x hx h2 with q | q | ⟨y, q1, q2, q3⟩
      · exact Or.inl q
      · exact Or.inr (Or.inl ⟨rfl, q⟩)
      · exact Or.inr (Or.inr ⟨y, q1, un y q2, fun e => (by rw [e, hA2r] at q2; cases q2), q3, fun h => (by cases h), fun _ => q2⟩)
  have nel : ∀ x, x < 36 → x ≠ r → A x = false → Q x ≠ l := by
    intro x hx hxr hAx h
    rcases form x hx hxr hAx with q | ⟨-, q⟩ | ⟨y, q1, q2, -, q3, -⟩
    · omega
    · omega
    · exact hun y q1 q2 (by omega)
  refine ⟨fun x hx => ?_, fun x hx hA => ?_, ⟨r, hr, hAr, e1⟩, fun x hx hA => ?_, fun x y hx hy hAx hAy => ?_, ?_, fun x hx hP => ?_, fun L R hC => ?_⟩
  · by_cases e : x = r
    · rw [e, e1]
      exact Or.inr ⟨l, rfl, hl, hp, hadj, ho, hor⟩
    · rw [e2 x e]
      exact s1 x hx
  · rw [e2 x (fun e => by rw [e, hAr] at hA; cases hA)]
    exact s2 x hx (hA2 x hA)
  · by_cases e : x = r
    · rw [e, e1]
      exact Or.inr (Or.inl rfl)
    · rw [e2 x e]
      rcases form x hx e hA with q | ⟨-, q⟩ | ⟨y, q1, q2, -, q3, -⟩
      · exact Or.inl q
      · exact Or.inr (Or.inr ⟨r, hr, hAr, by rw [q, hPr]⟩)
      · exact Or.inr (Or.inr ⟨y, q1, q2, q3⟩)
  · by_cases ex : x = r
    · by_cases ey : y = r
      · intro _ _
        rw [ex, ey]
      · rw [ex, e1, e2 y ey]
        intro h _
        exact absurd h.symm (nel y hy ey hAy)
    · by_cases ey : y = r
      · rw [ey, e1, e2 x ex]
        intro h _
        exact absurd h (nel x hx ex hAx)
      · rw [e2 x ex, e2 y ey]
        intro h hne
        cases hx2 : A2 x with
        | false =>
          cases hy2 : A2 y with
          | false => exact s7 x y hx hy hx2 hy2 h hne
          | true =>
            have hQy := s2 y hy hy2
            rcases form x hx ex hAx with q | ⟨-, q⟩ | ⟨t, q1, q2, q2', q3, -, q4⟩
            · exact absurd q hne
            · have := hI y r hy hr (by omega) (by omega)
              exact absurd this ey
            · have := hI t y q1 hy (by omega) (by omega)
              have q5 := q4 hx2
              rw [this, hy2] at q5
              cases q5
        | true =>
          have hQx := s2 x hx hx2
          cases hy2 : A2 y with
          | false =>
            rcases form y hy ey hAy with q | ⟨-, q⟩ | ⟨t, q1, q2, q2', q3, -, q4⟩
            · exact absurd (h.trans q) hne
            · have := hI x r hx hr (by omega) (by omega)
              exact absurd this ex
            · have := hI t x q1 hx (by omega) (by omega)
              have q5 := q4 hy2
              rw [this, hx2] at q5
              cases q5
          | true =>
            have hQy := s2 y hy hy2
            exact hI x y hx hy (by omega) (by omega)
  · rw [← s8]
    unfold mcn
    refine cnt_congr 36 (fun x hx => ?_)
    by_cases e : x = r
    · rw [e]
      show decide ((fun j => if j = r then (l : Int) else Q j) r ≠ -1) = decide (Q r ≠ -1)
      rw [e1, hQr]
      exact decide_eq_decide.mpr ⟨fun _ => by omega, fun _ => by omega⟩
    · show decide ((fun j => if j = r then (l : Int) else Q j) x ≠ -1) = _
      rw [e2 x e]
  · obtain ⟨x', q1, q2⟩ := s9 x hx hP
    by_cases e : x' = r
    · refine ⟨w, s3, ?_⟩
      rw [e2 w hwr, s5, ← q2, e, hQr]
    · exact ⟨x', q1, by rw [e2 x' e]; exact q2⟩
  · obtain ⟨q1, q2⟩ := s10 L R hC
    have hRr : ¬ R r := fun hR => by
      obtain ⟨l', g1, g2⟩ := hC.1 r hr hR
      have : l' = o := by omega
      rw [this] at g2
      exact q1 g2
    refine ⟨fun hL => hRr (hC.2 l r hr hL hadj hor), fun x hx hR => ?_⟩
    rw [e2 x (fun e => hRr (by rw [← e]; exact hR))]
    exact q2 x hx hR
theorem s_makeRoom (hW : WF v) (hV : VP v P) (hI : IJ P) : ∀ (d dep l : Nat) (D : DD) (A : Nat → Bool), d + dep = 40 → CS D v → KI D P A → (∀ r, r < 36 → A r = true → par r = 1) → dep ≤ cnt A 36 → l < 36 → par l = 0 → v (4 + l) = 0 → (∀ x, x < 36 → A x = false → P x ≠ l) → ∃ (D' : DD) (ok : Bool), S_X9_makeRoom d (z l) (z dep) D = some (0, some (.int (z (zb ok))), D') ∧ FC D D' ∧ ∃ (P' : Nat → Int) (A' : Nat → Bool), KI D' P' A' ∧ ((ok = true ∧ Suc v P A l P') ∨ (ok = false ∧ P' = P ∧ Fai v P A l A')) := by
  intro d
  induction d with
  | zero =>
    intro dep l D A hd hC hK hpar hdep
    have := cnt_le A 36
    omega
  | succ d ih =>
    intro dep l D A hd hC hK hpar hdep hl hpl hol hun
    have hcA : cnt A 36 < 36 := cnt_lt (a := 0) (by decide) (by
      cases h : A 0
      · rfl
      · exact absurd (hpar 0 (by decide) h) (by decide))
    have key : ∃ r, run (T_X9_makeRoom (S_X9_makeRoom d)) FUEL 0 [z l, z dep] D = some r ∧ ∃ (D' : DD) (ok : Bool), r = (0, some (.int (z (zb ok))), D') ∧ FC D D' ∧ ∃ (P' : Nat → Int) (A' : Nat → Bool), KI D' P' A' ∧ ((ok = true ∧ Suc v P A l P') ∨ (ok = false ∧ P' = P ∧ Fai v P A l A')) := by
      refine RunP.fin (c := 100) ?_ (by decide)
      refine RunP.go ?_
      show Wp (b_X9_makeRoom_0 (S_X9_makeRoom d) _ _ _) _
      unfold b_X9_makeRoom_0
      simp (disch := omega) only [z_add, z_sub, z_mul, z_neg, ite_T, ite_F, zl_0, zl_1, zl_2, zl_3, zl_4, zl_5, zl_6, zl_7, zl_8, zl_9, zl_10, zl_11, zl_12, zl_13, zl_14, zl_15, zl_16, zl_17, zl_18, zl_19, zl_20, zl_21, zl_22, zl_23, zl_24, zl_25, zl_26, zl_27, zl_28, zl_29, zl_30, zl_31, zl_32, zl_33, zl_34, zl_35, zl_36, zl_37, zl_38, zl_39, zl_40, zl_41, zl_42, zl_43, zl_44, zl_45, zl_46, zl_47, zl_48, zl_49, zl_50, zl_51, zl_52, zl_53, zl_54, zl_55, zl_56, zl_57, zl_58, zl_59, zl_60, zl_61, zl_62, zl_63, zl_64, zl_97, zl_99, zl_100, zl_126, zl_255, zl_434, zl_496, zl_1000000, zl_100000, z_lt, z_le, z_eq, inB_z, z_div, Int.reduceToNat, Wp_some, Nx_l, Nx_r, cI_i, cV_v, cL_l, ite_t, ite_f, z_nn, toNat_c, bz_e0]
      refine RunP.loop (fun i ls D' => ls = [z l, z dep, z i] ∧ FC D D' ∧ ∃ A' : Nat → Bool, KI D' P A' ∧ (∀ r, A r = true → A' r = true) ∧ (∀ k, k < i → ∀ r : Nat, r < 36 → nbC l k = r → v (4 + r) = 0 → A' r = true) ∧ (∀ r, r < 36 → A' r = true → A r = false → ∃ l' : Nat, P r = l' ∧ ∀ r2, r2 < 36 → adj l' r2 → v (4 + r2) = 0 → A' r2 = true) ∧ ∀ r, r < 36 → A' r = true → A r = true ∨ par r = 1) 4 1 1 ?_ ?_ 0 _ _ (by omega) ⟨rfl, FC.rfl, A, hK, fun r h => h, fun k h => by omega, fun r _ h1 h2 => (by rw [h1] at h2; cases h2), fun r _ h => Or.inl h⟩ (by omega)
      · rintro i ls D' c hi ⟨rfl, hf, A', hK', a1, a2, a3, a4⟩ hk
        have hC' := hC.fc hf
        have n1 := nbC_lo l i
        have n2 := nbC_hi l i
        have same : (∀ r : Nat, r < 36 → nbC l i = r → v (4 + r) = 0 → A' r = true) → RunP (T_X9_makeRoom (S_X9_makeRoom d)) c 1 [z l, z dep, z ((i + 1 : Nat))] D' (fun r => ∃ (D' : DD) (ok : Bool), r = (0, some (.int (z (zb ok))), D') ∧ FC D D' ∧ ∃ (P' : Nat → Int) (A' : Nat → Bool), KI D' P' A' ∧ ((ok = true ∧ Suc v P A l P') ∨ (ok = false ∧ P' = P ∧ Fai v P A l A'))) := by
          intro h
          refine hk _ _ ⟨rfl, hf, A', hK', a1, fun k hk r hr e ho => ?_, a3, a4⟩
          by_cases e2 : k = i
          · subst e2
            exact h r hr e ho
          · exact a2 k (by omega) r hr e ho
        refine RunP.go ?_
        show Wp (b_X9_makeRoom_1 (S_X9_makeRoom d) _ _ _ _) _
        unfold b_X9_makeRoom_1
        simp (disch := omega) only [z_add, z_sub, z_mul, z_neg, ite_T, ite_F, zl_0, zl_1, zl_2, zl_3, zl_4, zl_5, zl_6, zl_7, zl_8, zl_9, zl_10, zl_11, zl_12, zl_13, zl_14, zl_15, zl_16, zl_17, zl_18, zl_19, zl_20, zl_21, zl_22, zl_23, zl_24, zl_25, zl_26, zl_27, zl_28, zl_29, zl_30, zl_31, zl_32, zl_33, zl_34, zl_35, zl_36, zl_37, zl_38, zl_39, zl_40, zl_41, zl_42, zl_43, zl_44, zl_45, zl_46, zl_47, zl_48, zl_49, zl_50, zl_51, zl_52, zl_53, zl_54, zl_55, zl_56, zl_57, zl_58, zl_59, zl_60, zl_61, zl_62, zl_63, zl_64, zl_97, zl_99, zl_100, zl_126, zl_255, zl_434, zl_496, zl_1000000, zl_100000, z_lt, z_le, z_eq, inB_z, z_div, Int.reduceToNat, Wp_some, Nx_l, Nx_r, cI_i, cV_v, cL_l, ite_t, ite_f, z_nn, toNat_c, bz_e0, s_neighbourOf hl hi]
        by_cases hneg : nbC l i < 0
        · rw [s_isCell_f (by omega) (by omega) (Or.inl hneg), cI_i]
          simp (disch := omega) only [z_add, z_sub, z_mul, z_neg, ite_T, ite_F, zl_0, zl_1, zl_2, zl_3, zl_4, zl_5, zl_6, zl_7, zl_8, zl_9, zl_10, zl_11, zl_12, zl_13, zl_14, zl_15, zl_16, zl_17, zl_18, zl_19, zl_20, zl_21, zl_22, zl_23, zl_24, zl_25, zl_26, zl_27, zl_28, zl_29, zl_30, zl_31, zl_32, zl_33, zl_34, zl_35, zl_36, zl_37, zl_38, zl_39, zl_40, zl_41, zl_42, zl_43, zl_44, zl_45, zl_46, zl_47, zl_48, zl_49, zl_50, zl_51, zl_52, zl_53, zl_54, zl_55, zl_56, zl_57, zl_58, zl_59, zl_60, zl_61, zl_62, zl_63, zl_64, zl_97, zl_99, zl_100, zl_126, zl_255, zl_434, zl_496, zl_1000000, zl_100000, z_lt, z_le, z_eq, inB_z, z_div, Int.reduceToNat, Wp_some, Nx_l, Nx_r, cI_i, cV_v, cL_l, ite_t, ite_f, z_nn, toNat_c, bz_e0]
          exact same (fun r hr e => by omega)
        · obtain ⟨r, hy⟩ := Int.eq_ofNat_of_zero_le (show 0 ≤ nbC l i by omega)
          have hr : r < 36 := by omega
          have hadj : adj l r := (nbC_adj hl hr).mp ⟨i, hi, hy⟩
          have hrng := hV.rng hr
          rw [hy]
          simp (disch := omega) only [z_add, z_sub, z_mul, z_neg, ite_T, ite_F, zl_0, zl_1, zl_2, zl_3, zl_4, zl_5, zl_6, zl_7, zl_8, zl_9, zl_10, zl_11, zl_12, zl_13, zl_14, zl_15, zl_16, zl_17, zl_18, zl_19, zl_20, zl_21, zl_22, zl_23, zl_24, zl_25, zl_26, zl_27, zl_28, zl_29, zl_30, zl_31, zl_32, zl_33, zl_34, zl_35, zl_36, zl_37, zl_38, zl_39, zl_40, zl_41, zl_42, zl_43, zl_44, zl_45, zl_46, zl_47, zl_48, zl_49, zl_50, zl_51, zl_52, zl_53, zl_54, zl_55, zl_56, zl_57, zl_58, zl_59, zl_60, zl_61, zl_62, zl_63, zl_64, zl_97, zl_99, zl_100, zl_126, zl_255, zl_434, zl_496, zl_1000000, zl_100000, z_lt, z_le, z_eq, inB_z, z_div, Int.reduceToNat, Wp_some, Nx_l, Nx_r, cI_i, cV_v, cL_l, ite_t, ite_f, z_nn, toNat_c, bz_e0, s_isCell hr, s_openAt hC' hW hr, hK'.1 r hr, hK'.2 r hr, zb_0]
          by_cases ho : v (4 + r) = 0
          · rw [if_neg (by simpa using ho)]
            cases hA' : A' r with
            | true =>
              rw [if_neg (by simp), Wp_some, Nx_l]
              exact same (fun r' hr' e ho' => by
                have : r' = r := by omega
                rw [this]
                exact hA')
            | false =>
              rw [if_pos rfl]
              have hAr : A r = false := by
                cases h : A r
                · rfl
                · rw [a1 r h] at hA'
                  cases hA'
              have h58 : ∀ j, j < 36 → upd (D'.2.2.1 58) r (vp_nar .boolean (z 1)) j = z (zb (ub A' r j)) := fun j hj => by
                by_cases e : j = r
                · rw [e, upd_same, ub_self, na_1]
                  rfl
                · rw [upd_ne _ _ e, ub_ne _ e]
                  exact hK'.2 j hj
              split
              · rename_i hm1
                rw [Wp_some, Nx_r]
                refine ⟨_, true, rfl, (hf.sA (k := 58) rfl).sA (k := 57) rfl, fun j => if j = r then (l : Int) else P j, ub A' r, ⟨fun j hj => ?_, fun j hj => ?_⟩, Or.inl ⟨rfl, Suc.base hV hI hl hpl hol hun hr hAr hadj ho hm1⟩⟩
                · show upd (D'.2.2.1 57) r (z l) j = z (if j = r then (l : Int) else P j)
                  by_cases e : j = r
                  · rw [e, upd_same, if_pos rfl]
                  · rw [upd_ne _ _ e, if_neg e]
                    exact hK'.1 j hj
                · exact h58 j hj
              · rename_i hm1
                obtain ⟨o, hPo, ho36, hop, hoadj, hoo, -⟩ := (hV r hr).resolve_left hm1
                have hf2 : FC D (setA D' 58 (upd (D'.2.2.1 58) r (vp_nar .boolean (z 1)))) := hf.sA rfl
                have hK2 : KI (setA D' 58 (upd (D'.2.2.1 58) r (vp_nar .boolean (z 1)))) P (ub A' r) := ⟨fun j hj => hK'.1 j hj, h58⟩
                have hcu := cnt_ub hr hA'
                have hcm : cnt A 36 ≤ cnt A' 36 := cnt_mono 36 (fun j _ h => a1 j h)
                obtain ⟨D3, ok, p1, p2, P3, A3, p3, p4⟩ := ih (dep + 1) o _ (ub A' r) (by omega) (hC.fc hf2) hK2 (fun x hx h => by
                  by_cases e : x = r
                  · have := adj_par hadj
                    rw [e]
                    omega
                  · rw [ub_ne _ e] at h
                    rcases a4 x hx h with q | q
                    · exact hpar x hx q
                    · exact q) (by omega) ho36 hop hoo (fun x hx h e => by
                  have : x = r := hI x r hx hr (by omega) (by omega)
                  rw [this, ub_self] at h
                  cases h)
                rw [hPo, show (dep : Int) + 1 = ((dep + 1 : Nat) : Int) by omega, p1, cI_i]
                rcases p4 with ⟨rfl, p4⟩ | ⟨rfl, rfl, f1, f2, f3, f4⟩
                · rw [zb_t]
                  simp (disch := omega) only [z_add, z_sub, z_mul, z_neg, ite_T, ite_F, zl_0, zl_1, zl_2, zl_3, zl_4, zl_5, zl_6, zl_7, zl_8, zl_9, zl_10, zl_11, zl_12, zl_13, zl_14, zl_15, zl_16, zl_17, zl_18, zl_19, zl_20, zl_21, zl_22, zl_23, zl_24, zl_25, zl_26, zl_27, zl_28, zl_29, zl_30, zl_31, zl_32, zl_33, zl_34, zl_35, zl_36, zl_37, zl_38, zl_39, zl_40, zl_41, zl_42, zl_43, zl_44, zl_45, zl_46, zl_47, zl_48, zl_49, zl_50, zl_51, zl_52, zl_53, zl_54, zl_55, zl_56, zl_57, zl_58, zl_59, zl_60, zl_61, zl_62, zl_63, zl_64, zl_97, zl_99, zl_100, zl_126, zl_255, zl_434, zl_496, zl_1000000, zl_100000, z_lt, z_le, z_eq, inB_z, z_div, Int.reduceToNat, Wp_some, Nx_l, Nx_r, cI_i, cV_v, cL_l, ite_t, ite_f, z_nn, toNat_c, bz_e0]
                  refine ⟨_, true, rfl, (hf2.trans p2).sA (k := 57) rfl, fun j => if j = r then (l : Int) else P3 j, A3, ⟨fun j hj => ?_, fun j hj => p3.2 j hj⟩, Or.inl ⟨rfl, Suc.step hV hI hl hpl hol hun hr hAr hadj ho hPo (fun x h => by unfold ub; rw [a1 x h]; rfl) (ub_self _ _) p4⟩⟩
                  show upd (D3.2.2.1 57) r (z l) j = z (if j = r then (l : Int) else P3 j)
                  by_cases e : j = r
                  · rw [e, upd_same, if_pos rfl]
                  · rw [upd_ne _ _ e, if_neg e]
                    exact p3.1 j hj
                · rw [zb_f]
                  simp (disch := omega) only [z_add, z_sub, z_mul, z_neg, ite_T, ite_F, zl_0, zl_1, zl_2, zl_3, zl_4, zl_5, zl_6, zl_7, zl_8, zl_9, zl_10, zl_11, zl_12, zl_13, zl_14, zl_15, zl_16, zl_17, zl_18, zl_19, zl_20, zl_21, zl_22, zl_23, zl_24, zl_25, zl_26, zl_27, zl_28, zl_29, zl_30, zl_31, zl_32, zl_33, zl_34, zl_35, zl_36, zl_37, zl_38, zl_39, zl_40, zl_41, zl_42, zl_43, zl_44, zl_45, zl_46, zl_47, zl_48, zl_49, zl_50, zl_51, zl_52, zl_53, zl_54, zl_55, zl_56, zl_57, zl_58, zl_59, zl_60, zl_61, zl_62, zl_63, zl_64, zl_97, zl_99, zl_100, zl_126, zl_255, zl_434, zl_496, zl_1000000, zl_100000, z_lt, z_le, z_eq, inB_z, z_div, Int.reduceToNat, Wp_some, Nx_l, Nx_r, cI_i, cV_v, cL_l, ite_t, ite_f, z_nn, toNat_c, bz_e0]
                  have up : ∀ x, A' x = true → A3 x = true := fun x h => f1 x (by unfold ub; rw [h]; rfl)
                  refine hk _ _ ⟨rfl, hf2.trans p2, A3, p3, fun x h => up x (a1 x h), fun k hk x hx e hox => ?_, fun x hx h3 h0 => ?_, fun x hx h3 => ?_⟩
                  · by_cases e2 : k = i
                    · subst e2
                      have : x = r := by omega
                      rw [this]
                      exact f1 r (ub_self _ _)
                    · exact up x (a2 k (by omega) x hx e hox)
                  · cases hx' : A' x with
                    | true =>
                      obtain ⟨l', g1, g2⟩ := a3 x hx hx' h0
                      exact ⟨l', g1, fun r2 q1 q2 q3 => up r2 (g2 r2 q1 q2 q3)⟩
                    | false =>
                      by_cases e : x = r
                      · exact ⟨o, by rw [e]; exact hPo, fun r2 q1 q2 q3 => f2 r2 q1 q2 q3⟩
                      · exact f3 x hx h3 (by rw [ub_ne _ e]; exact hx')
                  · rcases f4 x hx h3 with q | q
                    · by_cases e : x = r
                      · have := adj_par hadj
                        right
                        rw [e]
                        omega
                      · rw [ub_ne _ e] at q
                        exact a4 x hx q
                    · exact Or.inr q
          · rw [if_pos (by simpa using ho), Wp_some, Nx_l]
            exact same (fun r' hr' e ho' => by
              have : r' = r := by omega
              rw [this] at ho'
              exact absurd ho' ho)
      · rintro ls D' ⟨rfl, hf, A', hK', a1, a2, a3, a4⟩
        refine RunP.go ?_
        show Wp (b_X9_makeRoom_1 (S_X9_makeRoom d) _ _ _ _) _
        unfold b_X9_makeRoom_1
        simp (disch := omega) only [z_add, z_sub, z_mul, z_neg, ite_T, ite_F, zl_0, zl_1, zl_2, zl_3, zl_4, zl_5, zl_6, zl_7, zl_8, zl_9, zl_10, zl_11, zl_12, zl_13, zl_14, zl_15, zl_16, zl_17, zl_18, zl_19, zl_20, zl_21, zl_22, zl_23, zl_24, zl_25, zl_26, zl_27, zl_28, zl_29, zl_30, zl_31, zl_32, zl_33, zl_34, zl_35, zl_36, zl_37, zl_38, zl_39, zl_40, zl_41, zl_42, zl_43, zl_44, zl_45, zl_46, zl_47, zl_48, zl_49, zl_50, zl_51, zl_52, zl_53, zl_54, zl_55, zl_56, zl_57, zl_58, zl_59, zl_60, zl_61, zl_62, zl_63, zl_64, zl_97, zl_99, zl_100, zl_126, zl_255, zl_434, zl_496, zl_1000000, zl_100000, z_lt, z_le, z_eq, inB_z, z_div, Int.reduceToNat, Wp_some, Nx_l, Nx_r, cI_i, cV_v, cL_l, ite_t, ite_f, z_nn, toNat_c, bz_e0]
        refine ⟨D', false, rfl, hf, P, A', hK', Or.inr ⟨rfl, rfl, a1, fun r hr hadj ho => ?_, a3, a4⟩⟩
        obtain ⟨k, u1, u2⟩ := (nbC_adj hl hr).mpr hadj
        exact a2 k u1 r hr u2 ho
    obtain ⟨r, h1, D', ok, rfl, h2⟩ := key
    exact ⟨D', ok, h1, h2⟩
end LL
