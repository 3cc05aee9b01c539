/-! pure: the greatest number of slabs -/
theorem cnt_inj (f : Nat → Nat) (p : Nat → Bool) : ∀ (n : Nat) (q : Nat → Bool), (∀ a, a < n → p a = true → f a < 36 ∧ q (f a) = true) → (∀ a b, a < n → b < n → p a = true → p b = true → f a = f b → a = b) → cnt p n ≤ cnt q 36
  | 0, _, _, _ => Nat.zero_le _
  | n + 1, q, h1, h2 => by
    rw [cnt]
    by_cases hp : p n = true
    · rw [if_pos hp]
      obtain ⟨a1, a2⟩ := h1 n (by omega) hp
      have e : ∀ j, ub (fun j => q j && decide (j ≠ f n)) (f n) j = q j := fun j => by
        by_cases e : j = f n
        · rw [e, ub_self, a2]
        · rw [ub_ne _ e]
          simp [e]
      have c1 := cnt_ub (p := fun j => q j && decide (j ≠ f n)) a1 (by simp)
      rw [cnt_congr 36 (fun j _ => e j)] at c1
      have ih := cnt_inj f p n (fun j => q j && decide (j ≠ f n)) (fun a ha hpa => by
        obtain ⟨b1, b2⟩ := h1 a (by omega) hpa
        refine ⟨b1, ?_⟩
        rw [Bool.and_eq_true, decide_eq_true_eq]
        refine ⟨b2, fun e => ?_⟩
        have := h2 a n (by omega) (by omega) hpa hp e
        omega) (fun a b ha hb => h2 a b (by omega) (by omega))
      omega
    · rw [if_neg hp]
      exact cnt_inj f p n q (fun a ha => h1 a (by omega)) (fun a b ha hb => h2 a b (by omega) (by omega))
section LL
variable {D : DD} {v : Nat → Nat} {P : Nat → Int}
theorem IsK.of (hV : VP v P) (hI : IJ P) {L R : Nat → Bool} (hC : Cl v P (fun l => L l = true) (fun r => R r = true)) (hroots : ∀ c, c < 36 → par c = 0 → v (4 + c) = 0 → (∃ r, r < 36 ∧ P r = c) ∨ L c = true) : IsK v (mcn P) := by
  have hg : ∃ g : Nat → Nat, ∀ c : Nat, (∃ r, r < 36 ∧ P r = c) → g c < 36 ∧ P (g c) = c := by
    have h : ∀ c : Nat, ∃ r : Nat, (∃ r, r < 36 ∧ P r = c) → r < 36 ∧ P r = c := by
      intro c
      by_cases hx : ∃ r, r < 36 ∧ P r = c
      · obtain ⟨r, h1⟩ := hx
        exact ⟨r, fun _ => h1⟩
      · exact ⟨0, fun h => absurd h hx⟩
    exact Classical.axiomOfChoice h
  obtain ⟨g, hg⟩ := hg
  have odd : ∀ r, r < 36 → P r ≠ -1 → par r = 1 ∧ ∃ l : Nat, P r = l ∧ l < 36 ∧ par l = 0 ∧ adj l r ∧ v (4 + l) = 0 ∧ v (4 + r) = 0 := by
    intro r hr h
    obtain ⟨l, h1, h2, h3, h4, h5⟩ := (hV r hr).resolve_left h
    have := adj_par h4
    exact ⟨by omega, l, h1, h2, h3, h4, h5⟩
  have even : ∀ c, c < 36 → par c = 0 → P c = -1 := fun c hc h => Decidable.byContradiction (fun q => by have := (odd c hc q).1; omega)
  have hp : ∃ p : Nat → Nat, ∀ c : Nat, c < 36 → (P c ≠ -1 → P c = (p c : Int)) ∧ (P c = -1 → (∃ r, r < 36 ∧ P r = c) → p c = g c) ∧ (P c = -1 → ¬ (∃ r, r < 36 ∧ P r = c) → p c = c) := by
    have h : ∀ c : Nat, ∃ q : Nat, c < 36 → (P c ≠ -1 → P c = (q : Int)) ∧ (P c = -1 → (∃ r, r < 36 ∧ P r = c) → q = g c) ∧ (P c = -1 → ¬ (∃ r, r < 36 ∧ P r = c) → q = c) := by
      intro c
      by_cases hc : c < 36
      · by_cases h1 : P c = -1
        · by_cases h2 : ∃ r, r < 36 ∧ P r = c
          · exact ⟨g c, fun _ => ⟨fun h => absurd h1 h, fun _ _ => rfl, fun _ h => absurd h2 h⟩⟩
          · exact ⟨c, fun _ => ⟨fun h => absurd h1 h, fun _ h => absurd h h2, fun _ _ => rfl⟩⟩
        · obtain ⟨-, l, e, -⟩ := odd c hc h1
          exact ⟨l, fun _ => ⟨fun _ => e, fun h => absurd h h1, fun h => absurd h h1⟩⟩
      · exact ⟨0, fun h => absurd h hc⟩
    exact Classical.axiomOfChoice h
  obtain ⟨p, hp⟩ := hp
  have inv : ∀ c, c < 36 → p c < 36 ∧ p (p c) = c ∧ (p c ≠ c → adj c (p c) ∧ v (4 + c) = 0 ∧ v (4 + p c) = 0) := by
    intro c hc
    obtain ⟨p1, p2, p3⟩ := hp c hc
    by_cases h1 : P c = -1
    · by_cases h2 : ∃ r, r < 36 ∧ P r = c
      · obtain ⟨g1, g2⟩ := hg c h2
        have e := p2 h1 h2
        obtain ⟨o1, l, o2, o3, o4, o5, o6, o7⟩ := odd (g c) g1 (by omega)
        have el : l = c := by omega
        subst el
        refine ⟨by rw [e]; exact g1, ?_, fun _ => ⟨by rw [e]; exact o5, o6, by rw [e]; exact o7⟩⟩
        have := (hp (g l) g1).1 (by omega)
        rw [e]
        omega
      · have e := p3 h1 h2
        rw [e]
        exact ⟨hc, e, fun h => absurd rfl h⟩
    · obtain ⟨o1, l, o2, o3, o4, o5, o6, o7⟩ := odd c hc h1
      have e : p c = l := by
        have := p1 h1
        omega
      rw [e]
      refine ⟨o3, ?_, fun _ => ⟨adj_symm o5, o7, o6⟩⟩
      have hex : ∃ r, r < 36 ∧ P r = l := ⟨c, hc, o2⟩
      rw [(hp l o3).2.1 (even l o3 o4) hex]
      obtain ⟨g1, g2⟩ := hg l hex
      exact hI (g l) c g1 hc (by omega) (by omega)
  refine ⟨⟨p, inv, ?_⟩, fun c => (decide (par c = 1) && R c) || (decide (par c = 0) && decide (v (4 + c) = 0) && !(L c)), fun a b ha hb hadj oa ob => ?_, ?_⟩
  · refine cnt_inj (fun r => if r < p r then r else p r) _ 36 _ (fun r hr h => ?_) (fun a b ha hb h1 h2 e => ?_)
    · have h := of_decide_eq_true h
      obtain ⟨i1, i2, -⟩ := inv r hr
      have hne : p r ≠ r := fun e => by
        obtain ⟨o1, l, o2, o3, o4, -⟩ := odd r hr h
        have := (hp r hr).1 h
        have : l = r := by omega
        rw [this] at o4
        omega
      show (if r < p r then r else p r) < 36 ∧ decide ((if r < p r then r else p r) < p (if r < p r then r else p r)) = true
      split
      · rename_i hlt
        exact ⟨hr, decide_eq_true hlt⟩
      · rename_i hlt
        exact ⟨i1, decide_eq_true (by rw [i2]; omega)⟩
    · have h1 := of_decide_eq_true h1
      have h2 := of_decide_eq_true h2
      obtain ⟨o1, l, o2, o3, o4, -⟩ := odd a ha h1
      obtain ⟨u1, k, u2, u3, u4, -⟩ := odd b hb h2
      have ea := (hp a ha).1 h1
      have eb := (hp b hb).1 h2
      have ea2 : p a = l := by omega
      have eb2 : p b = k := by omega
      have e : (if a < p a then a else p a) = (if b < p b then b else p b) := e
      rw [ea2, eb2] at e
      split at e
      · split at e
        · exact e
        · rw [e] at o1
          omega
      · split at e
        · rw [← e] at u1
          omega
        · exact hI a b ha hb (by omega) h1
  · have hpar := adj_par hadj
    have one : ∀ l r, l < 36 → r < 36 → par l = 0 → par r = 1 → adj l r → v (4 + l) = 0 → v (4 + r) = 0 → ((decide (par l = 1) && R l) || (decide (par l = 0) && decide (v (4 + l) = 0) && !(L l))) = true ∨ ((decide (par r = 1) && R r) || (decide (par r = 0) && decide (v (4 + r) = 0) && !(L r))) = true := by
      intro l r hl hr pl pr hadj ol or
      cases hL : L l with
      | true =>
        right
        have := hC.2 l r hr hL hadj or
        simp [pr, this]
      | false =>
        left
        simp [pl, ol]
    by_cases h : par a = 0
    · exact one a b ha hb h (by omega) hadj oa ob
    · exact (one b a hb ha (by omega) (by omega) (adj_symm hadj) ob oa).symm
  · have left : ∀ c, c < 36 → par c = 0 → v (4 + c) = 0 → L c = false → g c < 36 ∧ P (g c) = c := by
      intro c hc h1 h2 h3
      rcases hroots c hc h1 h2 with h | h
      · exact hg c h
      · rw [h3] at h
        cases h
    have form : ∀ c, ((decide (par c = 1) && R c) || (decide (par c = 0) && decide (v (4 + c) = 0) && !(L c))) = true → (par c = 1 ∧ R c = true) ∨ (par c = 0 ∧ v (4 + c) = 0 ∧ L c = false) := by
      intro c h
      rw [Bool.or_eq_true, Bool.and_eq_true, Bool.and_eq_true, Bool.and_eq_true, decide_eq_true_eq, decide_eq_true_eq, decide_eq_true_eq, Bool.not_eq_true'] at h
      rcases h with h | ⟨⟨h1, h2⟩, h3⟩
      · exact Or.inl h
      · exact Or.inr ⟨h1, h2, h3⟩
    refine cnt_inj (fun c => if par c = 1 then c else g c) _ 36 _ (fun c hc h => ?_) (fun a b ha hb h1 h2 e => ?_)
    · show (if par c = 1 then c else g c) < 36 ∧ decide (P (if par c = 1 then c else g c) ≠ -1) = true
      rcases form c h with ⟨q1, q2⟩ | ⟨q1, q2, q3⟩
      · rw [if_pos q1]
        obtain ⟨l, u1, -⟩ := hC.1 c hc q2
        exact ⟨hc, decide_eq_true (by omega)⟩
      · rw [if_neg (by omega)]
        obtain ⟨g1, g2⟩ := left c hc q1 q2 q3
        exact ⟨g1, decide_eq_true (by omega)⟩
    · have e : (if par a = 1 then a else g a) = (if par b = 1 then b else g b) := e
      rcases form a h1 with ⟨q1, q2⟩ | ⟨q1, q2, q3⟩
      · rw [if_pos q1] at e
        rcases form b h2 with ⟨r1, r2⟩ | ⟨r1, r2, r3⟩
        · rw [if_pos r1] at e
          exact e
        · rw [if_neg (by omega)] at e
          obtain ⟨g1, g2⟩ := left b hb r1 r2 r3
          obtain ⟨l, u1, u2⟩ := hC.1 a ha q2
          have : l = b := by
            rw [e] at u1
            omega
          rw [this, r3] at u2
          cases u2
      · rw [if_neg (by omega)] at e
        obtain ⟨g1, g2⟩ := left a ha q1 q2 q3
        rcases form b h2 with ⟨r1, r2⟩ | ⟨r1, r2, r3⟩
        · rw [if_pos r1] at e
          obtain ⟨l, u1, u2⟩ := hC.1 b hb r2
          have : l = a := by
            rw [← e] at u1
            omega
          rw [this, q3] at u2
          cases u2
        · rw [if_neg (by omega)] at e
          obtain ⟨k1, k2⟩ := left b hb r1 r2 r3
          rw [e] at g2
          omega
theorem s_countByMoving (hC : CS D v) (hW : WF v) : ∃ (D' : DD) (K : Nat), S_X9_countByMoving D = some (0, some (.int (z K)), D') ∧ FC D D' ∧ IsK v K := by
  have key : ∃ r, run T_X9_countByMoving FUEL 0 [] D = some r ∧ ∃ (D' : DD) (K : Nat), r = (0, some (.int (z K)), D') ∧ FC D D' ∧ IsK v K := by
    obtain ⟨g0, q1, q2⟩ := J7_fill_53178_slabs_partner_ok D (z (-1))
    refine RunP.fin (c := 100) ?_ (by decide)
    refine RunP.go ?_
    show Wp (b_X9_countByMoving_0 _) _
    unfold b_X9_countByMoving_0
    simp only [z_add, z_sub, z_mul, z_neg, ite_T, ite_F, zl_0, zl_1, zl_2, zl_3, zl_4, zl_5, zl_6, zl_7, zl_8, zl_9, zl_10, zl_11, zl_12, zl_13, zl_14, zl_15, zl_16, zl_17, zl_18, zl_19, zl_20, zl_21, zl_22, zl_23, zl_24, zl_25, zl_26, zl_27, zl_28, zl_29, zl_30, zl_31, zl_32, zl_33, zl_34, zl_35, zl_36, zl_37, zl_38, zl_39, zl_40, zl_41, zl_42, zl_43, zl_44, zl_45, zl_46, zl_47, zl_48, zl_49, zl_50, zl_51, zl_52, zl_53, zl_54, zl_55, zl_56, zl_57, zl_58, zl_59, zl_60, zl_61, zl_62, zl_63, zl_64, zl_97, zl_99, zl_100, zl_126, zl_255, zl_434, zl_496, zl_1000000, zl_100000, q1, Int.reduceToNat, Wp_some, Nx_l, Nx_r, cI_i, cV_v, cL_l, ite_t, ite_f, z_nn, toNat_c, bz_e0]
    refine RunP.loop (fun i ls D' => FC D D' ∧ ∃ (P : Nat → Int) (L R : Nat → Bool), ls = [z (mcn P), z i] ∧ (∀ j, j < 36 → D'.2.2.1 57 j = z (P j)) ∧ VP v P ∧ IJ P ∧ Cl v P (fun l => L l = true) (fun r => R r = true) ∧ (∀ c, c < i → par c = 0 → v (4 + c) = 0 → (∃ r, r < 36 ∧ P r = c) ∨ L c = true) ∧ ∀ r, r < 36 → P r < i) 36 1 1 ?_ ?_ 0 _ _ (by omega) ⟨FC.rfl.sA rfl, fun _ => -1, fun _ => false, fun _ => false, ?_, fun j hj => by rw [setA_same]; exact q2 j hj, fun r _ => Or.inl rfl, fun r r' _ _ _ h => absurd rfl h, ⟨fun r _ h => (by cases h), fun l r _ h => (by cases h)⟩, fun c h => by omega, fun r _ => by show (-1 : Int) < _; omega⟩ (by omega)
    · rintro i ls D' c hi ⟨hf, P, L, R, rfl, hr, hV, hI, hCl, hroots, hlt⟩ hk
      have hC' := hC.fc hf
      have hle : mcn P ≤ 36 := cnt_le _ _
      have skip : ¬ (par i = 0 ∧ v (4 + i) = 0) → RunP T_X9_countByMoving c 1 [z (mcn P), z ((i + 1 : Nat))] D' (fun r => ∃ (D' : DD) (K : Nat), r = (0, some (.int (z K)), D') ∧ FC D D' ∧ IsK v K) := by
        intro h
        refine hk _ _ ⟨hf, P, L, R, rfl, hr, hV, hI, hCl, fun c hc p1 p2 => ?_, fun r hr => by have := hlt r hr; omega⟩
        by_cases e : c = i
        · rw [e] at p1 p2
          exact absurd ⟨p1, p2⟩ h
        · exact hroots c (by omega) p1 p2
      refine RunP.go ?_
      show Wp (b_X9_countByMoving_1 _ _ _) _
      unfold b_X9_countByMoving_1
      simp (disch := omega) only [z_add, z_sub, z_mul, z_neg, ite_T, ite_F, zl_0, zl_1, zl_2, zl_3, zl_4, zl_5, zl_6, zl_7, zl_8, zl_9, zl_10, zl_11, zl_12, zl_13, zl_14, zl_15, zl_16, zl_17, zl_18, zl_19, zl_20, zl_21, zl_22, zl_23, zl_24, zl_25, zl_26, zl_27, zl_28, zl_29, zl_30, zl_31, zl_32, zl_33, zl_34, zl_35, zl_36, zl_37, zl_38, zl_39, zl_40, zl_41, zl_42, zl_43, zl_44, zl_45, zl_46, zl_47, zl_48, zl_49, zl_50, zl_51, zl_52, zl_53, zl_54, zl_55, zl_56, zl_57, zl_58, zl_59, zl_60, zl_61, zl_62, zl_63, zl_64, zl_97, zl_99, zl_100, zl_126, zl_255, zl_434, zl_496, zl_1000000, zl_100000, z_lt, z_le, z_eq, inB_z, z_div, Int.reduceToNat, Wp_some, Nx_l, Nx_r, cI_i, cV_v, cL_l, ite_t, ite_f, z_nn, toNat_c, bz_e0, s_openAt hC' hW hi]
      by_cases hp : par i = 0
      · have hp' : ((i : Int) / 6 + (i - i / 6 * 6) - (i / 6 + (i - i / 6 * 6)) / 2 * 2 = 0) := by
          unfold par at hp
          omega
        rw [if_pos hp']
        by_cases ho : v (4 + i) = 0
        · rw [if_neg (by simpa using ho)]
          obtain ⟨g1, u1, u2⟩ := X12_clear_slabs_asked_ok D'
          have hK : KI (setA D' 58 g1) P (fun _ => false) := ⟨fun j hj => hr j hj, fun j hj => by rw [setA_same]; exact u2 j hj⟩
          obtain ⟨D2, ok, w1, w2, P2, A2, w3, w4⟩ := s_makeRoom hW hV hI 40 0 i (setA D' 58 g1) (fun _ => false) rfl (hC'.fc (FC.rfl.sA rfl)) hK (fun r _ h => (by cases h)) (by omega) hi hp ho (fun x hx _ e => by have := hlt x hx; omega)
          have w1 : S_X9_makeRoom 40 (z i) (z 0) (setA D' 58 g1) = some (0, some (.int (z (zb ok))), D2) := w1
          simp (disch := omega) only [u1, cV_v, w1, cI_i, z_add, z_sub, z_mul, z_neg, ite_T, ite_F, zl_0, zl_1, zl_2, zl_3, zl_4, zl_5, zl_6, zl_7, zl_8, zl_9, zl_10, zl_11, zl_12, zl_13, zl_14, zl_15, zl_16, zl_17, zl_18, zl_19, zl_20, zl_21, zl_22, zl_23, zl_24, zl_25, zl_26, zl_27, zl_28, zl_29, zl_30, zl_31, zl_32, zl_33, zl_34, zl_35, zl_36, zl_37, zl_38, zl_39, zl_40, zl_41, zl_42, zl_43, zl_44, zl_45, zl_46, zl_47, zl_48, zl_49, zl_50, zl_51, zl_52, zl_53, zl_54, zl_55, zl_56, zl_57, zl_58, zl_59, zl_60, zl_61, zl_62, zl_63, zl_64, zl_97, zl_99, zl_100, zl_126, zl_255, zl_434, zl_496, zl_1000000, zl_100000, z_lt, z_le, z_eq, inB_z, z_div]
          have hf2 : FC D D2 := (hf.sA rfl).trans w2
          rcases w4 with ⟨rfl, s1, s2, ⟨w, s3, s3', s4⟩, s5, s6, s7, s8, s9⟩ | ⟨rfl, rfl, f1, f2, f3, f4⟩
          · rw [zb_t]
            simp (disch := omega) only [z_add, z_sub, z_mul, z_neg, ite_T, ite_F, zl_0, zl_1, zl_2, zl_3, zl_4, zl_5, zl_6, zl_7, zl_8, zl_9, zl_10, zl_11, zl_12, zl_13, zl_14, zl_15, zl_16, zl_17, zl_18, zl_19, zl_20, zl_21, zl_22, zl_23, zl_24, zl_25, zl_26, zl_27, zl_28, zl_29, zl_30, zl_31, zl_32, zl_33, zl_34, zl_35, zl_36, zl_37, zl_38, zl_39, zl_40, zl_41, zl_42, zl_43, zl_44, zl_45, zl_46, zl_47, zl_48, zl_49, zl_50, zl_51, zl_52, zl_53, zl_54, zl_55, zl_56, zl_57, zl_58, zl_59, zl_60, zl_61, zl_62, zl_63, zl_64, zl_97, zl_99, zl_100, zl_126, zl_255, zl_434, zl_496, zl_1000000, zl_100000, z_lt, z_le, z_eq, inB_z, z_div, Int.reduceToNat, Wp_some, Nx_l, Nx_r, cI_i, cV_v, cL_l, ite_t, ite_f, z_nn, toNat_c, bz_e0]
            obtain ⟨t1, t2⟩ := s9 _ _ hCl
            refine hk _ _ ⟨hf2, P2, L, R, by rw [s7]; rfl, w3.1, s1, fun r r' h1 h2 h3 h4 => s6 r r' h1 h2 rfl rfl h3 h4, ⟨fun r hr' hR => ?_, hCl.2⟩, fun c hc p1 p2 => ?_, fun r hr' => ?_⟩
            · rw [t2 r hr' hR]
              exact hCl.1 r hr' hR
            · by_cases e : c = i
              · rw [e]
                exact Or.inl ⟨w, s3, s4⟩
              · rcases hroots c (by omega) p1 p2 with ⟨r, x1, x2⟩ | x
                · obtain ⟨r', y1, y2⟩ := s8 r x1 (by omega)
                  exact Or.inl ⟨r', y1, by omega⟩
                · exact Or.inr x
            · rcases s5 r hr' rfl with e | e | ⟨r', x1, -, x2⟩
              · omega
              · omega
              · have := hlt r' x1
                omega
          · rw [zb_f]
            simp (disch := omega) only [z_add, z_sub, z_mul, z_neg, ite_T, ite_F, zl_0, zl_1, zl_2, zl_3, zl_4, zl_5, zl_6, zl_7, zl_8, zl_9, zl_10, zl_11, zl_12, zl_13, zl_14, zl_15, zl_16, zl_17, zl_18, zl_19, zl_20, zl_21, zl_22, zl_23, zl_24, zl_25, zl_26, zl_27, zl_28, zl_29, zl_30, zl_31, zl_32, zl_33, zl_34, zl_35, zl_36, zl_37, zl_38, zl_39, zl_40, zl_41, zl_42, zl_43, zl_44, zl_45, zl_46, zl_47, zl_48, zl_49, zl_50, zl_51, zl_52, zl_53, zl_54, zl_55, zl_56, zl_57, zl_58, zl_59, zl_60, zl_61, zl_62, zl_63, zl_64, zl_97, zl_99, zl_100, zl_126, zl_255, zl_434, zl_496, zl_1000000, zl_100000, z_lt, z_le, z_eq, inB_z, z_div, Int.reduceToNat, Wp_some, Nx_l, Nx_r, cI_i, cV_v, cL_l, ite_t, ite_f, z_nn, toNat_c, bz_e0]
            refine hk _ _ ⟨hf2, P2, fun c => L c || decide (c = i) || (List.range 36).any (fun r => A2 r && decide (P2 r = c)), fun r => R r || A2 r, rfl, w3.1, hV, hI, ⟨fun r hr' hR => ?_, fun l r hr' hL hadj ho' => ?_⟩, fun c hc p1 p2 => ?_, fun r hr' => by have := hlt r hr'; omega⟩
            · have hR : (R r || A2 r) = true := hR
              show ∃ l : Nat, P2 r = l ∧ (L l || decide (l = i) || (List.range 36).any (fun r => A2 r && decide (P2 r = l))) = true
              rw [Bool.or_eq_true] at hR
              rcases hR with hR | hR
              · obtain ⟨l, x1, x2⟩ := hCl.1 r hr' hR
                exact ⟨l, x1, by rw [Bool.or_eq_true, Bool.or_eq_true]; exact Or.inl (Or.inl x2)⟩
              · obtain ⟨l, x1, -⟩ := f3 r hr' hR rfl
                refine ⟨l, x1, ?_⟩
                rw [Bool.or_eq_true, List.any_eq_true]
                exact Or.inr ⟨r, List.mem_range.mpr hr', by rw [Bool.and_eq_true, decide_eq_true_eq]; exact ⟨hR, x1⟩⟩
            · have hL : (L l || decide (l = i) || (List.range 36).any (fun r => A2 r && decide (P2 r = l))) = true := hL
              show (R r || A2 r) = true
              rw [Bool.or_eq_true, Bool.or_eq_true, decide_eq_true_eq, List.any_eq_true] at hL
              rw [Bool.or_eq_true]
              rcases hL with (hL | hL) | ⟨r0, x1, x2⟩
              · exact Or.inl (hCl.2 l r hr' hL hadj ho')
              · rw [hL] at hadj
                exact Or.inr (f2 r hr' hadj ho')
              · rw [Bool.and_eq_true, decide_eq_true_eq] at x2
                obtain ⟨l', y1, y2⟩ := f3 r0 (List.mem_range.mp x1) x2.1 rfl
                have : l' = l := by omega
                rw [this] at y2
                exact Or.inr (y2 r hr' hadj ho')
            · by_cases e : c = i
              · refine Or.inr ?_
                rw [Bool.or_eq_true, Bool.or_eq_true, decide_eq_true_eq]
                exact Or.inl (Or.inr e)
              · rcases hroots c (by omega) p1 p2 with x | x
                · exact Or.inl x
                · refine Or.inr ?_
                  rw [Bool.or_eq_true, Bool.or_eq_true]
                  exact Or.inl (Or.inl x)
        · rw [if_pos (by simpa using ho), Wp_some, Nx_l]
          exact skip (fun q => ho q.2)
      · have hp' : ¬ ((i : Int) / 6 + (i - i / 6 * 6) - (i / 6 + (i - i / 6 * 6)) / 2 * 2 = 0) := by
          unfold par at hp
          omega
        rw [if_neg hp', Wp_some, Nx_l]
        exact skip (fun q => hp q.1)
    · rintro ls D' ⟨hf, P, L, R, rfl, hr, hV, hI, hCl, hroots, hlt⟩
      refine RunP.go ?_
      show Wp (b_X9_countByMoving_1 _ _ _) _
      unfold b_X9_countByMoving_1
      simp (disch := omega) only [z_add, z_sub, z_mul, z_neg, ite_T, ite_F, zl_0, zl_1, zl_2, zl_3, zl_4, zl_5, zl_6, zl_7, zl_8, zl_9, zl_10, zl_11, zl_12, zl_13, zl_14, zl_15, zl_16, zl_17, zl_18, zl_19, zl_20, zl_21, zl_22, zl_23, zl_24, zl_25, zl_26, zl_27, zl_28, zl_29, zl_30, zl_31, zl_32, zl_33, zl_34, zl_35, zl_36, zl_37, zl_38, zl_39, zl_40, zl_41, zl_42, zl_43, zl_44, zl_45, zl_46, zl_47, zl_48, zl_49, zl_50, zl_51, zl_52, zl_53, zl_54, zl_55, zl_56, zl_57, zl_58, zl_59, zl_60, zl_61, zl_62, zl_63, zl_64, zl_97, zl_99, zl_100, zl_126, zl_255, zl_434, zl_496, zl_1000000, zl_100000, z_lt, z_le, z_eq, inB_z, z_div, Int.reduceToNat, Wp_some, Nx_l, Nx_r, cI_i, cV_v, cL_l, ite_t, ite_f, z_nn, toNat_c, bz_e0]
      exact ⟨D', mcn P, rfl, hf, IsK.of hV hI hCl hroots⟩
    · have : mcn (fun _ => -1) = 0 := by decide
      rw [this]
      rfl
  obtain ⟨r, h1, D', K, rfl, h2⟩ := key
  exact ⟨D', K, h1, h2⟩
end LL
