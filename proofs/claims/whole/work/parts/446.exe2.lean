/-! pure: a text executed, both sides -/
def fx2I (k : Nat) : Bool := k == 140 || k == 146 || k == 149
def fx2A (k : Nat) : Bool := k == 70 || k == 81 || smA k
def FX2 : DD → DD → Prop := FG fx2I n0 fx2A false
theorem FR.fx2 {D E : DD} (h : FR D E) : FX2 D E := FG.mono h (fun k hk => by
  simp [fx2I] at hk
  simp [smI]
  omega) (fun k hk => hk) (fun k hk => by
  have : ¬ k = 70 ∧ smA k = false := by
    unfold fx2A at hk
    rw [Bool.or_eq_false_iff, Bool.or_eq_false_iff] at hk
    exact ⟨by simpa using hk.1.1, hk.2⟩
  unfold frA
  rw [this.2]
  simpa using this.1) (fun h => h)
theorem FX2.i {D E : DD} (h : FX2 D E) {k : Nat} (hk : k ≠ 140 ∧ k ≠ 146 ∧ k ≠ 149) : E.1 k = D.1 k := h.1 k (by simp [fx2I]; omega)
theorem FX2.a {D E : DD} (h : FX2 D E) {k : Nat} (hk : k < 70 ∨ k = 71 ∨ k = 72 ∨ k = 73 ∨ k = 79 ∨ k = 80 ∨ 82 ≤ k) : E.2.2.1 k = D.2.2.1 k := h.2.2.1 k (by simp [fx2A, smA]; omega)
theorem FX2.gm {D E : DD} (h : FX2 D E) : GM D E := FG.mono h (fun k hk => by
  have : k < 140 := by simpa [gmI] using hk
  simp [fx2I]
  omega) (fun k hk => hk) (fun k hk => by
  have : k < 70 := by simpa [gmA] using hk
  simp [fx2A, smA]
  omega) (fun h => h)
section LL
variable {D E : DD} {v : Nat → Nat} {n nx : Nat} {p : Nat → Nat → Nat} {sf : Bool} {sv : Nat → Nat} {e f e' f' : Int} {ln : Nat} {L : Nat → Nat} {tn tn' : Nat} {T T' : Nat → Nat} {K J : Nat} {G : Nat → CG} {V : Nat → Nat → Nat} {P : RT → Prop}
theorem IP.agE (h : IP D n nx p sf sv e f ln L tn T) (hi : ∀ k, 20 ≤ k → k < 129 → k ≠ 121 → k ≠ 122 → E.1 k = D.1 k) (hj : ∀ k, 2 ≤ k → E.2.1 k = D.2.1 k) (ha : ∀ k, 8 ≤ k → k < 65 → k < 50 ∨ k = 64 → E.2.2.1 k = D.2.2.1 k) (he : EC E e' f') (ht : TC E tn' T') : IP E n nx p sf sv e' f' ln L tn' T' := by
  obtain ⟨h1, h2, h3, h4, h5⟩ := h
  refine ⟨h1.ag (hi _ (by omega) (by omega) (by omega) (by omega)) (hi _ (by omega) (by omega) (by omega) (by omega)) (fun k _ _ => hi k (by omega) (by omega) (by omega) (by omega)) (fun k _ _ => hj k (by omega)) (fun k _ _ => ha k (by omega) (by omega) (by omega)), h2.ag (hi _ (by omega) (by omega) (by omega) (by omega)) (fun k _ _ => hi k (by omega) (by omega) (by omega) (by omega)) (hj _ (by omega)) (fun k _ _ => ha k (by omega) (by omega) (by omega)), he, ?_, ht⟩
  unfold LC
  rw [hi 128 (by omega) (by omega) (by omega) (by omega), ha 64 (by omega) (by omega) (by omega)]
  exact h4
theorem IQ.agE (h : IQ D n p sf sv e f ln L tn T) (hi : ∀ k, k = 141 ∨ k = 144 ∨ k = 148 → E.1 k = D.1 k) (ha : ∀ k, k = 72 ∨ k = 73 ∨ k = 80 ∨ k = 82 ∨ k = 83 → E.2.2.1 k = D.2.2.1 k) (he : EM E e' f') (ht : TM E tn' T') : IQ E n p sf sv e' f' ln L tn' T' := by
  obtain ⟨h1, h2, h3, h4, h5, h6⟩ := h
  refine ⟨?_, ?_, he, ?_, ht, ?_⟩
  · unfold HM
    rw [hi 141 (by omega), ha 73 (by omega)]
    exact h1
  · unfold NM
    rw [hi 144 (by omega), ha 72 (by omega)]
    exact h2
  · unfold LM
    rw [hi 148 (by omega), ha 80 (by omega)]
    exact h4
  · unfold WM
    rw [ha 82 (by omega), ha 83 (by omega)]
    exact h6
theorem rem_before {v' : Nat → Nat} (hC : CS D v') (hB : QS D 1 v) (h6 : v 3 ≤ 6) (hP : IP D n nx p sf sv e f ln L tn T) (hn : n ≤ 8) (hnx : nx < 8) : ∃ D0, S_X6_remember_history_before D = some (0, none, D0) ∧ CS D0 v' ∧ IP D0 (pn n) (pnx nx) (pp n p v) sf sv e f ln L tn T ∧ GC D D0 ∧ D0.1 131 = D.1 131 := by
  obtain ⟨h1, h2, h3, h4, h5⟩ := hP
  obtain ⟨D0, q1, q2, q3⟩ := s_remember_history_before rfl hB h6 h1 hn hnx
  refine ⟨D0, q1, QS.ag (o := 0) hC (fun k _ _ => q3.1 k (by omega)) (q3.2.1 0 (by omega)) (fun k _ _ => q3.2.2.1 k (by omega)), ⟨q2, h2.ag (q3.1 _ (by omega)) (fun k _ _ => q3.1 k (by omega)) (q3.2.1 2 (by omega)) (fun k _ _ => q3.2.2.1 k (by omega)), ?_, ?_, ?_⟩, q3.gc, q3.1 131 (by omega)⟩
  · unfold EC
    rw [q3.1 121 (by omega), q3.1 122 (by omega)]
    exact h3
  · unfold LC
    rw [q3.1 128 (by omega), q3.2.2.1 64 (by omega)]
    exact h4
  · unfold TC
    rw [q3.1 129 (by omega), q3.2.2.1 65 (by omega)]
    exact h5
theorem ex_1 {i w : Nat} (hi : i < K) (hK : K ≤ 10) (h131 : D.1 131 = z K) (hc : D.2.2.2.2.2 i = some (1000 + w)) (hw : w < 7) : b_X12_execute_1 (z i) D = cI (carry w (z i) D) (fun r D' => if r = 0 then some (.inr (2, none, setI (cp 0 1 D') 122 (z i))) else some (.inl (1, [z i + (1 : Int32)], D'))) := by
  have hca : S_X4_commandAt (z i) D = some (0, some (.ref (1000 + w)), D) := by
    unfold S_X4_commandAt
    rw [show (0 : Int32) = z 0 from rfl, show (9 : Int32) = z 9 from rfl, s_inRange (by omega) (by omega) (by omega) (by omega) (by omega) (by omega), bz_t (by omega), cI_i, if_neg (by decide), if_pos (by rw [inB_z (by omega) (by omega)]; omega), z_nn (by omega) (by omega), toNat_c, hc]
    rfl
  unfold b_X12_execute_1
  rw [h131, if_neg (by rw [z_le (by omega) (by omega) (by omega) (by omega)]; omega), hca, cR_r]
  have : w = 0 ∨ w = 1 ∨ w = 2 ∨ w = 3 ∨ w = 4 ∨ w = 5 ∨ w = 6 := by omega
  rcases this with rfl | rfl | rfl | rfl | rfl | rfl | rfl <;> rfl
/-- the quarry carries the commands out -/
theorem s_loop (hC : CS D (V 0)) (hB : QS D 1 (V 0)) (hW : WF (V 0)) (hP : IP D n nx p sf sv e f ln L tn T) (hn : n ≤ 8) (hnx : nx < 8) (h131 : D.1 131 = z K) (hK : K ≤ 10) (hS : Sto D K G) (hw7 : ∀ i, i < K → (G i).1 < 7) (hJ : J ≤ K) (hok : ∀ i, i < J → Okc (G i) (V i) (V (i + 1))) (hfin : J = K ∨ (J < K ∧ Noc (G J) (V J))) (hres : ∀ D', (J = K → CS D' (V K) → IP D' (pn n) (pnx nx) (pp n p (V 0)) sf sv e f ln L tn T → GC D D' → P (0, some (.int (z K)), D')) ∧ (J < K → CS D' (V 0) → IP D' n nx p sf sv e J ln L tn T → GC D D' → P (2, none, D'))) : RunP T_X12_execute 20 1 [z 0] D P := by
  refine RunP.loop (fun i ls D' => ls = [z i] ∧ FA D D' ∧ CS D' (V i)) J 1 1 ?_ ?_ 0 _ _ (by omega) ⟨rfl, FG.rfl, hC⟩ (by omega)
  · rintro i ls D' c hi ⟨rfl, hf, hC'⟩ hk
    have hSi := hS i (by omega)
    obtain ⟨D2, q1, q2, q3⟩ := (hok i hi).2.1 D' i (by omega) hC' (by
      unfold SR
      rw [hf.a (k := 66) (by omega) (by omega)]
      exact hSi.2)
    refine RunP.go ?_
    show Wp (b_X12_execute_1 _ _) _
    rw [ex_1 (K := K) (w := (G i).1) (by omega) hK (by rw [hf.i (by omega) (by omega)]; exact h131) (by rw [hf.2.2.2.2.2 rfl]; exact hSi.1) (hw7 i (by omega)), q1, cI_i, if_neg (by decide), show (1 : Int32) = z 1 from rfl, z_add, Wp_some, Nx_l]
    exact hk _ _ ⟨rfl, hf.trans q2, q3⟩
  · rintro ls D' ⟨rfl, hf, hC'⟩
    have hB' : QS D' 1 (V 0) := hB.ag (fun k _ _ => hf.i (by omega) (by omega)) (hf.j (by omega)) (fun k _ _ => hf.a (by omega) (by omega))
    have hP' := hP.fa hf
    have e131 : D'.1 131 = z K := by rw [hf.i (by omega) (by omega)]; exact h131
    refine RunP.go ?_
    show Wp (b_X12_execute_1 _ _) _
    rcases hfin with hJK | ⟨hJK, hno⟩
    · obtain ⟨D0, r1, r2, r3, r4, r5⟩ := rem_before hC' hB' hW.2.1 hP' hn hnx
      unfold b_X12_execute_1
      rw [e131, if_pos (by rw [z_le (by omega) (by omega) (by omega) (by omega)]; omega), r1, cV_v, r5, e131, Wp_some, Nx_r]
      exact (hres D0).1 hJK (hJK ▸ r2) r3 (hf.gc.trans r4)
    · have hSi := hS J hJK
      have q1 := hno.1 D' J (by omega) hC' (by
        unfold SR
        rw [hf.a (k := 66) (by omega) (by omega)]
        exact hSi.2)
      rw [ex_1 (K := K) (w := (G J).1) hJK hK e131 (by rw [hf.2.2.2.2.2 rfl]; exact hSi.1) (hw7 J hJK), q1, cI_i, if_pos (by decide), Wp_some, Nx_r]
      have fi : ∀ k, 4 ≤ k → k ≠ 122 → (setI (cp 0 1 D') 122 (z (J : Nat))).1 k = D'.1 k := fun k h1 h2 => by rw [setI_1, if_neg h2, cp_i (by omega)]
      have fj : ∀ k, k ≠ 0 → (setI (cp 0 1 D') 122 (z (J : Nat))).2.1 k = D'.2.1 k := fun k h1 => cp_j h1
      have fa : ∀ k, 4 ≤ k → (setI (cp 0 1 D') 122 (z (J : Nat))).2.2.1 k = D'.2.2.1 k := fun k h1 => cp_a (by omega)
      refine (hres _).2 hJK ?_ (hP'.agE (fun k h1 h2 h3 h4 => fi k (by omega) h4) (fun k h1 => fj k (by omega)) (fun k h1 h2 h3 => fa k (by omega)) ⟨?_, rfl⟩ ?_) (hf.gc.trans ⟨fun k hk => fi k (by simp [gcI] at hk; omega) (by simp [gcI] at hk; omega), fun k hk => (by cases hk), fun k hk => fa k (by simp [gcA] at hk; omega), rfl, rfl, fun h => (by cases h)⟩)
      · exact QS.ag (o := 0) (cp_QS (a := 0) (b := 1) hB' hW.2.1) (fun k _ _ => by rw [setI_1, if_neg (by omega)]) rfl (fun k _ _ => rfl)
      · rw [fi 121 (by omega) (by omega)]
        exact hP'.2.2.1.1
      · unfold TC
        rw [fi 129 (by omega) (by omega), fa 65 (by omega)]
        exact hP'.2.2.2.2
/-- the second reading: the commands are done -/
theorem m_doit (h : RX D n T) (h150 : D.1 150 = z 1) (h140 : D.1 140 = z 0) (hG : GP n T K G) (hK0 : 0 < K) (hK : K ≤ 10) (hend : (G (K - 1)).2.2.2.2.2 = n) (hM : MR D (V 0)) (hJ : J ≤ K) (hok : ∀ i, i < J → Okc (G i) (V i) (V (i + 1))) (hfin : J = K ∨ (J < K ∧ Noc (G J) (V J))) : ∃ D', FX2 D D' ∧ ((J = K ∧ S_X13_commands D = some (0, some (.int (z K)), D') ∧ MR D' (V K) ∧ D'.1 140 = z 0) ∨ (J < K ∧ S_X13_commands D = some (0, some (.int (z ((J + 1 : Nat)))), D') ∧ ∃ t : Int, 1 ≤ t ∧ t < 100 ∧ D'.1 140 = z t)) := by
  have h60 := h.2.1
  have fr : ∀ (D1 : DD) (g : Nat → Int32) (q b : Nat), FX2 D1 (Rp (setA D1 81 g) q b) := fun D1 g q b => ((FG.rfl.sA rfl).sI rfl).sI rfl
  have cmdok : ∀ (D1 : DD) (k : Nat) (v v' : Nat → Nat), k < K → RX D1 n T → D1.1 150 = z 1 → D1.1 140 = z 0 → MR D1 v → Okc (G k) v v' → ∃ D', S_X13_command (Rp D1 (G k).2.2.2.2.1 0) = some (0, none, D') ∧ FX2 D1 D' ∧ MR D' v' ∧ D'.1 140 = z 0 ∧ D'.1 146 = z (G k).2.2.2.2.2 ∧ D'.1 149 = z ((0 : Nat) : Int) := by
    intro D1 k v v' hk hX1 h1 h2 hM1 hO
    have hd : ∀ g', ∃ x D', S_X13_does (z (G k).1) (z (G k).2.1) (z (G k).2.2.1) (z (G k).2.2.2.1) (Rp (setA D1 81 g') (G k).2.2.2.2.2 0) = some (0, some (.int x), D') ∧ FR (Rp (setA D1 81 g') (G k).2.2.2.2.2 0) D' ∧ MR D' v' ∧ D'.1 140 = (Rp (setA D1 81 g') (G k).2.2.2.2.2 0).1 140 := fun g' => hO.2.2 _ (hM1.setA (g := g') (k := 81) (by decide))
    obtain ⟨g', x, D', q1, q2⟩ := m_cmd_ok1 hX1 (hG k hk).1 h1 (fun g' => by
      obtain ⟨x, D', a1, -⟩ := hd g'
      exact ⟨x, D', a1⟩)
    obtain ⟨x2, D2, r1, r2, r3, r4⟩ := hd g'
    rw [r1] at q1
    simp only [Option.some.injEq, Prod.mk.injEq] at q1
    obtain ⟨-, -, rfl⟩ := q1
    refine ⟨D2, q2, (fr D1 g' _ 0).trans r2.fx2, r3, r4.trans h2, ?_, ?_⟩
    · rw [r2.i (by omega)]
      rfl
    · rw [r2.i (by omega)]
      rfl
  have cmdno : ∀ (D1 : DD) (k : Nat) (v : Nat → Nat), k < K → RX D1 n T → D1.1 150 = z 1 → MR D1 v → Noc (G k) v → ∃ D' t, S_X13_command (Rp D1 (G k).2.2.2.2.1 0) = some (0, none, D') ∧ FX2 D1 D' ∧ D'.1 140 = z t ∧ 1 ≤ t ∧ t < 100 ∧ D'.1 149 = z ((0 : Nat) : Int) := by
    intro D1 k v hk hX1 h1 hM1 hO
    have hd : ∀ g', ∃ (x : Int32) (t : Int), 1 ≤ t ∧ t < 100 ∧ S_X13_does (z (G k).1) (z (G k).2.1) (z (G k).2.2.1) (z (G k).2.2.2.1) (Rp (setA D1 81 g') (G k).2.2.2.2.2 0) = some (0, some (.int x), setI (Rp (setA D1 81 g') (G k).2.2.2.2.2 0) 140 (z t)) := fun g' => hO.2 _ (hM1.setA (g := g') (k := 81) (by decide))
    obtain ⟨g', x, D', q1, q2⟩ := m_cmd_ok1 hX1 (hG k hk).1 h1 (fun g' => by
      obtain ⟨x, t, -, -, a1⟩ := hd g'
      exact ⟨x, _, a1⟩)
    obtain ⟨x2, t, t1, t2, r1⟩ := hd g'
    rw [r1] at q1
    simp only [Option.some.injEq, Prod.mk.injEq] at q1
    obtain ⟨-, -, rfl⟩ := q1
    exact ⟨_, t, q2, (fr D1 g' _ 0).sI rfl, setI_same _ _ _, t1, t2, rfl⟩
  have hRX : ∀ D', FX2 D D' → RX D' n T := fun D' hf => by
    obtain ⟨a1, a2, a3, a4, a5⟩ := h
    refine ⟨by rw [hf.i (by omega)]; exact a1, a2, by rw [hf.a (by omega)]; exact a3, a4, ?_⟩
    unfold WM
    rw [hf.a (k := 82) (by omega), hf.a (k := 83) (by omega)]
    exact a5
  have key : ∃ r, run T_X13_commands FUEL 0 [] D = some r ∧ ∃ D', FX2 D D' ∧ ((J = K ∧ r = (0, some (.int (z K)), D') ∧ MR D' (V K) ∧ D'.1 140 = z 0) ∨ (J < K ∧ r = (0, some (.int (z ((J + 1 : Nat)))), D') ∧ ∃ t : Int, 1 ≤ t ∧ t < 100 ∧ D'.1 140 = z t)) := by
    have bad : ∀ (D' : DD) (t : Int), J < K → FX2 D D' → D'.1 140 = z t → 1 ≤ t → t < 100 → D'.1 149 = z ((0 : Nat) : Int) → RunP T_X13_commands 1 1 [z ((J + 1 : Nat))] D' (fun r => ∃ D', FX2 D D' ∧ ((J = K ∧ r = (0, some (.int (z K)), D') ∧ MR D' (V K) ∧ D'.1 140 = z 0) ∨ (J < K ∧ r = (0, some (.int (z ((J + 1 : Nat)))), D') ∧ ∃ t : Int, 1 ≤ t ∧ t < 100 ∧ D'.1 140 = z t))) := by
      intro D' t hJK hf h1 h2 h3 h4
      refine RunP.mono (c := 0 + 1) ?_ (by omega)
      refine RunP.go ?_
      show Wp (b_X13_commands_1 _ _) _
      unfold b_X13_commands_1
      rw [h4, if_pos (by decide), h1, if_neg (by rw [show (0 : Int32) = z 0 from rfl, z_eq (by omega) (by omega) (by omega) (by omega)]; omega), Wp_some, Nx_r]
      exact ⟨D', hf, Or.inr ⟨hJK, rfl, t, h2, h3, h1⟩⟩
    have walk : ∀ j k (D' : DD), 0 < k → k + j = J → FX2 D D' → MR D' (V k) → D'.1 140 = z 0 → D'.1 146 = z (G (k - 1)).2.2.2.2.2 → D'.1 149 = z ((0 : Nat) : Int) → RunP T_X13_commands (j + 2) 1 [z (k : Nat)] D' (fun r => ∃ D', FX2 D D' ∧ ((J = K ∧ r = (0, some (.int (z K)), D') ∧ MR D' (V K) ∧ D'.1 140 = z 0) ∨ (J < K ∧ r = (0, some (.int (z ((J + 1 : Nat)))), D') ∧ ∃ t : Int, 1 ≤ t ∧ t < 100 ∧ D'.1 140 = z t))) := by
      intro j
      induction j with
      | zero =>
        intro k D' hk hkJ hf hM' h1 h2 h3
        have hkJ : k = J := by omega
        subst hkJ
        have hX' := hRX D' hf
        have hl := (hG (k - 1) (by omega)).1.len
        refine RunP.mono (c := 1 + 1) ?_ (by omega)
        refine RunP.go ?_
        show Wp (b_X13_commands_1 _ _) _
        unfold b_X13_commands_1
        rw [h3, if_pos (by decide), h1, if_pos (by decide), hX'.1, h2]
        rcases hfin with hJK | ⟨hJK, hno⟩
        · rw [hJK, hend, if_pos (by rw [z_le (by omega) (by omega) (by omega) (by omega)]; omega), Wp_some, Nx_r]
          exact ⟨D', hf, Or.inl ⟨rfl, rfl, hJK ▸ hM', h1⟩⟩
        · obtain ⟨hgd, hnx⟩ := hG k hJK
          rcases hnx with ⟨h0, -⟩ | ⟨-, h59, hp⟩
          · omega
          have hlt := sg_pos (n := n) (T := T) (i := (G (k - 1)).2.2.2.2.2) (by omega)
          have hself := Rp_self h2 h3
          have hexp := m_expects (D := D') hX' (p := (G (k - 1)).2.2.2.2.2) (by omega) (c := 59) (by omega)
          rw [hself] at hexp
          obtain ⟨D2, t, r1, r2, r3, r4, r5, r6⟩ := cmdno D' k (V k) hJK hX' (by rw [hf.i (by omega)]; exact h150) hM' hno
          rw [if_neg (by rw [z_le (by omega) (by omega) (by omega) (by omega)]; omega), show (59 : Int32) = z ((59 : Nat) : Int) from rfl, hexp, cV_v, if_pos (show sg n T (G (k - 1)).2.2.2.2.2 = ((59 : Nat) : Int) from h59), show (Rp D' ((G (k - 1)).2.2.2.2.2 + 1) 0).1 149 = z ((0 : Nat) : Int) from rfl, if_pos (by decide), ← hp, r1, cV_v, show (1 : Int32) = z 1 from rfl, z_add, Wp_some, Nx_l]
          exact bad D2 t hJK (hf.trans r2) r3 r4 r5 r6
      | succ j ih =>
        intro k D' hk hkJ hf hM' h1 h2 h3
        have hX' := hRX D' hf
        have hl := (hG (k - 1) (by omega)).1.len
        obtain ⟨hgd, hnx⟩ := hG k (by omega)
        rcases hnx with ⟨h0, -⟩ | ⟨-, h59, hp⟩
        · omega
        have hlt := sg_pos (n := n) (T := T) (i := (G (k - 1)).2.2.2.2.2) (by omega)
        have hself := Rp_self h2 h3
        have hexp := m_expects (D := D') hX' (p := (G (k - 1)).2.2.2.2.2) (by omega) (c := 59) (by omega)
        rw [hself] at hexp
        obtain ⟨D2, r1, r2, r3, r4, r5, r6⟩ := cmdok D' k (V k) (V (k + 1)) (by omega) hX' (by rw [hf.i (by omega)]; exact h150) h1 hM' (hok k (by omega))
        refine RunP.mono (c := (j + 2) + 1) ?_ (by omega)
        refine RunP.go ?_
        show Wp (b_X13_commands_1 _ _) _
        unfold b_X13_commands_1
        rw [h3, if_pos (by decide), h1, if_pos (by decide), hX'.1, h2, if_neg (by rw [z_le (by omega) (by omega) (by omega) (by omega)]; omega), show (59 : Int32) = z ((59 : Nat) : Int) from rfl, hexp, cV_v, if_pos (show sg n T (G (k - 1)).2.2.2.2.2 = ((59 : Nat) : Int) from h59), show (Rp D' ((G (k - 1)).2.2.2.2.2 + 1) 0).1 149 = z ((0 : Nat) : Int) from rfl, if_pos (by decide), ← hp, r1, cV_v, show (1 : Int32) = z 1 from rfl, z_add, Wp_some, Nx_l]
        refine ih (k + 1) D2 (by omega) (by omega) (hf.trans r2) r3 r4 ?_ r6
        rw [show k + 1 - 1 = k by omega]
        exact r5
    refine RunP.fin (c := (J + 2) + 1) ?_ (by have : FUEL = 1000000 := rfl; omega)
    refine RunP.go ?_
    show Wp (b_X13_commands_0 _) _
    obtain ⟨hgd, hnx⟩ := hG 0 hK0
    rcases hnx with ⟨-, hp⟩ | ⟨h0, -⟩
    · by_cases hJ0 : J = 0
      · rcases hfin with hJK | ⟨hJK, hno⟩
        · omega
        · rw [hJ0] at hno
          obtain ⟨D2, t, r1, r2, r3, r4, r5, r6⟩ := cmdno D 0 (V 0) hK0 h h150 hM hno
          rw [hp] at r1
          unfold b_X13_commands_0
          rw [Rp_c, r1, cV_v, Wp_some, Nx_l]
          have := bad D2 t hJK r2 r3 r4 r5 r6
          rw [hJ0] at this
          rw [hJ0]
          exact this.mono (by omega)
      · obtain ⟨D2, r1, r2, r3, r4, r5, r6⟩ := cmdok D 0 (V 0) (V 1) hK0 h h150 h140 hM (hok 0 (by omega))
        rw [hp] at r1
        unfold b_X13_commands_0
        rw [Rp_c, r1, cV_v, Wp_some, Nx_l]
        exact (walk (J - 1) 1 D2 (by omega) (by omega) r2 r3 r4 r5 r6).mono (by omega)
    · omega
  obtain ⟨r, q1, D', q2, q3⟩ := key
  refine ⟨D', q2, ?_⟩
  rcases q3 with ⟨a1, rfl, a2⟩ | ⟨a1, rfl, a2⟩
  · exact Or.inl ⟨a1, q1, a2⟩
  · exact Or.inr ⟨a1, q1, a2⟩
end LL
