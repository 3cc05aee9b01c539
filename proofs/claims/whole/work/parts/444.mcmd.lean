/-! pure: commands read by the reference -/
theorem Rp_c (D : DD) : setI (setI D 146 (0 : Int32)) 149 (0 : Int32) = Rp D 0 0 := by
  unfold Rp setI
  dsimp only
  congr 1
  funext j
  unfold va_up
  by_cases h1 : j = 146 <;> by_cases h2 : j = 149 <;> simp [h1, h2] <;> rfl
theorem Rp_self {D : DD} {q b : Nat} (h1 : D.1 146 = z q) (h2 : D.1 149 = z b) : Rp D q b = D := by
  unfold Rp
  rw [← h2, setI_self, ← h1, setI_self]
theorem Rp_81 (D : DD) (g : Nat → Int32) (q b : Nat) : setA (Rp D q b) 81 g = Rp (setA D 81 g) q b := rfl
section LL
variable {D : DD} {n : Nat} {T : Nat → Nat} {p : Nat} {P : RT → Prop}
theorem cm_0 {w : Nat} (hw : w < 7) {E E2 : DD} (hE : S_X13_word E = some (0, some (.int (z (w : Nat))), E2)) (h149 : E2.1 149 = z ((0 : Nat) : Int)) : b_X13_command_0 E = cI (S_X13_number (z (wmg w)) E2) (fun r6 D5 => if wnp w = 1 then some (.inl (1, [z (w : Nat), z 0, z 0, r6], D5)) else if D5.1 149 = 0 then cI (S_X13_number (z (wmg w)) D5) (fun r9 D8 => some (.inl (1, [z (w : Nat), r9, z 0, r6], D8))) else some (.inl (1, [z (w : Nat), z 0, z 0, r6], D5))) := by
  unfold b_X13_command_0
  rw [hE, cI_i, h149, if_pos (by decide)]
  have : w = 0 ∨ w = 1 ∨ w = 2 ∨ w = 3 ∨ w = 4 ∨ w = 5 ∨ w = 6 := by omega
  rcases this with rfl | rfl | rfl | rfl | rfl | rfl | rfl <;> rfl
theorem cm_1 {w : Nat} (hw : w < 7) (x2 x3 x5 : Int32) (E : DD) : b_X13_command_1 (z (w : Nat)) x2 x3 x5 E = if wnp w = 3 then (if E.1 149 = 0 then cI (S_X13_number (z (wmg w)) E) (fun r44 D43 => some (.inl (2, [z (w : Nat), x2, r44, x5], D43))) else some (.inl (2, [z (w : Nat), x2, x3, x5], E))) else some (.inl (2, [z (w : Nat), x2, x3, x5], E)) := by
  unfold b_X13_command_1
  have : w = 0 ∨ w = 1 ∨ w = 2 ∨ w = 3 ∨ w = 4 ∨ w = 5 ∨ w = 6 := by omega
  rcases this with rfl | rfl | rfl | rfl | rfl | rfl | rfl <;> rfl
/-- a command's numbers, from behind its word -/
theorem m_pars (h : RX D n T) {w : Nat} (hw : WOk n T p w) (hpn : p ≤ n) (hok : (parF n T w (p + wlen w)).1 = true → ∀ g, RunP T_X13_command 3 2 [z (w : Nat), z (parF n T w (p + wlen w)).2.2.1, z (parF n T w (p + wlen w)).2.2.2.1, z (parF n T w (p + wlen w)).2.1] (Rp (setA D 81 g) (parF n T w (p + wlen w)).2.2.2.2 0) P) (hno : (parF n T w (p + wlen w)).1 = false → ∀ g, P (0, none, Rp (setA D 81 g) (parF n T w (p + wlen w)).2.2.2.2 1)) : RunP T_X13_command 10 0 [] (Rp D p 0) P := by
  have hw7 := hw.1
  have hle := hw.le
  have h60 := h.2.1
  obtain ⟨hn3, hm2, -, -, -⟩ := wnp_3 w hw7
  obtain ⟨g, hg⟩ := (m_word h hpn).1 w hw
  have hX : RX (setA D 81 g) n T := h.r81 g
  obtain ⟨a1, a2, a3, a4⟩ := numF_le (T := T) (m := wmg w) hle
  obtain ⟨x1, q1, q2⟩ := m_number hX hle hm2
  have bad : ∀ (q : Nat) (y2 y3 y5 : Int32), P (0, none, Rp (setA D 81 g) q 1) → RunP T_X13_command 3 1 [z (w : Nat), y2, y3, y5] (Rp (setA D 81 g) q 1) P := by
    intro q y2 y3 y5 hP
    have e149 : (Rp (setA D 81 g) q 1).1 149 = z ((1 : Nat) : Int) := rfl
    refine RunP.mono (c := (1 + 1) + 1) ?_ (by omega)
    refine RunP.go ?_
    show Wp (b_X13_command_1 _ _ _ _ _) _
    have e2 : b_X13_command_1 (z (w : Nat)) y2 y3 y5 (Rp (setA D 81 g) q 1) = some (.inl (2, [z (w : Nat), y2, y3, y5], Rp (setA D 81 g) q 1)) := by
      rw [cm_1 hw7]
      by_cases h3 : wnp w = 3
      · rw [if_pos h3, e149, if_neg (by decide)]
      · rw [if_neg h3]
    rw [e2, Wp_some, Nx_l]
    refine RunP.go ?_
    show Wp (b_X13_command_2 _ _ _ _ _) _
    unfold b_X13_command_2
    rw [e149, if_neg (by decide), Wp_some, Nx_r]
    exact hP
  refine RunP.mono (c := 9 + 1) ?_ (by omega)
  refine RunP.go ?_
  show Wp (b_X13_command_0 _) _
  rw [cm_0 hw7 hg rfl, q1, cI_i]
  by_cases h1 : (numF n T (wmg w) (p + wlen w)).1 = true
  · have hx1 := q2 h1
    rw [if_pos h1]
    have e149 : ∀ q, (Rp (setA D 81 g) q 0).1 149 = z ((0 : Nat) : Int) := fun _ => rfl
    by_cases n1 : wnp w = 1
    · rw [if_pos n1, Wp_some, Nx_l]
      refine RunP.mono (c := 3 + 1) ?_ (by omega)
      refine RunP.go ?_
      show Wp (b_X13_command_1 _ _ _ _ _) _
      rw [cm_1 hw7, if_neg (by omega), Wp_some, Nx_l, hx1]
      have e : parF n T w (p + wlen w) = (true, (numF n T (wmg w) (p + wlen w)).2.1, 0, 0, (numF n T (wmg w) (p + wlen w)).2.2) := by
        unfold parF
        rw [if_pos h1, if_pos n1]
      have := hok (by rw [e]) g
      rw [e] at this
      exact this
    · rw [if_neg n1, e149, if_pos (by decide)]
      obtain ⟨b1, b2, b3, b4⟩ := numF_le (T := T) (m := wmg w) a1
      obtain ⟨x2, r1, r2⟩ := m_number hX a1 hm2
      rw [r1, cI_i, Wp_some, Nx_l]
      by_cases h2 : (numF n T (wmg w) (numF n T (wmg w) (p + wlen w)).2.2).1 = true
      · have hx2 := r2 h2
        rw [if_pos h2]
        refine RunP.mono (c := 3 + 1) ?_ (by omega)
        refine RunP.go ?_
        show Wp (b_X13_command_1 _ _ _ _ _) _
        rw [cm_1 hw7]
        by_cases n2 : wnp w = 2
        · rw [if_neg (by omega), Wp_some, Nx_l, hx1, hx2]
          have e : parF n T w (p + wlen w) = (true, (numF n T (wmg w) (p + wlen w)).2.1, (numF n T (wmg w) (numF n T (wmg w) (p + wlen w)).2.2).2.1, 0, (numF n T (wmg w) (numF n T (wmg w) (p + wlen w)).2.2).2.2) := by
            unfold parF
            rw [if_pos h1, if_neg n1, if_pos h2, if_pos n2]
          have := hok (by rw [e]) g
          rw [e] at this
          exact this
        · rw [if_pos (show wnp w = 3 by omega), e149, if_pos (by decide)]
          obtain ⟨x3, s1, s2⟩ := m_number hX b1 hm2
          rw [s1, cI_i, Wp_some, Nx_l]
          by_cases h3 : (numF n T (wmg w) (numF n T (wmg w) (numF n T (wmg w) (p + wlen w)).2.2).2.2).1 = true
          · have hx3 := s2 h3
            rw [if_pos h3, hx1, hx2, hx3]
            have e : parF n T w (p + wlen w) = (true, (numF n T (wmg w) (p + wlen w)).2.1, (numF n T (wmg w) (numF n T (wmg w) (p + wlen w)).2.2).2.1, (numF n T (wmg w) (numF n T (wmg w) (numF n T (wmg w) (p + wlen w)).2.2).2.2).2.1, (numF n T (wmg w) (numF n T (wmg w) (numF n T (wmg w) (p + wlen w)).2.2).2.2).2.2) := by
              unfold parF
              rw [if_pos h1, if_neg n1, if_pos h2, if_neg n2, if_pos h3]
            have := hok (by rw [e]) g
            rw [e] at this
            exact this
          · rw [if_neg h3]
            have e : parF n T w (p + wlen w) = (false, 0, 0, 0, (numF n T (wmg w) (numF n T (wmg w) (numF n T (wmg w) (p + wlen w)).2.2).2.2).2.2) := by
              unfold parF
              rw [if_pos h1, if_neg n1, if_pos h2, if_neg n2, if_neg h3]
            have := hno (by rw [e]) g
            rw [e] at this
            refine RunP.mono (c := 0 + 1) ?_ (by omega)
            refine RunP.go ?_
            show Wp (b_X13_command_2 _ _ _ _ _) _
            unfold b_X13_command_2
            rw [show (Rp (setA D 81 g) (numF n T (wmg w) (numF n T (wmg w) (numF n T (wmg w) (p + wlen w)).2.2).2.2).2.2 1).1 149 = z ((1 : Nat) : Int) from rfl, if_neg (by decide), Wp_some, Nx_r]
            exact this
      · rw [if_neg h2]
        have e : parF n T w (p + wlen w) = (false, 0, 0, 0, (numF n T (wmg w) (numF n T (wmg w) (p + wlen w)).2.2).2.2) := by
          unfold parF
          rw [if_pos h1, if_neg n1, if_neg h2]
        have := hno (by rw [e]) g
        rw [e] at this
        exact (bad _ _ _ _ this).mono (by omega)
  · rw [if_neg h1]
    have e : parF n T w (p + wlen w) = (false, 0, 0, 0, (numF n T (wmg w) (p + wlen w)).2.2) := by
      unfold parF
      rw [if_neg h1]
    have := hno (by rw [e]) g
    rw [e] at this
    have e149 : (Rp (setA D 81 g) (numF n T (wmg w) (p + wlen w)).2.2 1).1 149 = z ((1 : Nat) : Int) := rfl
    have e2 : (if wnp w = 1 then some (Sum.inl (1, [z (w : Nat), z 0, z 0, x1], Rp (setA D 81 g) (numF n T (wmg w) (p + wlen w)).2.2 1)) else if (Rp (setA D 81 g) (numF n T (wmg w) (p + wlen w)).2.2 1).1 149 = 0 then cI (S_X13_number (z (wmg w)) (Rp (setA D 81 g) (numF n T (wmg w) (p + wlen w)).2.2 1)) (fun r9 D8 => some (Sum.inl (1, [z (w : Nat), r9, z 0, x1], D8))) else some (Sum.inl (1, [z (w : Nat), z 0, z 0, x1], Rp (setA D 81 g) (numF n T (wmg w) (p + wlen w)).2.2 1)) : Option ((Nat × List Int32 × DD) ⊕ RT)) = some (.inl (1, [z (w : Nat), z 0, z 0, x1], Rp (setA D 81 g) (numF n T (wmg w) (p + wlen w)).2.2 1)) := by
      rw [e149, if_neg (c := z ((1 : Nat) : Int) = 0) (by decide)]
      split <;> rfl
    rw [e2, Wp_some, Nx_l]
    exact (bad _ _ _ _ this).mono (by omega)
theorem m_cmd_no (h : RX D n T) (hpn : p ≤ n) {q : Nat} (hc : CF n T p q) : ∃ g, S_X13_command (Rp D p 0) = some (0, none, Rp (setA D 81 g) q 1) := by
  have key : ∃ r, run T_X13_command FUEL 0 [] (Rp D p 0) = some r ∧ ∃ g, r = (0, none, Rp (setA D 81 g) q 1) := by
    refine RunP.fin (c := 10) ?_ (by decide)
    rcases hc with ⟨m, hm, rfl⟩ | ⟨w, hw, hf, rfl⟩
    · obtain ⟨g, x, hg⟩ := (m_word h hpn).2 m hm
      refine RunP.mono (c := 0 + 1) ?_ (by omega)
      refine RunP.go ?_
      show Wp (b_X13_command_0 _) _
      unfold b_X13_command_0
      rw [hg, cI_i, show (Rp (setA D 81 g) (p + m) 1).1 149 = z ((1 : Nat) : Int) from rfl, if_neg (by decide), Wp_some, Nx_r]
      exact ⟨g, rfl⟩
    · exact m_pars h hw hpn (fun q => by rw [hf] at q; cases q) (fun _ g => ⟨g, rfl⟩)
  obtain ⟨r, h1, g, rfl⟩ := key
  exact ⟨g, h1⟩
theorem m_cmd_ok0 (h : RX D n T) {g : CG} (hg : Gd n T g) (h150 : D.1 150 = z 0) : ∃ g', S_X13_command (Rp D g.2.2.2.2.1 0) = some (0, none, Rp (setA D 81 g') g.2.2.2.2.2 0) := by
  obtain ⟨l1, l2, l3, -, -, -⟩ := hg.len
  obtain ⟨h1, h2⟩ := hg
  have key : ∃ r, run T_X13_command FUEL 0 [] (Rp D g.2.2.2.2.1 0) = some r ∧ ∃ g', r = (0, none, Rp (setA D 81 g') g.2.2.2.2.2 0) := by
    refine RunP.fin (c := 10) ?_ (by decide)
    refine m_pars h h1 (by omega) (fun _ g' => ?_) (fun q => by rw [h2] at q; cases q)
    rw [h2]
    refine RunP.mono (c := 0 + 1) ?_ (by omega)
    refine RunP.go ?_
    show Wp (b_X13_command_2 _ _ _ _ _) _
    unfold b_X13_command_2
    rw [show (Rp (setA D 81 g') g.2.2.2.2.2 0).1 149 = z ((0 : Nat) : Int) from rfl, if_pos (by decide), show (Rp (setA D 81 g') g.2.2.2.2.2 0).1 150 = z 0 from h150, if_pos (by decide), Wp_some, Nx_r]
    exact ⟨g', rfl⟩
  obtain ⟨r, q1, g', rfl⟩ := key
  exact ⟨g', q1⟩
theorem m_cmd_ok1 (h : RX D n T) {g : CG} (hg : Gd n T g) (h150 : D.1 150 = z 1) (hd : ∀ g', ∃ x D', S_X13_does (z g.1) (z g.2.1) (z g.2.2.1) (z g.2.2.2.1) (Rp (setA D 81 g') g.2.2.2.2.2 0) = some (0, some (.int x), D')) : ∃ g' x D', S_X13_does (z g.1) (z g.2.1) (z g.2.2.1) (z g.2.2.2.1) (Rp (setA D 81 g') g.2.2.2.2.2 0) = some (0, some (.int x), D') ∧ S_X13_command (Rp D g.2.2.2.2.1 0) = some (0, none, D') := by
  obtain ⟨l1, l2, l3, -, -, -⟩ := hg.len
  obtain ⟨h1, h2⟩ := hg
  have key : ∃ r, run T_X13_command FUEL 0 [] (Rp D g.2.2.2.2.1 0) = some r ∧ ∃ g' x D', S_X13_does (z g.1) (z g.2.1) (z g.2.2.1) (z g.2.2.2.1) (Rp (setA D 81 g') g.2.2.2.2.2 0) = some (0, some (.int x), D') ∧ r = (0, none, D') := by
    refine RunP.fin (c := 10) ?_ (by decide)
    refine m_pars h h1 (by omega) (fun _ g' => ?_) (fun q => by rw [h2] at q; cases q)
    rw [h2]
    obtain ⟨x, D', hx⟩ := hd g'
    refine RunP.mono (c := 0 + 1) ?_ (by omega)
    refine RunP.go ?_
    show Wp (b_X13_command_2 _ _ _ _ _) _
    unfold b_X13_command_2
    dsimp only
    rw [show (Rp (setA D 81 g') g.2.2.2.2.2 0).1 149 = z ((0 : Nat) : Int) from rfl, if_pos (by decide), show (Rp (setA D 81 g') g.2.2.2.2.2 0).1 150 = z 1 from h150, if_neg (by decide), hx, cI_i, Wp_some, Nx_r]
    exact ⟨g', x, D', hx, rfl⟩
  obtain ⟨r, q1, g', x, D', q2, rfl⟩ := key
  exact ⟨g', x, D', q2, q1⟩
/-- the first reading: nothing is done -/
theorem m_read (h : RX D n T) (h150 : D.1 150 = z 0) (h140 : D.1 140 = z 0) {K : Nat} {G : Nat → CG} (hG : GP n T K G) (hK : K ≤ 10) : (0 < K → (G (K - 1)).2.2.2.2.2 = n → ∃ g, S_X13_commands D = some (0, some (.int (z (K : Nat))), Rp (setA D 81 g) n 0)) ∧ ∀ e, PErr n T K G e → ∃ g x, S_X13_commands D = some (0, some (.int x), Rp (setA D 81 g) e 1) := by
  have h60 := h.2.1
  have hX : ∀ g, RX (setA D 81 g) n T := fun g => h.r81 g
  have e147 : ∀ g q b, (Rp (setA D 81 g) q b).1 147 = z n := fun _ _ _ => h.1
  have e140 : ∀ g q b, (Rp (setA D 81 g) q b).1 140 = z 0 := fun _ _ _ => h140
  have err : ∀ (P : RT → Prop) (k : Nat) g q, P (0, some (.int (z (k : Nat))), Rp (setA D 81 g) q 1) → RunP T_X13_commands 1 1 [z (k : Nat)] (Rp (setA D 81 g) q 1) P := by
    intro P k g q hP
    refine RunP.mono (c := 0 + 1) ?_ (by omega)
    refine RunP.go ?_
    show Wp (b_X13_commands_1 _ _) _
    unfold b_X13_commands_1
    rw [show (Rp (setA D 81 g) q 1).1 149 = z ((1 : Nat) : Int) from rfl, if_neg (by decide), Wp_some, Nx_r]
    exact hP
  have step : ∀ (P : RT → Prop) (c k : Nat) g, 0 < k → k < K → (∀ g', RunP T_X13_commands c 1 [z ((k + 1 : Nat))] (Rp (setA D 81 g') (G k).2.2.2.2.2 0) P) → RunP T_X13_commands (c + 1) 1 [z (k : Nat)] (Rp (setA D 81 g) (G (k - 1)).2.2.2.2.2 0) P := by
    intro P c k g hk0 hkK hn
    obtain ⟨hgd, hnx⟩ := hG k hkK
    have hl := (hG (k - 1) (by omega)).1.len
    rcases hnx with ⟨h0, -⟩ | ⟨-, h59, hp⟩
    · omega
    have hlt := sg_pos (n := n) (T := T) (i := (G (k - 1)).2.2.2.2.2) (by omega)
    obtain ⟨g', hg'⟩ := m_cmd_ok0 (D := setA D 81 g) (hX g) hgd h150
    refine RunP.go ?_
    show Wp (b_X13_commands_1 _ _) _
    unfold b_X13_commands_1
    rw [show (Rp (setA D 81 g) (G (k - 1)).2.2.2.2.2 0).1 149 = z ((0 : Nat) : Int) from rfl, if_pos (by decide), e140, if_pos (by decide), e147, show (Rp (setA D 81 g) (G (k - 1)).2.2.2.2.2 0).1 146 = z (G (k - 1)).2.2.2.2.2 from rfl, if_neg (by rw [z_le (by omega) (by omega) (by omega) (by omega)]; omega), show (59 : Int32) = z ((59 : Nat) : Int) from rfl, m_expects (hX g) (by omega) (by omega), cV_v, if_pos (show sg n T (G (k - 1)).2.2.2.2.2 = ((59 : Nat) : Int) from h59), show (Rp (setA D 81 g) ((G (k - 1)).2.2.2.2.2 + 1) 0).1 149 = z ((0 : Nat) : Int) from rfl, if_pos (by decide), ← hp, hg', cV_v, show (1 : Int32) = z 1 from rfl, z_add, Wp_some, Nx_l]
    have := hn g'
    rw [setA_two]
    exact this
  have first : ∀ (P : RT → Prop) (c : Nat), 0 < K → (∀ g', RunP T_X13_commands c 1 [z ((1 : Nat) : Int)] (Rp (setA D 81 g') (G 0).2.2.2.2.2 0) P) → RunP T_X13_commands (c + 1) 0 [] D P := by
    intro P c hK0 hn
    obtain ⟨hgd, hnx⟩ := hG 0 hK0
    rcases hnx with ⟨-, hp⟩ | ⟨h0, -⟩
    · obtain ⟨g', hg'⟩ := m_cmd_ok0 h hgd h150
      rw [hp] at hg'
      refine RunP.go ?_
      show Wp (b_X13_commands_0 _) _
      unfold b_X13_commands_0
      rw [Rp_c, hg', cV_v, Wp_some, Nx_l]
      exact hn g'
    · omega
  have walk : ∀ (P : RT → Prop) (c : Nat), (∀ g', RunP T_X13_commands c 1 [z (K : Nat)] (Rp (setA D 81 g') (G (K - 1)).2.2.2.2.2 0) P) → ∀ j k g, 0 < k → k + j = K → RunP T_X13_commands (c + j) 1 [z (k : Nat)] (Rp (setA D 81 g) (G (k - 1)).2.2.2.2.2 0) P := by
    intro P c hn j
    induction j with
    | zero =>
      intro k g hk hj
      have : k = K := by omega
      subst this
      exact hn g
    | succ j ih =>
      intro k g hk hj
      rw [← Nat.add_assoc]
      refine step P (c + j) k g hk (by omega) (fun g' => ?_)
      have := ih (k + 1) g' (by omega) (by omega)
      rw [show k + 1 - 1 = k by omega] at this
      exact this
  have all : ∀ (P : RT → Prop) (c : Nat), 0 < K → (∀ g', RunP T_X13_commands c 1 [z (K : Nat)] (Rp (setA D 81 g') (G (K - 1)).2.2.2.2.2 0) P) → RunP T_X13_commands (c + (K - 1) + 1) 0 [] D P := by
    intro P c hK0 hn
    exact first P _ hK0 (fun g' => walk P c hn (K - 1) 1 g' (by omega) (by omega))
  constructor
  · intro hK0 hend
    have key : ∃ r, run T_X13_commands FUEL 0 [] D = some r ∧ ∃ g, r = (0, some (.int (z (K : Nat))), Rp (setA D 81 g) n 0) := by
      refine RunP.fin (c := 1 + (K - 1) + 1) ?_ (by have : FUEL = 1000000 := rfl; omega)
      refine all _ 1 hK0 (fun g' => ?_)
      refine RunP.mono (c := 0 + 1) ?_ (by omega)
      refine RunP.go ?_
      show Wp (b_X13_commands_1 _ _) _
      unfold b_X13_commands_1
      rw [hend, show (Rp (setA D 81 g') n 0).1 149 = z ((0 : Nat) : Int) from rfl, if_pos (by decide), e140, if_pos (by decide), e147, show (Rp (setA D 81 g') n 0).1 146 = z n from rfl, if_pos (by rw [z_le (by omega) (by omega) (by omega) (by omega)]; omega), Wp_some, Nx_r]
      exact ⟨g', rfl⟩
    obtain ⟨r, h1, g, rfl⟩ := key
    exact ⟨g, h1⟩
  · intro e he
    have key : ∃ r, run T_X13_commands FUEL 0 [] D = some r ∧ ∃ g x, r = (0, some (.int x), Rp (setA D 81 g) e 1) := by
      refine RunP.fin (c := 2 + (K - 1) + 1) ?_ (by have : FUEL = 1000000 := rfl; omega)
      rcases he with ⟨hK0, hne, h59, rfl⟩ | ⟨p, hN, hpn, hCF⟩
      · refine all _ 2 hK0 (fun g' => ?_)
        have hl := (hG (K - 1) (by omega)).1.len
        refine RunP.mono (c := 1 + 1) ?_ (by omega)
        refine RunP.go ?_
        show Wp (b_X13_commands_1 _ _) _
        unfold b_X13_commands_1
        rw [show (Rp (setA D 81 g') (G (K - 1)).2.2.2.2.2 0).1 149 = z ((0 : Nat) : Int) from rfl, if_pos (by decide), e140, if_pos (by decide), e147, show (Rp (setA D 81 g') (G (K - 1)).2.2.2.2.2 0).1 146 = z (G (K - 1)).2.2.2.2.2 from rfl, if_neg (by rw [z_le (by omega) (by omega) (by omega) (by omega)]; omega), show (59 : Int32) = z ((59 : Nat) : Int) from rfl, m_expects (hX g') (by omega) (by omega), cV_v, if_neg (show ¬ sg n T (G (K - 1)).2.2.2.2.2 = ((59 : Nat) : Int) from h59), show (Rp (setA D 81 g') (G (K - 1)).2.2.2.2.2 1).1 149 = z ((1 : Nat) : Int) from rfl, if_neg (by decide), show (1 : Int32) = z 1 from rfl, z_add, Wp_some, Nx_l]
        exact err _ (K + 1) g' _ ⟨g', _, rfl⟩
      · rcases hN with ⟨h0, rfl⟩ | ⟨hK0, h59, hp⟩
        · obtain ⟨g', hg'⟩ := m_cmd_no h (by omega) hCF
          refine RunP.mono (c := 1 + 1) ?_ (by omega)
          refine RunP.go ?_
          show Wp (b_X13_commands_0 _) _
          unfold b_X13_commands_0
          rw [Rp_c, hg', cV_v, Wp_some, Nx_l]
          exact err _ 1 g' _ ⟨g', _, rfl⟩
        · refine all _ 2 hK0 (fun g => ?_)
          have hl := (hG (K - 1) (by omega)).1.len
          have hlt := sg_pos (n := n) (T := T) (i := (G (K - 1)).2.2.2.2.2) (by omega)
          obtain ⟨g', hg'⟩ := m_cmd_no (D := setA D 81 g) (hX g) hpn hCF
          refine RunP.mono (c := 1 + 1) ?_ (by omega)
          refine RunP.go ?_
          show Wp (b_X13_commands_1 _ _) _
          unfold b_X13_commands_1
          rw [show (Rp (setA D 81 g) (G (K - 1)).2.2.2.2.2 0).1 149 = z ((0 : Nat) : Int) from rfl, if_pos (by decide), e140, if_pos (by decide), e147, show (Rp (setA D 81 g) (G (K - 1)).2.2.2.2.2 0).1 146 = z (G (K - 1)).2.2.2.2.2 from rfl, if_neg (by rw [z_le (by omega) (by omega) (by omega) (by omega)]; omega), show (59 : Int32) = z ((59 : Nat) : Int) from rfl, m_expects (hX g) (by omega) (by omega), cV_v, if_pos (show sg n T (G (K - 1)).2.2.2.2.2 = ((59 : Nat) : Int) from h59), show (Rp (setA D 81 g) ((G (K - 1)).2.2.2.2.2 + 1) 0).1 149 = z ((0 : Nat) : Int) from rfl, if_pos (by decide), ← hp, hg', cV_v, show (1 : Int32) = z 1 from rfl, z_add, Wp_some, Nx_l, setA_two]
          exact err _ (K + 1) g' _ ⟨g', _, rfl⟩
    obtain ⟨r, h1, g, x, rfl⟩ := key
    exact ⟨g, x, h1⟩
end LL
